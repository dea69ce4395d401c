def w_L_open (g0 : gS) (p0 : Nat) (p1 : Int32) (p2 : Int32) (p3 : Nat) (Q : Int32 → gS → Prop) : Prop :=
  gK g0 p0 = 11 ∧ (w_X10_open g0 p0 p1 p2 (fun x2 g3 => (gK g3 p3 = 23 ∧ (vp_in 0 (gN g3 p3) ∧ (∀ g7, g7 = sW g3 p3 (Int32.toNatClampNeg 0) x2.toInt64 → (Q 0 g7))))) (fun E gx12 => (E = "java/lang/IllegalArgumentException" ∧ (Q 1 gx12)) ∨ (E = "java/lang/IllegalStateException" ∧ (Q 2 gx12))))
abbrev r_L_open : Room := { frames := 7, cells := 14, slots := 131, locals := 104 }
set_option maxHeartbeats 4000000 in
set_option maxRecDepth 100000 in
theorem c_L_open {l : Launch} {D : va_G} {cA : Nat → ClassId} {sz : Nat} {g0 : gS} {p0 : Nat} {p1 : Int32} {p2 : Int32} {p3 : Nat} {Q : Int32 → gS → Prop} (hflags : l.stackTraces = false) (h : w_L_open g0 p0 p1 p2 p3 Q) : Met l yL_open wsL_open r_L_open (va_Pc [.ref p0, .int p1, .int p2, .ref p3] (gPre D cA g0 sz)) (gQi D cA g0 sz (Q)) 14 131 (gA g0 sz) := by
  refine g_metH (cc := cL_open) (maxL := 5) (ret := (some .int)) (hh := [(0, 10, 13, 13), (0, 10, 17, 15)]) (own := RL) (by decide) rfl rfl (Nat.le_of_ble_eq_true rfl) ?_
  intro p e s m args below meth c ls CF hr hlk hnm hxt hc hl
  obtain ⟨hx, hb, hml, hown, hts⟩ := id CF
  have hl : lv_has ls 5 [(0, .ref p0), (1, .int p1), (2, .int p2), (3, .ref p3)] := hl
  show W p l e r_L_open s m args below meth c s.heap [] 0 0 (MQ below (gQi D cA g0 sz (Q)) args s 14 131 (gA g0 sz)) (F0 m 0 ls [])
  unfold w_L_open at h
  obtain ⟨H, hH0⟩ : ∃ z, z = s.heap := ⟨_, rfl⟩
  rw [← hH0] at hc ⊢
  obtain ⟨locs, hlc0⟩ : ∃ z : List Loc, z = [] := ⟨_, rfl⟩
  rw [← hlc0] at hc ⊢
  refine lv_aload_n hx hb dL_open_0 rfl (lv_at hl 3 rfl) ?_
  refine lv_iconst (v := 0) hx hb dL_open_1 (by decide) ?_
  refine lv_aload_n hx hb dL_open_2 rfl (lv_at hl 0 rfl) ?_
  refine lv_iload_n hx hb dL_open_3 rfl (lv_at hl 1 rfl) ?_
  refine lv_iload_n hx hb dL_open_4 rfl (lv_at hl 2 rfl) ?_
  obtain ⟨hk1, h⟩ := h
  refine g_xcalli (vx_runV (As := [.int p1, .int p2]) (rest := [.int 0, .ref p3]) CF (c_X10_open hflags h) (cwV 2 hts gL_open_X10_open rfl rfl rfl (by decide +kernel) ⟨Nat.le_of_ble_eq_true rfl, Nat.le_of_ble_eq_true rfl⟩) (hc.preV hk1 rfl (by decide)) rfl rfl hl.1 rfl (lv_room (Nat.le_of_ble_eq_true rfl)) dL_open_5 ⟨Nat.le_of_ble_eq_true rfl, Nat.le_of_ble_eq_true rfl⟩) hc (fun E9 ce10 a11 gx12 H locs hq hc hcell hcv hccl => ?_) (fun x2 g3 H locs hq hc => ?_)
  · replace h := hq
    refine vx_widen (k := 14) (n := 131) (Nat.le_of_ble_eq_true rfl) (Nat.le_of_ble_eq_true rfl) ?_
    rcases h with ⟨rfl, h⟩ | ⟨rfl, h⟩
    · refine vx_catch (name := "java/lang/IllegalArgumentException") hown [] ⟨0, 10, 13, 13⟩ [⟨0, 10, 17, 15⟩] (hxt.trans rfl) (fun z hz => nomatch hz) (by decide) (by decide) (hts _ (List.mem_cons_of_mem _ (List.mem_append_left _ (List.mem_append_left _ (List.mem_append_left _ (List.mem_append_left _ (List.mem_append_left _ (List.mem_append_left _ (List.mem_append_left _ (List.mem_of_getElem? (i := 0) rfl)))))))))) (va_Nw.use rfl (hc.1.2.1 (.castable "java/lang/IllegalArgumentException" "java/lang/IllegalArgumentException") (by decide +kernel))) hcell hcv hccl ?_
      refine lv_astore (lv' := [(4, .ref a11), (0, .ref p0), (1, .int p1), (2, .int p2), (3, .ref p3)]) hx hb dL_open_13 hl (by decide) rfl (fun ls hl => ?_)
      refine lv_iconst (v := 1) hx hb dL_open_15 (by decide) ?_
      exact g_reti (r := 1) CF hr hlk hc rfl h dL_open_16
    · refine vx_catch (name := "java/lang/IllegalStateException") hown [⟨0, 10, 13, 13⟩] ⟨0, 10, 17, 15⟩ [] (hxt.trans rfl) (List.forall_mem_cons.mpr ⟨Or.inr ⟨by decide, "java/lang/IllegalArgumentException", hts _ (List.mem_cons_of_mem _ (List.mem_append_left _ (List.mem_append_left _ (List.mem_append_left _ (List.mem_append_left _ (List.mem_append_left _ (List.mem_append_left _ (List.mem_append_left _ (List.mem_of_getElem? (i := 0) rfl))))))))), hc.1.2.2.2.2.2.2.2 ("java/lang/IllegalStateException", "java/lang/IllegalArgumentException") (by decide)⟩, fun _ hz => nomatch hz⟩) (by decide) (by decide) (hts _ (List.mem_cons_of_mem _ (List.mem_append_left _ (List.mem_append_left _ (List.mem_append_left _ (List.mem_append_left _ (List.mem_append_left _ (List.mem_append_left _ (List.mem_append_left _ (List.mem_of_getElem? (i := 1) rfl)))))))))) (va_Nw.use rfl (hc.1.2.1 (.castable "java/lang/IllegalStateException" "java/lang/IllegalStateException") (by decide +kernel))) hcell hcv hccl ?_
      refine lv_astore (lv' := [(4, .ref a11), (0, .ref p0), (1, .int p1), (2, .int p2), (3, .ref p3)]) hx hb dL_open_17 hl (by decide) rfl (fun ls hl => ?_)
      refine lv_iconst (v := 2) hx hb dL_open_19 (by decide) ?_
      exact g_reti (r := 2) CF hr hlk hc rfl h dL_open_20
  · replace h := hq
    refine W.widen (k := 14) (n := 131) (Nat.le_of_ble_eq_true rfl) (Nat.le_of_ble_eq_true rfl) ?_
    refine lv_i2l hx hb dL_open_8 rfl ?_
    obtain ⟨hk5, h⟩ := h
    obtain ⟨hi6, h⟩ := h
    refine g_last CF hc hk5 (x := x2.toInt64) hi6 dL_open_9 (fun H locs hc => ?_)
    obtain ⟨g7, eg8⟩ : ∃ z, z = sW g3 p3 (Int32.toNatClampNeg 0) x2.toInt64 := ⟨_, rfl⟩
    have hc : gC D cA (gA g0 sz) s g7 H locs := by rw [eg8]; exact hc
    replace h := h g7 eg8
    refine lv_goto (tgt := 21) hx hb dL_open_10 (by decide) ?_
    refine lv_iconst (v := 0) hx hb dL_open_21 (by decide) ?_
    exact g_reti (r := 0) CF hr hlk hc rfl h dL_open_22
def w_L_write (g0 : gS) (p0 : Nat) (p1 : Int32) (p2 : Int32) (p3 : Nat) (Q : Int32 → gS → Prop) : Prop :=
  gK g0 p0 = 11 ∧ (w_X10_write g0 p0 p1 p2 (fun x2 g3 => (gK g3 p3 = 23 ∧ (vp_in 0 (gN g3 p3) ∧ (∀ g7, g7 = sW g3 p3 (Int32.toNatClampNeg 0) x2.toInt64 → (Q 0 g7))))) (fun E gx12 => (E = "java/lang/IllegalArgumentException" ∧ (Q 1 gx12)) ∨ (E = "java/lang/IllegalStateException" ∧ (Q 2 gx12))))
abbrev r_L_write : Room := { frames := 7, cells := 1, slots := 6, locals := 106 }
set_option maxHeartbeats 4000000 in
set_option maxRecDepth 100000 in
theorem c_L_write {l : Launch} {D : va_G} {cA : Nat → ClassId} {sz : Nat} {g0 : gS} {p0 : Nat} {p1 : Int32} {p2 : Int32} {p3 : Nat} {Q : Int32 → gS → Prop} (hflags : l.stackTraces = false) (h : w_L_write g0 p0 p1 p2 p3 Q) : Met l yL_write wsL_write r_L_write (va_Pc [.ref p0, .int p1, .int p2, .ref p3] (gPre D cA g0 sz)) (gQi D cA g0 sz (Q)) 1 6 (gA g0 sz) := by
  refine g_metH (cc := cL_write) (maxL := 5) (ret := (some .int)) (hh := [(0, 10, 13, 13), (0, 10, 17, 15)]) (own := RL) (by decide) rfl rfl (Nat.le_of_ble_eq_true rfl) ?_
  intro p e s m args below meth c ls CF hr hlk hnm hxt hc hl
  obtain ⟨hx, hb, hml, hown, hts⟩ := id CF
  have hl : lv_has ls 5 [(0, .ref p0), (1, .int p1), (2, .int p2), (3, .ref p3)] := hl
  show W p l e r_L_write s m args below meth c s.heap [] 0 0 (MQ below (gQi D cA g0 sz (Q)) args s 1 6 (gA g0 sz)) (F0 m 0 ls [])
  unfold w_L_write at h
  obtain ⟨H, hH0⟩ : ∃ z, z = s.heap := ⟨_, rfl⟩
  rw [← hH0] at hc ⊢
  obtain ⟨locs, hlc0⟩ : ∃ z : List Loc, z = [] := ⟨_, rfl⟩
  rw [← hlc0] at hc ⊢
  refine lv_aload_n hx hb dL_write_0 rfl (lv_at hl 3 rfl) ?_
  refine lv_iconst (v := 0) hx hb dL_write_1 (by decide) ?_
  refine lv_aload_n hx hb dL_write_2 rfl (lv_at hl 0 rfl) ?_
  refine lv_iload_n hx hb dL_write_3 rfl (lv_at hl 1 rfl) ?_
  refine lv_iload_n hx hb dL_write_4 rfl (lv_at hl 2 rfl) ?_
  obtain ⟨hk1, h⟩ := h
  refine g_xcalli (vx_runV (As := [.int p1, .int p2]) (rest := [.int 0, .ref p3]) CF (c_X10_write hflags h) (cwV 2 hts gL_write_X10_write rfl rfl rfl (by decide +kernel) ⟨Nat.le_of_ble_eq_true rfl, Nat.le_of_ble_eq_true rfl⟩) (hc.preV hk1 rfl (by decide)) rfl rfl hl.1 rfl (lv_room (Nat.le_of_ble_eq_true rfl)) dL_write_5 ⟨Nat.le_of_ble_eq_true rfl, Nat.le_of_ble_eq_true rfl⟩) hc (fun E9 ce10 a11 gx12 H locs hq hc hcell hcv hccl => ?_) (fun x2 g3 H locs hq hc => ?_)
  · replace h := hq
    refine vx_widen (k := 1) (n := 6) (Nat.le_of_ble_eq_true rfl) (Nat.le_of_ble_eq_true rfl) ?_
    rcases h with ⟨rfl, h⟩ | ⟨rfl, h⟩
    · refine vx_catch (name := "java/lang/IllegalArgumentException") hown [] ⟨0, 10, 13, 13⟩ [⟨0, 10, 17, 15⟩] (hxt.trans rfl) (fun z hz => nomatch hz) (by decide) (by decide) (hts _ (List.mem_cons_of_mem _ (List.mem_append_left _ (List.mem_append_left _ (List.mem_append_left _ (List.mem_append_left _ (List.mem_append_left _ (List.mem_append_left _ (List.mem_append_left _ (List.mem_of_getElem? (i := 0) rfl)))))))))) (va_Nw.use rfl (hc.1.2.1 (.castable "java/lang/IllegalArgumentException" "java/lang/IllegalArgumentException") (by decide +kernel))) hcell hcv hccl ?_
      refine lv_astore (lv' := [(4, .ref a11), (0, .ref p0), (1, .int p1), (2, .int p2), (3, .ref p3)]) hx hb dL_write_13 hl (by decide) rfl (fun ls hl => ?_)
      refine lv_iconst (v := 1) hx hb dL_write_15 (by decide) ?_
      exact g_reti (r := 1) CF hr hlk hc rfl h dL_write_16
    · refine vx_catch (name := "java/lang/IllegalStateException") hown [⟨0, 10, 13, 13⟩] ⟨0, 10, 17, 15⟩ [] (hxt.trans rfl) (List.forall_mem_cons.mpr ⟨Or.inr ⟨by decide, "java/lang/IllegalArgumentException", hts _ (List.mem_cons_of_mem _ (List.mem_append_left _ (List.mem_append_left _ (List.mem_append_left _ (List.mem_append_left _ (List.mem_append_left _ (List.mem_append_left _ (List.mem_append_left _ (List.mem_of_getElem? (i := 0) rfl))))))))), hc.1.2.2.2.2.2.2.2 ("java/lang/IllegalStateException", "java/lang/IllegalArgumentException") (by decide)⟩, fun _ hz => nomatch hz⟩) (by decide) (by decide) (hts _ (List.mem_cons_of_mem _ (List.mem_append_left _ (List.mem_append_left _ (List.mem_append_left _ (List.mem_append_left _ (List.mem_append_left _ (List.mem_append_left _ (List.mem_append_left _ (List.mem_of_getElem? (i := 1) rfl)))))))))) (va_Nw.use rfl (hc.1.2.1 (.castable "java/lang/IllegalStateException" "java/lang/IllegalStateException") (by decide +kernel))) hcell hcv hccl ?_
      refine lv_astore (lv' := [(4, .ref a11), (0, .ref p0), (1, .int p1), (2, .int p2), (3, .ref p3)]) hx hb dL_write_17 hl (by decide) rfl (fun ls hl => ?_)
      refine lv_iconst (v := 2) hx hb dL_write_19 (by decide) ?_
      exact g_reti (r := 2) CF hr hlk hc rfl h dL_write_20
  · replace h := hq
    refine W.widen (k := 1) (n := 6) (Nat.le_of_ble_eq_true rfl) (Nat.le_of_ble_eq_true rfl) ?_
    refine lv_i2l hx hb dL_write_8 rfl ?_
    obtain ⟨hk5, h⟩ := h
    obtain ⟨hi6, h⟩ := h
    refine g_last CF hc hk5 (x := x2.toInt64) hi6 dL_write_9 (fun H locs hc => ?_)
    obtain ⟨g7, eg8⟩ : ∃ z, z = sW g3 p3 (Int32.toNatClampNeg 0) x2.toInt64 := ⟨_, rfl⟩
    have hc : gC D cA (gA g0 sz) s g7 H locs := by rw [eg8]; exact hc
    replace h := h g7 eg8
    refine lv_goto (tgt := 21) hx hb dL_write_10 (by decide) ?_
    refine lv_iconst (v := 0) hx hb dL_write_21 (by decide) ?_
    exact g_reti (r := 0) CF hr hlk hc rfl h dL_write_22
def w_L_close (g0 : gS) (p0 : Nat) (p1 : Nat) (Q : Int32 → gS → Prop) : Prop :=
  gK g0 p0 = 11 ∧ (w_X10_close g0 p0 (fun x2 g3 => (gK g3 p1 = 23 ∧ (vp_in 0 (gN g3 p1) ∧ (∀ g7, g7 = sW g3 p1 (Int32.toNatClampNeg 0) x2.toInt64 → (Q 0 g7))))) (fun E gx12 => (E = "java/lang/IllegalStateException" ∧ (Q 1 gx12))))
abbrev r_L_close : Room := { frames := 7, cells := 1, slots := 6, locals := 102 }
set_option maxHeartbeats 4000000 in
set_option maxRecDepth 100000 in
theorem c_L_close {l : Launch} {D : va_G} {cA : Nat → ClassId} {sz : Nat} {g0 : gS} {p0 : Nat} {p1 : Nat} {Q : Int32 → gS → Prop} (hflags : l.stackTraces = false) (h : w_L_close g0 p0 p1 Q) : Met l yL_close wsL_close r_L_close (va_Pc [.ref p0, .ref p1] (gPre D cA g0 sz)) (gQi D cA g0 sz (Q)) 1 6 (gA g0 sz) := by
  refine g_metH (cc := cL_close) (maxL := 3) (ret := (some .int)) (hh := [(0, 8, 11, 15)]) (own := RL) (by decide) rfl rfl (Nat.le_of_ble_eq_true rfl) ?_
  intro p e s m args below meth c ls CF hr hlk hnm hxt hc hl
  obtain ⟨hx, hb, hml, hown, hts⟩ := id CF
  have hl : lv_has ls 3 [(0, .ref p0), (1, .ref p1)] := hl
  show W p l e r_L_close s m args below meth c s.heap [] 0 0 (MQ below (gQi D cA g0 sz (Q)) args s 1 6 (gA g0 sz)) (F0 m 0 ls [])
  unfold w_L_close at h
  obtain ⟨H, hH0⟩ : ∃ z, z = s.heap := ⟨_, rfl⟩
  rw [← hH0] at hc ⊢
  obtain ⟨locs, hlc0⟩ : ∃ z : List Loc, z = [] := ⟨_, rfl⟩
  rw [← hlc0] at hc ⊢
  refine lv_aload_n hx hb dL_close_0 rfl (lv_at hl 1 rfl) ?_
  refine lv_iconst (v := 0) hx hb dL_close_1 (by decide) ?_
  refine lv_aload_n hx hb dL_close_2 rfl (lv_at hl 0 rfl) ?_
  obtain ⟨hk1, h⟩ := h
  refine g_xcalli (vx_runV (As := []) (rest := [.int 0, .ref p1]) CF (c_X10_close hflags h) (cwV 0 hts gL_close_X10_close rfl rfl rfl (by decide +kernel) ⟨Nat.le_of_ble_eq_true rfl, Nat.le_of_ble_eq_true rfl⟩) (hc.preV hk1 rfl (by decide)) rfl rfl hl.1 rfl (lv_room (Nat.le_of_ble_eq_true rfl)) dL_close_3 ⟨Nat.le_of_ble_eq_true rfl, Nat.le_of_ble_eq_true rfl⟩) hc (fun E9 ce10 a11 gx12 H locs hq hc hcell hcv hccl => ?_) (fun x2 g3 H locs hq hc => ?_)
  · replace h := hq
    refine vx_widen (k := 1) (n := 6) (Nat.le_of_ble_eq_true rfl) (Nat.le_of_ble_eq_true rfl) ?_
    rcases h with ⟨rfl, h⟩
    · refine vx_catch (name := "java/lang/IllegalStateException") hown [] ⟨0, 8, 11, 15⟩ [] (hxt.trans rfl) (fun z hz => nomatch hz) (by decide) (by decide) (hts _ (List.mem_cons_of_mem _ (List.mem_append_left _ (List.mem_append_left _ (List.mem_append_left _ (List.mem_append_left _ (List.mem_append_left _ (List.mem_of_getElem? (i := 0) rfl)))))))) (va_Nw.use rfl (hc.1.2.1 (.castable "java/lang/IllegalStateException" "java/lang/IllegalStateException") (by decide +kernel))) hcell hcv hccl ?_
      refine lv_astore_n (lv' := [(2, .ref a11), (0, .ref p0), (1, .ref p1)]) hx hb dL_close_11 rfl hl (by decide) rfl (fun ls hl => ?_)
      refine lv_iconst (v := 1) hx hb dL_close_12 (by decide) ?_
      exact g_reti (r := 1) CF hr hlk hc rfl h dL_close_13
  · replace h := hq
    refine W.widen (k := 1) (n := 6) (Nat.le_of_ble_eq_true rfl) (Nat.le_of_ble_eq_true rfl) ?_
    refine lv_i2l hx hb dL_close_6 rfl ?_
    obtain ⟨hk5, h⟩ := h
    obtain ⟨hi6, h⟩ := h
    refine g_last CF hc hk5 (x := x2.toInt64) hi6 dL_close_7 (fun H locs hc => ?_)
    obtain ⟨g7, eg8⟩ : ∃ z, z = sW g3 p1 (Int32.toNatClampNeg 0) x2.toInt64 := ⟨_, rfl⟩
    have hc : gC D cA (gA g0 sz) s g7 H locs := by rw [eg8]; exact hc
    replace h := h g7 eg8
    refine lv_goto (tgt := 14) hx hb dL_close_8 (by decide) ?_
    refine lv_iconst (v := 0) hx hb dL_close_14 (by decide) ?_
    exact g_reti (r := 0) CF hr hlk hc rfl h dL_close_15
def b_L_remove_15 (g : gS) (rs0 : Nat) (is1 : Int32) (js2 : Int64) (Q : Int32 → gS → Prop) : Prop :=
  gK g rs0 = 23 ∧ (vp_in is1 (gN g rs0) ∧ (∀ g3, g3 = sW g rs0 (Int32.toNatClampNeg is1) js2 → (Q 0 g3)))
def w_L_remove (g0 : gS) (p0 : Nat) (p1 : Int32) (p2 : Nat) (Q : Int32 → gS → Prop) : Prop :=
  gK g0 p0 = 11 ∧ (w_X10_remove g0 p0 p1 (fun x6 g7 => ((x6 = 0 → (b_L_remove_15 g7 p2 0 0 Q)) ∧ (¬ x6 = 0 → (b_L_remove_15 g7 p2 0 1 Q)))) (fun E gx13 => (E = "java/lang/IndexOutOfBoundsException" ∧ (Q 1 gx13))))
abbrev r_L_remove : Room := { frames := 7, cells := 1, slots := 6, locals := 105 }
set_option maxHeartbeats 4000000 in
set_option maxRecDepth 100000 in
theorem c_L_remove {l : Launch} {D : va_G} {cA : Nat → ClassId} {sz : Nat} {g0 : gS} {p0 : Nat} {p1 : Int32} {p2 : Nat} {Q : Int32 → gS → Prop} (hflags : l.stackTraces = false) (h : w_L_remove g0 p0 p1 p2 Q) : Met l yL_remove wsL_remove r_L_remove (va_Pc [.ref p0, .int p1, .ref p2] (gPre D cA g0 sz)) (gQi D cA g0 sz (Q)) 1 6 (gA g0 sz) := by
  refine g_metH (cc := cL_remove) (maxL := 4) (ret := (some .int)) (hh := [(0, 16, 19, 28)]) (own := RL) (by decide) rfl rfl (Nat.le_of_ble_eq_true rfl) ?_
  intro p e s m args below meth c ls CF hr hlk hnm hxt hc hl
  obtain ⟨hx, hb, hml, hown, hts⟩ := id CF
  have hl : lv_has ls 4 [(0, .ref p0), (1, .int p1), (2, .ref p2)] := hl
  show W p l e r_L_remove s m args below meth c s.heap [] 0 0 (MQ below (gQi D cA g0 sz (Q)) args s 1 6 (gA g0 sz)) (F0 m 0 ls [])
  have hb_15 : ∀ (g : gS) (rs0 : Nat) (is1 : Int32) (js2 : Int64), b_L_remove_15 g rs0 is1 js2 Q → ∀ (H : Heap) (locs : List Loc) (ls : Array Slot), gC D cA (gA g0 sz) s g H locs → lv_has ls 4 [] → W p l e r_L_remove s m args below meth c H locs 1 6 (MQ below (gQi D cA g0 sz (Q)) args s 1 6 (gA g0 sz)) (F0 m 15 ls [.long js2, .int is1, .ref rs0]) := by
    intro g rs0 is1 js2 h H locs ls hc hl
    unfold b_L_remove_15 at h
    obtain ⟨hk1, h⟩ := h
    obtain ⟨hi2, h⟩ := h
    refine g_last CF hc hk1 (x := js2) hi2 dL_remove_15 (fun H locs hc => ?_)
    obtain ⟨g3, eg4⟩ : ∃ z, z = sW g rs0 (Int32.toNatClampNeg is1) js2 := ⟨_, rfl⟩
    have hc : gC D cA (gA g0 sz) s g3 H locs := by rw [eg4]; exact hc
    replace h := h g3 eg4
    refine lv_goto (tgt := 22) hx hb dL_remove_16 (by decide) ?_
    refine lv_iconst (v := 0) hx hb dL_remove_22 (by decide) ?_
    exact g_reti (r := 0) CF hr hlk hc rfl h dL_remove_23
  unfold w_L_remove at h
  obtain ⟨H, hH0⟩ : ∃ z, z = s.heap := ⟨_, rfl⟩
  rw [← hH0] at hc ⊢
  obtain ⟨locs, hlc0⟩ : ∃ z : List Loc, z = [] := ⟨_, rfl⟩
  rw [← hlc0] at hc ⊢
  refine lv_aload_n hx hb dL_remove_0 rfl (lv_at hl 2 rfl) ?_
  refine lv_iconst (v := 0) hx hb dL_remove_1 (by decide) ?_
  refine lv_aload_n hx hb dL_remove_2 rfl (lv_at hl 0 rfl) ?_
  refine lv_iload_n hx hb dL_remove_3 rfl (lv_at hl 1 rfl) ?_
  obtain ⟨hk5, h⟩ := h
  refine g_xcalli (vx_runV (As := [.int p1]) (rest := [.int 0, .ref p2]) CF (c_X10_remove hflags h) (cwV 1 hts gL_remove_X10_remove rfl rfl rfl (by decide +kernel) ⟨Nat.le_of_ble_eq_true rfl, Nat.le_of_ble_eq_true rfl⟩) (hc.preV hk5 rfl (by decide)) rfl rfl hl.1 rfl (lv_room (Nat.le_of_ble_eq_true rfl)) dL_remove_4 ⟨Nat.le_of_ble_eq_true rfl, Nat.le_of_ble_eq_true rfl⟩) hc (fun E10 ce11 a12 gx13 H locs hq hc hcell hcv hccl => ?_) (fun x6 g7 H locs hq hc => ?_)
  · replace h := hq
    refine vx_widen (k := 1) (n := 6) (Nat.le_of_ble_eq_true rfl) (Nat.le_of_ble_eq_true rfl) ?_
    rcases h with ⟨rfl, h⟩
    · refine vx_catch (name := "java/lang/IndexOutOfBoundsException") hown [] ⟨0, 16, 19, 28⟩ [] (hxt.trans rfl) (fun z hz => nomatch hz) (by decide) (by decide) (hts _ (List.mem_cons_of_mem _ (List.mem_append_left _ (List.mem_append_left _ (List.mem_append_left _ (List.mem_append_left _ (List.mem_of_getElem? (i := 0) rfl))))))) (va_Nw.use rfl (hc.1.2.1 (.castable "java/lang/IndexOutOfBoundsException" "java/lang/IndexOutOfBoundsException") (by decide +kernel))) hcell hcv hccl ?_
      refine lv_astore_n (lv' := [(3, .ref a12), (0, .ref p0), (1, .int p1), (2, .ref p2)]) hx hb dL_remove_19 rfl hl (by decide) rfl (fun ls hl => ?_)
      refine lv_iconst (v := 1) hx hb dL_remove_20 (by decide) ?_
      exact g_reti (r := 1) CF hr hlk hc rfl h dL_remove_21
  · replace h := hq
    refine W.widen (k := 1) (n := 6) (Nat.le_of_ble_eq_true rfl) (Nat.le_of_ble_eq_true rfl) ?_
    refine lv_if_eq (tgt := 14) hx hb dL_remove_7 (by decide) (fun c9 => ?_) (fun c9 => ?_)
    · have h := h.1 c9
      refine lv_lconst (v := 0) hx hb dL_remove_14 (by decide) ?_
      exact hb_15 g7 p2 0 0 h _ _ _ hc (lv_sub hl [] rfl)
    · have h := h.2 c9
      refine lv_lconst (v := 1) hx hb dL_remove_10 (by decide) ?_
      refine lv_goto (tgt := 15) hx hb dL_remove_11 (by decide) ?_
      exact hb_15 g7 p2 0 1 h _ _ _ hc (lv_sub hl [] rfl)
def b_L_setMute_16 (g : gS) (rs0 : Nat) (is1 : Int32) (js2 : Int64) (Q : Int32 → gS → Prop) : Prop :=
  gK g rs0 = 23 ∧ (vp_in is1 (gN g rs0) ∧ (∀ g3, g3 = sW g rs0 (Int32.toNatClampNeg is1) js2 → (Q 0 g3)))
def w_L_setMute (g0 : gS) (p0 : Nat) (p1 : Int32) (p2 : Int32) (p3 : Nat) (Q : Int32 → gS → Prop) : Prop :=
  gK g0 p0 = 11 ∧ (w_X10_setMute g0 p0 p1 p2 (fun x6 g7 => ((x6 = 0 → (b_L_setMute_16 g7 p3 0 0 Q)) ∧ (¬ x6 = 0 → (b_L_setMute_16 g7 p3 0 1 Q)))) (fun E gx13 => (E = "java/lang/IllegalArgumentException" ∧ (Q 1 gx13))))
abbrev r_L_setMute : Room := { frames := 7, cells := 1, slots := 6, locals := 105 }
set_option maxHeartbeats 4000000 in
set_option maxRecDepth 100000 in
theorem c_L_setMute {l : Launch} {D : va_G} {cA : Nat → ClassId} {sz : Nat} {g0 : gS} {p0 : Nat} {p1 : Int32} {p2 : Int32} {p3 : Nat} {Q : Int32 → gS → Prop} (hflags : l.stackTraces = false) (h : w_L_setMute g0 p0 p1 p2 p3 Q) : Met l yL_setMute wsL_setMute r_L_setMute (va_Pc [.ref p0, .int p1, .int p2, .ref p3] (gPre D cA g0 sz)) (gQi D cA g0 sz (Q)) 1 6 (gA g0 sz) := by
  refine g_metH (cc := cL_setMute) (maxL := 5) (ret := (some .int)) (hh := [(0, 17, 20, 13)]) (own := RL) (by decide) rfl rfl (Nat.le_of_ble_eq_true rfl) ?_
  intro p e s m args below meth c ls CF hr hlk hnm hxt hc hl
  obtain ⟨hx, hb, hml, hown, hts⟩ := id CF
  have hl : lv_has ls 5 [(0, .ref p0), (1, .int p1), (2, .int p2), (3, .ref p3)] := hl
  show W p l e r_L_setMute s m args below meth c s.heap [] 0 0 (MQ below (gQi D cA g0 sz (Q)) args s 1 6 (gA g0 sz)) (F0 m 0 ls [])
  have hb_16 : ∀ (g : gS) (rs0 : Nat) (is1 : Int32) (js2 : Int64), b_L_setMute_16 g rs0 is1 js2 Q → ∀ (H : Heap) (locs : List Loc) (ls : Array Slot), gC D cA (gA g0 sz) s g H locs → lv_has ls 5 [] → W p l e r_L_setMute s m args below meth c H locs 1 6 (MQ below (gQi D cA g0 sz (Q)) args s 1 6 (gA g0 sz)) (F0 m 16 ls [.long js2, .int is1, .ref rs0]) := by
    intro g rs0 is1 js2 h H locs ls hc hl
    unfold b_L_setMute_16 at h
    obtain ⟨hk1, h⟩ := h
    obtain ⟨hi2, h⟩ := h
    refine g_last CF hc hk1 (x := js2) hi2 dL_setMute_16 (fun H locs hc => ?_)
    obtain ⟨g3, eg4⟩ : ∃ z, z = sW g rs0 (Int32.toNatClampNeg is1) js2 := ⟨_, rfl⟩
    have hc : gC D cA (gA g0 sz) s g3 H locs := by rw [eg4]; exact hc
    replace h := h g3 eg4
    refine lv_goto (tgt := 24) hx hb dL_setMute_17 (by decide) ?_
    refine lv_iconst (v := 0) hx hb dL_setMute_24 (by decide) ?_
    exact g_reti (r := 0) CF hr hlk hc rfl h dL_setMute_25
  unfold w_L_setMute at h
  obtain ⟨H, hH0⟩ : ∃ z, z = s.heap := ⟨_, rfl⟩
  rw [← hH0] at hc ⊢
  obtain ⟨locs, hlc0⟩ : ∃ z : List Loc, z = [] := ⟨_, rfl⟩
  rw [← hlc0] at hc ⊢
  refine lv_aload_n hx hb dL_setMute_0 rfl (lv_at hl 3 rfl) ?_
  refine lv_iconst (v := 0) hx hb dL_setMute_1 (by decide) ?_
  refine lv_aload_n hx hb dL_setMute_2 rfl (lv_at hl 0 rfl) ?_
  refine lv_iload_n hx hb dL_setMute_3 rfl (lv_at hl 1 rfl) ?_
  refine lv_iload_n hx hb dL_setMute_4 rfl (lv_at hl 2 rfl) ?_
  obtain ⟨hk5, h⟩ := h
  refine g_xcalli (vx_runV (As := [.int p1, .int p2]) (rest := [.int 0, .ref p3]) CF (c_X10_setMute hflags h) (cwV 2 hts gL_setMute_X10_setMute rfl rfl rfl (by decide +kernel) ⟨Nat.le_of_ble_eq_true rfl, Nat.le_of_ble_eq_true rfl⟩) (hc.preV hk5 rfl (by decide)) rfl rfl hl.1 rfl (lv_room (Nat.le_of_ble_eq_true rfl)) dL_setMute_5 ⟨Nat.le_of_ble_eq_true rfl, Nat.le_of_ble_eq_true rfl⟩) hc (fun E10 ce11 a12 gx13 H locs hq hc hcell hcv hccl => ?_) (fun x6 g7 H locs hq hc => ?_)
  · replace h := hq
    refine vx_widen (k := 1) (n := 6) (Nat.le_of_ble_eq_true rfl) (Nat.le_of_ble_eq_true rfl) ?_
    rcases h with ⟨rfl, h⟩
    · refine vx_catch (name := "java/lang/IllegalArgumentException") hown [] ⟨0, 17, 20, 13⟩ [] (hxt.trans rfl) (fun z hz => nomatch hz) (by decide) (by decide) (hts _ (List.mem_cons_of_mem _ (List.mem_append_left _ (List.mem_append_left _ (List.mem_append_left _ (List.mem_of_getElem? (i := 0) rfl)))))) (va_Nw.use rfl (hc.1.2.1 (.castable "java/lang/IllegalArgumentException" "java/lang/IllegalArgumentException") (by decide +kernel))) hcell hcv hccl ?_
      refine lv_astore (lv' := [(4, .ref a12), (0, .ref p0), (1, .int p1), (2, .int p2), (3, .ref p3)]) hx hb dL_setMute_20 hl (by decide) rfl (fun ls hl => ?_)
      refine lv_iconst (v := 1) hx hb dL_setMute_22 (by decide) ?_
      exact g_reti (r := 1) CF hr hlk hc rfl h dL_setMute_23
  · replace h := hq
    refine W.widen (k := 1) (n := 6) (Nat.le_of_ble_eq_true rfl) (Nat.le_of_ble_eq_true rfl) ?_
    refine lv_if_eq (tgt := 15) hx hb dL_setMute_8 (by decide) (fun c9 => ?_) (fun c9 => ?_)
    · have h := h.1 c9
      refine lv_lconst (v := 0) hx hb dL_setMute_15 (by decide) ?_
      exact hb_16 g7 p3 0 0 h _ _ _ hc (lv_sub hl [] rfl)
    · have h := h.2 c9
      refine lv_lconst (v := 1) hx hb dL_setMute_11 (by decide) ?_
      refine lv_goto (tgt := 16) hx hb dL_setMute_12 (by decide) ?_
      exact hb_16 g7 p3 0 1 h _ _ _ hc (lv_sub hl [] rfl)
def w_L_setAlias (g0 : gS) (p0 : Nat) (p1 : Int32) (p2 : Int32) (p3 : Nat) (Q : Int32 → gS → Prop) : Prop :=
  gK g0 p0 = 11 ∧ (w_X10_setAlias g0 p0 p1 p2 (fun x2 g3 => (gK g3 p3 = 23 ∧ (vp_in 0 (gN g3 p3) ∧ (∀ g7, g7 = sW g3 p3 (Int32.toNatClampNeg 0) x2.toInt64 → (Q 0 g7))))) (fun E gx12 => (E = "java/lang/IllegalArgumentException" ∧ (Q 1 gx12))))
abbrev r_L_setAlias : Room := { frames := 7, cells := 1, slots := 6, locals := 105 }
set_option maxHeartbeats 4000000 in
set_option maxRecDepth 100000 in
theorem c_L_setAlias {l : Launch} {D : va_G} {cA : Nat → ClassId} {sz : Nat} {g0 : gS} {p0 : Nat} {p1 : Int32} {p2 : Int32} {p3 : Nat} {Q : Int32 → gS → Prop} (hflags : l.stackTraces = false) (h : w_L_setAlias g0 p0 p1 p2 p3 Q) : Met l yL_setAlias wsL_setAlias r_L_setAlias (va_Pc [.ref p0, .int p1, .int p2, .ref p3] (gPre D cA g0 sz)) (gQi D cA g0 sz (Q)) 1 6 (gA g0 sz) := by
  refine g_metH (cc := cL_setAlias) (maxL := 5) (ret := (some .int)) (hh := [(0, 10, 13, 13)]) (own := RL) (by decide) rfl rfl (Nat.le_of_ble_eq_true rfl) ?_
  intro p e s m args below meth c ls CF hr hlk hnm hxt hc hl
  obtain ⟨hx, hb, hml, hown, hts⟩ := id CF
  have hl : lv_has ls 5 [(0, .ref p0), (1, .int p1), (2, .int p2), (3, .ref p3)] := hl
  show W p l e r_L_setAlias s m args below meth c s.heap [] 0 0 (MQ below (gQi D cA g0 sz (Q)) args s 1 6 (gA g0 sz)) (F0 m 0 ls [])
  unfold w_L_setAlias at h
  obtain ⟨H, hH0⟩ : ∃ z, z = s.heap := ⟨_, rfl⟩
  rw [← hH0] at hc ⊢
  obtain ⟨locs, hlc0⟩ : ∃ z : List Loc, z = [] := ⟨_, rfl⟩
  rw [← hlc0] at hc ⊢
  refine lv_aload_n hx hb dL_setAlias_0 rfl (lv_at hl 3 rfl) ?_
  refine lv_iconst (v := 0) hx hb dL_setAlias_1 (by decide) ?_
  refine lv_aload_n hx hb dL_setAlias_2 rfl (lv_at hl 0 rfl) ?_
  refine lv_iload_n hx hb dL_setAlias_3 rfl (lv_at hl 1 rfl) ?_
  refine lv_iload_n hx hb dL_setAlias_4 rfl (lv_at hl 2 rfl) ?_
  obtain ⟨hk1, h⟩ := h
  refine g_xcalli (vx_runV (As := [.int p1, .int p2]) (rest := [.int 0, .ref p3]) CF (c_X10_setAlias hflags h) (cwV 2 hts gL_setAlias_X10_setAlias rfl rfl rfl (by decide +kernel) ⟨Nat.le_of_ble_eq_true rfl, Nat.le_of_ble_eq_true rfl⟩) (hc.preV hk1 rfl (by decide)) rfl rfl hl.1 rfl (lv_room (Nat.le_of_ble_eq_true rfl)) dL_setAlias_5 ⟨Nat.le_of_ble_eq_true rfl, Nat.le_of_ble_eq_true rfl⟩) hc (fun E9 ce10 a11 gx12 H locs hq hc hcell hcv hccl => ?_) (fun x2 g3 H locs hq hc => ?_)
  · replace h := hq
    refine vx_widen (k := 1) (n := 6) (Nat.le_of_ble_eq_true rfl) (Nat.le_of_ble_eq_true rfl) ?_
    rcases h with ⟨rfl, h⟩
    · refine vx_catch (name := "java/lang/IllegalArgumentException") hown [] ⟨0, 10, 13, 13⟩ [] (hxt.trans rfl) (fun z hz => nomatch hz) (by decide) (by decide) (hts _ (List.mem_cons_of_mem _ (List.mem_append_left _ (List.mem_append_left _ (List.mem_append_left _ (List.mem_of_getElem? (i := 0) rfl)))))) (va_Nw.use rfl (hc.1.2.1 (.castable "java/lang/IllegalArgumentException" "java/lang/IllegalArgumentException") (by decide +kernel))) hcell hcv hccl ?_
      refine lv_astore (lv' := [(4, .ref a11), (0, .ref p0), (1, .int p1), (2, .int p2), (3, .ref p3)]) hx hb dL_setAlias_13 hl (by decide) rfl (fun ls hl => ?_)
      refine lv_iconst (v := 1) hx hb dL_setAlias_15 (by decide) ?_
      exact g_reti (r := 1) CF hr hlk hc rfl h dL_setAlias_16
  · replace h := hq
    refine W.widen (k := 1) (n := 6) (Nat.le_of_ble_eq_true rfl) (Nat.le_of_ble_eq_true rfl) ?_
    refine lv_i2l hx hb dL_setAlias_8 rfl ?_
    obtain ⟨hk5, h⟩ := h
    obtain ⟨hi6, h⟩ := h
    refine g_last CF hc hk5 (x := x2.toInt64) hi6 dL_setAlias_9 (fun H locs hc => ?_)
    obtain ⟨g7, eg8⟩ : ∃ z, z = sW g3 p3 (Int32.toNatClampNeg 0) x2.toInt64 := ⟨_, rfl⟩
    have hc : gC D cA (gA g0 sz) s g7 H locs := by rw [eg8]; exact hc
    replace h := h g7 eg8
    refine lv_goto (tgt := 17) hx hb dL_setAlias_10 (by decide) ?_
    refine lv_iconst (v := 0) hx hb dL_setAlias_17 (by decide) ?_
    exact g_reti (r := 0) CF hr hlk hc rfl h dL_setAlias_18
def w_L_setWeight (g0 : gS) (p0 : Nat) (p1 : Int32) (p2 : Int32) (p3 : Nat) (Q : Int32 → gS → Prop) : Prop :=
  gK g0 p0 = 11 ∧ (w_X10_setWeight g0 p0 p1 p2 (fun x2 g3 => (gK g3 p3 = 23 ∧ (vp_in 0 (gN g3 p3) ∧ (∀ g7, g7 = sW g3 p3 (Int32.toNatClampNeg 0) x2.toInt64 → (Q 0 g7))))) (fun E gx12 => (E = "java/lang/IllegalArgumentException" ∧ (Q 1 gx12))))
abbrev r_L_setWeight : Room := { frames := 7, cells := 1, slots := 6, locals := 105 }
set_option maxHeartbeats 4000000 in
set_option maxRecDepth 100000 in
theorem c_L_setWeight {l : Launch} {D : va_G} {cA : Nat → ClassId} {sz : Nat} {g0 : gS} {p0 : Nat} {p1 : Int32} {p2 : Int32} {p3 : Nat} {Q : Int32 → gS → Prop} (hflags : l.stackTraces = false) (h : w_L_setWeight g0 p0 p1 p2 p3 Q) : Met l yL_setWeight wsL_setWeight r_L_setWeight (va_Pc [.ref p0, .int p1, .int p2, .ref p3] (gPre D cA g0 sz)) (gQi D cA g0 sz (Q)) 1 6 (gA g0 sz) := by
  refine g_metH (cc := cL_setWeight) (maxL := 5) (ret := (some .int)) (hh := [(0, 10, 13, 13)]) (own := RL) (by decide) rfl rfl (Nat.le_of_ble_eq_true rfl) ?_
  intro p e s m args below meth c ls CF hr hlk hnm hxt hc hl
  obtain ⟨hx, hb, hml, hown, hts⟩ := id CF
  have hl : lv_has ls 5 [(0, .ref p0), (1, .int p1), (2, .int p2), (3, .ref p3)] := hl
  show W p l e r_L_setWeight s m args below meth c s.heap [] 0 0 (MQ below (gQi D cA g0 sz (Q)) args s 1 6 (gA g0 sz)) (F0 m 0 ls [])
  unfold w_L_setWeight at h
  obtain ⟨H, hH0⟩ : ∃ z, z = s.heap := ⟨_, rfl⟩
  rw [← hH0] at hc ⊢
  obtain ⟨locs, hlc0⟩ : ∃ z : List Loc, z = [] := ⟨_, rfl⟩
  rw [← hlc0] at hc ⊢
  refine lv_aload_n hx hb dL_setWeight_0 rfl (lv_at hl 3 rfl) ?_
  refine lv_iconst (v := 0) hx hb dL_setWeight_1 (by decide) ?_
  refine lv_aload_n hx hb dL_setWeight_2 rfl (lv_at hl 0 rfl) ?_
  refine lv_iload_n hx hb dL_setWeight_3 rfl (lv_at hl 1 rfl) ?_
  refine lv_iload_n hx hb dL_setWeight_4 rfl (lv_at hl 2 rfl) ?_
  obtain ⟨hk1, h⟩ := h
  refine g_xcalli (vx_runV (As := [.int p1, .int p2]) (rest := [.int 0, .ref p3]) CF (c_X10_setWeight hflags h) (cwV 2 hts gL_setWeight_X10_setWeight rfl rfl rfl (by decide +kernel) ⟨Nat.le_of_ble_eq_true rfl, Nat.le_of_ble_eq_true rfl⟩) (hc.preV hk1 rfl (by decide)) rfl rfl hl.1 rfl (lv_room (Nat.le_of_ble_eq_true rfl)) dL_setWeight_5 ⟨Nat.le_of_ble_eq_true rfl, Nat.le_of_ble_eq_true rfl⟩) hc (fun E9 ce10 a11 gx12 H locs hq hc hcell hcv hccl => ?_) (fun x2 g3 H locs hq hc => ?_)
  · replace h := hq
    refine vx_widen (k := 1) (n := 6) (Nat.le_of_ble_eq_true rfl) (Nat.le_of_ble_eq_true rfl) ?_
    rcases h with ⟨rfl, h⟩
    · refine vx_catch (name := "java/lang/IllegalArgumentException") hown [] ⟨0, 10, 13, 13⟩ [] (hxt.trans rfl) (fun z hz => nomatch hz) (by decide) (by decide) (hts _ (List.mem_cons_of_mem _ (List.mem_append_left _ (List.mem_append_left _ (List.mem_append_left _ (List.mem_of_getElem? (i := 0) rfl)))))) (va_Nw.use rfl (hc.1.2.1 (.castable "java/lang/IllegalArgumentException" "java/lang/IllegalArgumentException") (by decide +kernel))) hcell hcv hccl ?_
      refine lv_astore (lv' := [(4, .ref a11), (0, .ref p0), (1, .int p1), (2, .int p2), (3, .ref p3)]) hx hb dL_setWeight_13 hl (by decide) rfl (fun ls hl => ?_)
      refine lv_iconst (v := 1) hx hb dL_setWeight_15 (by decide) ?_
      exact g_reti (r := 1) CF hr hlk hc rfl h dL_setWeight_16
  · replace h := hq
    refine W.widen (k := 1) (n := 6) (Nat.le_of_ble_eq_true rfl) (Nat.le_of_ble_eq_true rfl) ?_
    refine lv_i2l hx hb dL_setWeight_8 rfl ?_
    obtain ⟨hk5, h⟩ := h
    obtain ⟨hi6, h⟩ := h
    refine g_last CF hc hk5 (x := x2.toInt64) hi6 dL_setWeight_9 (fun H locs hc => ?_)
    obtain ⟨g7, eg8⟩ : ∃ z, z = sW g3 p3 (Int32.toNatClampNeg 0) x2.toInt64 := ⟨_, rfl⟩
    have hc : gC D cA (gA g0 sz) s g7 H locs := by rw [eg8]; exact hc
    replace h := h g7 eg8
    refine lv_goto (tgt := 17) hx hb dL_setWeight_10 (by decide) ?_
    refine lv_iconst (v := 0) hx hb dL_setWeight_17 (by decide) ?_
    exact g_reti (r := 0) CF hr hlk hc rfl h dL_setWeight_18
def w_L_stateOf (g0 : gS) (p0 : Nat) (p1 : Int32) (p2 : Nat) (Q : Int32 → gS → Prop) : Prop :=
  gK g0 p0 = 11 ∧ (w_X10_stateOf g0 p0 p1 (fun x2 => (gK g0 p2 = 23 ∧ (vp_in 0 (gN g0 p2) ∧ (∀ g6, g6 = sW g0 p2 (Int32.toNatClampNeg 0) x2.toInt64 → (Q 0 g6))))) (fun E => (E = "java/lang/IndexOutOfBoundsException" ∧ (Q 1 g0))))
abbrev r_L_stateOf : Room := { frames := 7, cells := 1, slots := 6, locals := 104 }
set_option maxHeartbeats 4000000 in
set_option maxRecDepth 100000 in
theorem c_L_stateOf {l : Launch} {D : va_G} {cA : Nat → ClassId} {sz : Nat} {g0 : gS} {p0 : Nat} {p1 : Int32} {p2 : Nat} {Q : Int32 → gS → Prop} (hflags : l.stackTraces = false) (h : w_L_stateOf g0 p0 p1 p2 Q) : Met l yL_stateOf wsL_stateOf r_L_stateOf (va_Pc [.ref p0, .int p1, .ref p2] (gPre D cA g0 sz)) (gQi D cA g0 sz (Q)) 1 6 (gA g0 sz) := by
  refine g_metH (cc := cL_stateOf) (maxL := 4) (ret := (some .int)) (hh := [(0, 9, 12, 28)]) (own := RL) (by decide) rfl rfl (Nat.le_of_ble_eq_true rfl) ?_
  intro p e s m args below meth c ls CF hr hlk hnm hxt hc hl
  obtain ⟨hx, hb, hml, hown, hts⟩ := id CF
  have hl : lv_has ls 4 [(0, .ref p0), (1, .int p1), (2, .ref p2)] := hl
  show W p l e r_L_stateOf s m args below meth c s.heap [] 0 0 (MQ below (gQi D cA g0 sz (Q)) args s 1 6 (gA g0 sz)) (F0 m 0 ls [])
  unfold w_L_stateOf at h
  obtain ⟨H, hH0⟩ : ∃ z, z = s.heap := ⟨_, rfl⟩
  rw [← hH0] at hc ⊢
  obtain ⟨locs, hlc0⟩ : ∃ z : List Loc, z = [] := ⟨_, rfl⟩
  rw [← hlc0] at hc ⊢
  refine lv_aload_n hx hb dL_stateOf_0 rfl (lv_at hl 2 rfl) ?_
  refine lv_iconst (v := 0) hx hb dL_stateOf_1 (by decide) ?_
  refine lv_aload_n hx hb dL_stateOf_2 rfl (lv_at hl 0 rfl) ?_
  refine lv_iload_n hx hb dL_stateOf_3 rfl (lv_at hl 1 rfl) ?_
  obtain ⟨hk1, h⟩ := h
  refine g_xcalli (vx_runV (As := [.int p1]) (rest := [.int 0, .ref p2]) CF (c_X10_stateOf hflags h) (cwV 1 hts gL_stateOf_X10_stateOf rfl rfl rfl (by decide +kernel) ⟨Nat.le_of_ble_eq_true rfl, Nat.le_of_ble_eq_true rfl⟩) (hc.preV hk1 rfl (by decide)) rfl rfl hl.1 rfl (lv_room (Nat.le_of_ble_eq_true rfl)) dL_stateOf_4 ⟨Nat.le_of_ble_eq_true rfl, Nat.le_of_ble_eq_true rfl⟩) hc (fun E8 ce9 a10 gx11 H locs hq hc hcell hcv hccl => ?_) (fun x2 gq3 H locs hq hc => ?_)
  · obtain ⟨rfl, h⟩ := hq
    refine vx_widen (k := 1) (n := 6) (Nat.le_of_ble_eq_true rfl) (Nat.le_of_ble_eq_true rfl) ?_
    rcases h with ⟨rfl, h⟩
    · refine vx_catch (name := "java/lang/IndexOutOfBoundsException") hown [] ⟨0, 9, 12, 28⟩ [] (hxt.trans rfl) (fun z hz => nomatch hz) (by decide) (by decide) (hts _ (List.mem_cons_of_mem _ (List.mem_append_left _ (List.mem_append_left _ (List.mem_append_left _ (List.mem_append_left _ (List.mem_append_left _ (List.mem_of_getElem? (i := 0) rfl)))))))) (va_Nw.use rfl (hc.1.2.1 (.castable "java/lang/IndexOutOfBoundsException" "java/lang/IndexOutOfBoundsException") (by decide +kernel))) hcell hcv hccl ?_
      refine lv_astore_n (lv' := [(3, .ref a10), (0, .ref p0), (1, .int p1), (2, .ref p2)]) hx hb dL_stateOf_12 rfl hl (by decide) rfl (fun ls hl => ?_)
      refine lv_iconst (v := 1) hx hb dL_stateOf_13 (by decide) ?_
      exact g_reti (r := 1) CF hr hlk hc rfl h dL_stateOf_14
  · obtain ⟨rfl, h⟩ := hq
    refine W.widen (k := 1) (n := 6) (Nat.le_of_ble_eq_true rfl) (Nat.le_of_ble_eq_true rfl) ?_
    refine lv_i2l hx hb dL_stateOf_7 rfl ?_
    obtain ⟨hk4, h⟩ := h
    obtain ⟨hi5, h⟩ := h
    refine g_last CF hc hk4 (x := x2.toInt64) hi5 dL_stateOf_8 (fun H locs hc => ?_)
    obtain ⟨g6, eg7⟩ : ∃ z, z = sW g0 p2 (Int32.toNatClampNeg 0) x2.toInt64 := ⟨_, rfl⟩
    have hc : gC D cA (gA g0 sz) s g6 H locs := by rw [eg7]; exact hc
    replace h := h g6 eg7
    refine lv_goto (tgt := 15) hx hb dL_stateOf_9 (by decide) ?_
    refine lv_iconst (v := 0) hx hb dL_stateOf_15 (by decide) ?_
    exact g_reti (r := 0) CF hr hlk hc rfl h dL_stateOf_16
def w_L_termAt (g0 : gS) (p0 : Nat) (p1 : Int32) (p2 : Int32) (p3 : Int32) (p4 : Nat) (Q : Int32 → gS → Prop) : Prop :=
  gK g0 p0 = 11 ∧ (w_X10_termAt g0 p0 p1 p2 p3 (fun x2 => (gK g0 p4 = 23 ∧ (vp_in 0 (gN g0 p4) ∧ (∀ g6, g6 = sW g0 p4 (Int32.toNatClampNeg 0) x2.toInt64 → (Q 0 g6))))) (fun E => (E = "java/lang/IndexOutOfBoundsException" ∧ (Q 1 g0))))
abbrev r_L_termAt : Room := { frames := 7, cells := 1, slots := 6, locals := 107 }
set_option maxHeartbeats 4000000 in
set_option maxRecDepth 100000 in
theorem c_L_termAt {l : Launch} {D : va_G} {cA : Nat → ClassId} {sz : Nat} {g0 : gS} {p0 : Nat} {p1 : Int32} {p2 : Int32} {p3 : Int32} {p4 : Nat} {Q : Int32 → gS → Prop} (hflags : l.stackTraces = false) (h : w_L_termAt g0 p0 p1 p2 p3 p4 Q) : Met l yL_termAt wsL_termAt r_L_termAt (va_Pc [.ref p0, .int p1, .int p2, .int p3, .ref p4] (gPre D cA g0 sz)) (gQi D cA g0 sz (Q)) 1 6 (gA g0 sz) := by
  refine g_metH (cc := cL_termAt) (maxL := 6) (ret := (some .int)) (hh := [(0, 12, 15, 28)]) (own := RL) (by decide) rfl rfl (Nat.le_of_ble_eq_true rfl) ?_
  intro p e s m args below meth c ls CF hr hlk hnm hxt hc hl
  obtain ⟨hx, hb, hml, hown, hts⟩ := id CF
  have hl : lv_has ls 6 [(0, .ref p0), (1, .int p1), (2, .int p2), (3, .int p3), (4, .ref p4)] := hl
  show W p l e r_L_termAt s m args below meth c s.heap [] 0 0 (MQ below (gQi D cA g0 sz (Q)) args s 1 6 (gA g0 sz)) (F0 m 0 ls [])
  unfold w_L_termAt at h
  obtain ⟨H, hH0⟩ : ∃ z, z = s.heap := ⟨_, rfl⟩
  rw [← hH0] at hc ⊢
  obtain ⟨locs, hlc0⟩ : ∃ z : List Loc, z = [] := ⟨_, rfl⟩
  rw [← hlc0] at hc ⊢
  refine lv_aload hx hb dL_termAt_0 (lv_at hl 4 rfl) ?_
  refine lv_iconst (v := 0) hx hb dL_termAt_2 (by decide) ?_
  refine lv_aload_n hx hb dL_termAt_3 rfl (lv_at hl 0 rfl) ?_
  refine lv_iload_n hx hb dL_termAt_4 rfl (lv_at hl 1 rfl) ?_
  refine lv_iload_n hx hb dL_termAt_5 rfl (lv_at hl 2 rfl) ?_
  refine lv_iload_n hx hb dL_termAt_6 rfl (lv_at hl 3 rfl) ?_
  obtain ⟨hk1, h⟩ := h
  refine g_xcalli (vx_runV (As := [.int p1, .int p2, .int p3]) (rest := [.int 0, .ref p4]) CF (c_X10_termAt hflags h) (cwV 3 hts gL_termAt_X10_termAt rfl rfl rfl (by decide +kernel) ⟨Nat.le_of_ble_eq_true rfl, Nat.le_of_ble_eq_true rfl⟩) (hc.preV hk1 rfl (by decide)) rfl rfl hl.1 rfl (lv_room (Nat.le_of_ble_eq_true rfl)) dL_termAt_7 ⟨Nat.le_of_ble_eq_true rfl, Nat.le_of_ble_eq_true rfl⟩) hc (fun E8 ce9 a10 gx11 H locs hq hc hcell hcv hccl => ?_) (fun x2 gq3 H locs hq hc => ?_)
  · obtain ⟨rfl, h⟩ := hq
    refine vx_widen (k := 1) (n := 6) (Nat.le_of_ble_eq_true rfl) (Nat.le_of_ble_eq_true rfl) ?_
    rcases h with ⟨rfl, h⟩
    · refine vx_catch (name := "java/lang/IndexOutOfBoundsException") hown [] ⟨0, 12, 15, 28⟩ [] (hxt.trans rfl) (fun z hz => nomatch hz) (by decide) (by decide) (hts _ (List.mem_cons_of_mem _ (List.mem_append_left _ (List.mem_append_left _ (List.mem_append_left _ (List.mem_append_left _ (List.mem_append_left _ (List.mem_append_left _ (List.mem_of_getElem? (i := 0) rfl))))))))) (va_Nw.use rfl (hc.1.2.1 (.castable "java/lang/IndexOutOfBoundsException" "java/lang/IndexOutOfBoundsException") (by decide +kernel))) hcell hcv hccl ?_
      refine lv_astore (lv' := [(5, .ref a10), (0, .ref p0), (1, .int p1), (2, .int p2), (3, .int p3), (4, .ref p4)]) hx hb dL_termAt_15 hl (by decide) rfl (fun ls hl => ?_)
      refine lv_iconst (v := 1) hx hb dL_termAt_17 (by decide) ?_
      exact g_reti (r := 1) CF hr hlk hc rfl h dL_termAt_18
  · obtain ⟨rfl, h⟩ := hq
    refine W.widen (k := 1) (n := 6) (Nat.le_of_ble_eq_true rfl) (Nat.le_of_ble_eq_true rfl) ?_
    refine lv_i2l hx hb dL_termAt_10 rfl ?_
    obtain ⟨hk4, h⟩ := h
    obtain ⟨hi5, h⟩ := h
    refine g_last CF hc hk4 (x := x2.toInt64) hi5 dL_termAt_11 (fun H locs hc => ?_)
    obtain ⟨g6, eg7⟩ : ∃ z, z = sW g0 p4 (Int32.toNatClampNeg 0) x2.toInt64 := ⟨_, rfl⟩
    have hc : gC D cA (gA g0 sz) s g6 H locs := by rw [eg7]; exact hc
    replace h := h g6 eg7
    refine lv_goto (tgt := 19) hx hb dL_termAt_12 (by decide) ?_
    refine lv_iconst (v := 0) hx hb dL_termAt_19 (by decide) ?_
    exact g_reti (r := 0) CF hr hlk hc rfl h dL_termAt_20
def w_L_tierOf (g0 : gS) (p0 : Nat) (p1 : Int32) (p2 : Nat) (Q : Int32 → gS → Prop) : Prop :=
  gK g0 p0 = 11 ∧ (w_X10_tierOf g0 p0 p1 (fun x2 => (gK g0 p2 = 23 ∧ (vp_in 0 (gN g0 p2) ∧ (∀ g6, g6 = sW g0 p2 (Int32.toNatClampNeg 0) x2.toInt64 → (Q 0 g6))))) (fun E => (E = "java/lang/IndexOutOfBoundsException" ∧ (Q 1 g0))))
abbrev r_L_tierOf : Room := { frames := 7, cells := 1, slots := 6, locals := 103 }
set_option maxHeartbeats 4000000 in
set_option maxRecDepth 100000 in
theorem c_L_tierOf {l : Launch} {D : va_G} {cA : Nat → ClassId} {sz : Nat} {g0 : gS} {p0 : Nat} {p1 : Int32} {p2 : Nat} {Q : Int32 → gS → Prop} (hflags : l.stackTraces = false) (h : w_L_tierOf g0 p0 p1 p2 Q) : Met l yL_tierOf wsL_tierOf r_L_tierOf (va_Pc [.ref p0, .int p1, .ref p2] (gPre D cA g0 sz)) (gQi D cA g0 sz (Q)) 1 6 (gA g0 sz) := by
  refine g_metH (cc := cL_tierOf) (maxL := 4) (ret := (some .int)) (hh := [(0, 9, 12, 28)]) (own := RL) (by decide) rfl rfl (Nat.le_of_ble_eq_true rfl) ?_
  intro p e s m args below meth c ls CF hr hlk hnm hxt hc hl
  obtain ⟨hx, hb, hml, hown, hts⟩ := id CF
  have hl : lv_has ls 4 [(0, .ref p0), (1, .int p1), (2, .ref p2)] := hl
  show W p l e r_L_tierOf s m args below meth c s.heap [] 0 0 (MQ below (gQi D cA g0 sz (Q)) args s 1 6 (gA g0 sz)) (F0 m 0 ls [])
  unfold w_L_tierOf at h
  obtain ⟨H, hH0⟩ : ∃ z, z = s.heap := ⟨_, rfl⟩
  rw [← hH0] at hc ⊢
  obtain ⟨locs, hlc0⟩ : ∃ z : List Loc, z = [] := ⟨_, rfl⟩
  rw [← hlc0] at hc ⊢
  refine lv_aload_n hx hb dL_tierOf_0 rfl (lv_at hl 2 rfl) ?_
  refine lv_iconst (v := 0) hx hb dL_tierOf_1 (by decide) ?_
  refine lv_aload_n hx hb dL_tierOf_2 rfl (lv_at hl 0 rfl) ?_
  refine lv_iload_n hx hb dL_tierOf_3 rfl (lv_at hl 1 rfl) ?_
  obtain ⟨hk1, h⟩ := h
  refine g_xcalli (vx_runV (As := [.int p1]) (rest := [.int 0, .ref p2]) CF (c_X10_tierOf hflags h) (cwV 1 hts gL_tierOf_X10_tierOf rfl rfl rfl (by decide +kernel) ⟨Nat.le_of_ble_eq_true rfl, Nat.le_of_ble_eq_true rfl⟩) (hc.preV hk1 rfl (by decide)) rfl rfl hl.1 rfl (lv_room (Nat.le_of_ble_eq_true rfl)) dL_tierOf_4 ⟨Nat.le_of_ble_eq_true rfl, Nat.le_of_ble_eq_true rfl⟩) hc (fun E8 ce9 a10 gx11 H locs hq hc hcell hcv hccl => ?_) (fun x2 gq3 H locs hq hc => ?_)
  · obtain ⟨rfl, h⟩ := hq
    refine vx_widen (k := 1) (n := 6) (Nat.le_of_ble_eq_true rfl) (Nat.le_of_ble_eq_true rfl) ?_
    rcases h with ⟨rfl, h⟩
    · refine vx_catch (name := "java/lang/IndexOutOfBoundsException") hown [] ⟨0, 9, 12, 28⟩ [] (hxt.trans rfl) (fun z hz => nomatch hz) (by decide) (by decide) (hts _ (List.mem_cons_of_mem _ (List.mem_append_left _ (List.mem_append_left _ (List.mem_append_left _ (List.mem_of_getElem? (i := 0) rfl)))))) (va_Nw.use rfl (hc.1.2.1 (.castable "java/lang/IndexOutOfBoundsException" "java/lang/IndexOutOfBoundsException") (by decide +kernel))) hcell hcv hccl ?_
      refine lv_astore_n (lv' := [(3, .ref a10), (0, .ref p0), (1, .int p1), (2, .ref p2)]) hx hb dL_tierOf_12 rfl hl (by decide) rfl (fun ls hl => ?_)
      refine lv_iconst (v := 1) hx hb dL_tierOf_13 (by decide) ?_
      exact g_reti (r := 1) CF hr hlk hc rfl h dL_tierOf_14
  · obtain ⟨rfl, h⟩ := hq
    refine W.widen (k := 1) (n := 6) (Nat.le_of_ble_eq_true rfl) (Nat.le_of_ble_eq_true rfl) ?_
    refine lv_i2l hx hb dL_tierOf_7 rfl ?_
    obtain ⟨hk4, h⟩ := h
    obtain ⟨hi5, h⟩ := h
    refine g_last CF hc hk4 (x := x2.toInt64) hi5 dL_tierOf_8 (fun H locs hc => ?_)
    obtain ⟨g6, eg7⟩ : ∃ z, z = sW g0 p2 (Int32.toNatClampNeg 0) x2.toInt64 := ⟨_, rfl⟩
    have hc : gC D cA (gA g0 sz) s g6 H locs := by rw [eg7]; exact hc
    replace h := h g6 eg7
    refine lv_goto (tgt := 15) hx hb dL_tierOf_9 (by decide) ?_
    refine lv_iconst (v := 0) hx hb dL_tierOf_15 (by decide) ?_
    exact g_reti (r := 0) CF hr hlk hc rfl h dL_tierOf_16
def w_L_sizeOf (g0 : gS) (p0 : Nat) (p1 : Int32) (p2 : Nat) (Q : Int32 → gS → Prop) : Prop :=
  gK g0 p0 = 11 ∧ (w_X10_sizeOf g0 p0 p1 (fun x2 => (gK g0 p2 = 23 ∧ (vp_in 0 (gN g0 p2) ∧ (∀ g6, g6 = sW g0 p2 (Int32.toNatClampNeg 0) x2.toInt64 → (Q 0 g6))))) (fun E => (E = "java/lang/IndexOutOfBoundsException" ∧ (Q 1 g0))))
abbrev r_L_sizeOf : Room := { frames := 7, cells := 1, slots := 6, locals := 103 }
set_option maxHeartbeats 4000000 in
set_option maxRecDepth 100000 in
theorem c_L_sizeOf {l : Launch} {D : va_G} {cA : Nat → ClassId} {sz : Nat} {g0 : gS} {p0 : Nat} {p1 : Int32} {p2 : Nat} {Q : Int32 → gS → Prop} (hflags : l.stackTraces = false) (h : w_L_sizeOf g0 p0 p1 p2 Q) : Met l yL_sizeOf wsL_sizeOf r_L_sizeOf (va_Pc [.ref p0, .int p1, .ref p2] (gPre D cA g0 sz)) (gQi D cA g0 sz (Q)) 1 6 (gA g0 sz) := by
  refine g_metH (cc := cL_sizeOf) (maxL := 4) (ret := (some .int)) (hh := [(0, 9, 12, 28)]) (own := RL) (by decide) rfl rfl (Nat.le_of_ble_eq_true rfl) ?_
  intro p e s m args below meth c ls CF hr hlk hnm hxt hc hl
  obtain ⟨hx, hb, hml, hown, hts⟩ := id CF
  have hl : lv_has ls 4 [(0, .ref p0), (1, .int p1), (2, .ref p2)] := hl
  show W p l e r_L_sizeOf s m args below meth c s.heap [] 0 0 (MQ below (gQi D cA g0 sz (Q)) args s 1 6 (gA g0 sz)) (F0 m 0 ls [])
  unfold w_L_sizeOf at h
  obtain ⟨H, hH0⟩ : ∃ z, z = s.heap := ⟨_, rfl⟩
  rw [← hH0] at hc ⊢
  obtain ⟨locs, hlc0⟩ : ∃ z : List Loc, z = [] := ⟨_, rfl⟩
  rw [← hlc0] at hc ⊢
  refine lv_aload_n hx hb dL_sizeOf_0 rfl (lv_at hl 2 rfl) ?_
  refine lv_iconst (v := 0) hx hb dL_sizeOf_1 (by decide) ?_
  refine lv_aload_n hx hb dL_sizeOf_2 rfl (lv_at hl 0 rfl) ?_
  refine lv_iload_n hx hb dL_sizeOf_3 rfl (lv_at hl 1 rfl) ?_
  obtain ⟨hk1, h⟩ := h
  refine g_xcalli (vx_runV (As := [.int p1]) (rest := [.int 0, .ref p2]) CF (c_X10_sizeOf hflags h) (cwV 1 hts gL_sizeOf_X10_sizeOf rfl rfl rfl (by decide +kernel) ⟨Nat.le_of_ble_eq_true rfl, Nat.le_of_ble_eq_true rfl⟩) (hc.preV hk1 rfl (by decide)) rfl rfl hl.1 rfl (lv_room (Nat.le_of_ble_eq_true rfl)) dL_sizeOf_4 ⟨Nat.le_of_ble_eq_true rfl, Nat.le_of_ble_eq_true rfl⟩) hc (fun E8 ce9 a10 gx11 H locs hq hc hcell hcv hccl => ?_) (fun x2 gq3 H locs hq hc => ?_)
  · obtain ⟨rfl, h⟩ := hq
    refine vx_widen (k := 1) (n := 6) (Nat.le_of_ble_eq_true rfl) (Nat.le_of_ble_eq_true rfl) ?_
    rcases h with ⟨rfl, h⟩
    · refine vx_catch (name := "java/lang/IndexOutOfBoundsException") hown [] ⟨0, 9, 12, 28⟩ [] (hxt.trans rfl) (fun z hz => nomatch hz) (by decide) (by decide) (hts _ (List.mem_cons_of_mem _ (List.mem_append_left _ (List.mem_append_left _ (List.mem_append_left _ (List.mem_append_left _ (List.mem_append_left _ (List.mem_of_getElem? (i := 0) rfl)))))))) (va_Nw.use rfl (hc.1.2.1 (.castable "java/lang/IndexOutOfBoundsException" "java/lang/IndexOutOfBoundsException") (by decide +kernel))) hcell hcv hccl ?_
      refine lv_astore_n (lv' := [(3, .ref a10), (0, .ref p0), (1, .int p1), (2, .ref p2)]) hx hb dL_sizeOf_12 rfl hl (by decide) rfl (fun ls hl => ?_)
      refine lv_iconst (v := 1) hx hb dL_sizeOf_13 (by decide) ?_
      exact g_reti (r := 1) CF hr hlk hc rfl h dL_sizeOf_14
  · obtain ⟨rfl, h⟩ := hq
    refine W.widen (k := 1) (n := 6) (Nat.le_of_ble_eq_true rfl) (Nat.le_of_ble_eq_true rfl) ?_
    refine lv_i2l hx hb dL_sizeOf_7 rfl ?_
    obtain ⟨hk4, h⟩ := h
    obtain ⟨hi5, h⟩ := h
    refine g_last CF hc hk4 (x := x2.toInt64) hi5 dL_sizeOf_8 (fun H locs hc => ?_)
    obtain ⟨g6, eg7⟩ : ∃ z, z = sW g0 p2 (Int32.toNatClampNeg 0) x2.toInt64 := ⟨_, rfl⟩
    have hc : gC D cA (gA g0 sz) s g6 H locs := by rw [eg7]; exact hc
    replace h := h g6 eg7
    refine lv_goto (tgt := 15) hx hb dL_sizeOf_9 (by decide) ?_
    refine lv_iconst (v := 0) hx hb dL_sizeOf_15 (by decide) ?_
    exact g_reti (r := 0) CF hr hlk hc rfl h dL_sizeOf_16
def w_L_spread (g0 : gS) (p0 : Nat) (p1 : Int32) (p2 : Int32) (p3 : Nat) (Q : Int32 → gS → Prop) : Prop :=
  gK g0 p0 = 11 ∧ (w_X10_spread g0 p0 p1 p2 (fun x2 => (gK g0 p3 = 23 ∧ (vp_in 0 (gN g0 p3) ∧ (∀ g6, g6 = sW g0 p3 (Int32.toNatClampNeg 0) x2.toInt64 → (Q 0 g6))))) (fun E => (E = "java/lang/IllegalArgumentException" ∧ (Q 1 g0))))
abbrev r_L_spread : Room := { frames := 7, cells := 1, slots := 6, locals := 104 }
set_option maxHeartbeats 4000000 in
set_option maxRecDepth 100000 in
theorem c_L_spread {l : Launch} {D : va_G} {cA : Nat → ClassId} {sz : Nat} {g0 : gS} {p0 : Nat} {p1 : Int32} {p2 : Int32} {p3 : Nat} {Q : Int32 → gS → Prop} (hflags : l.stackTraces = false) (h : w_L_spread g0 p0 p1 p2 p3 Q) : Met l yL_spread wsL_spread r_L_spread (va_Pc [.ref p0, .int p1, .int p2, .ref p3] (gPre D cA g0 sz)) (gQi D cA g0 sz (Q)) 1 6 (gA g0 sz) := by
  refine g_metH (cc := cL_spread) (maxL := 5) (ret := (some .int)) (hh := [(0, 10, 13, 13)]) (own := RL) (by decide) rfl rfl (Nat.le_of_ble_eq_true rfl) ?_
  intro p e s m args below meth c ls CF hr hlk hnm hxt hc hl
  obtain ⟨hx, hb, hml, hown, hts⟩ := id CF
  have hl : lv_has ls 5 [(0, .ref p0), (1, .int p1), (2, .int p2), (3, .ref p3)] := hl
  show W p l e r_L_spread s m args below meth c s.heap [] 0 0 (MQ below (gQi D cA g0 sz (Q)) args s 1 6 (gA g0 sz)) (F0 m 0 ls [])
  unfold w_L_spread at h
  obtain ⟨H, hH0⟩ : ∃ z, z = s.heap := ⟨_, rfl⟩
  rw [← hH0] at hc ⊢
  obtain ⟨locs, hlc0⟩ : ∃ z : List Loc, z = [] := ⟨_, rfl⟩
  rw [← hlc0] at hc ⊢
  refine lv_aload_n hx hb dL_spread_0 rfl (lv_at hl 3 rfl) ?_
  refine lv_iconst (v := 0) hx hb dL_spread_1 (by decide) ?_
  refine lv_aload_n hx hb dL_spread_2 rfl (lv_at hl 0 rfl) ?_
  refine lv_iload_n hx hb dL_spread_3 rfl (lv_at hl 1 rfl) ?_
  refine lv_iload_n hx hb dL_spread_4 rfl (lv_at hl 2 rfl) ?_
  obtain ⟨hk1, h⟩ := h
  refine g_xcalli (vx_runV (As := [.int p1, .int p2]) (rest := [.int 0, .ref p3]) CF (c_X10_spread hflags h) (cwV 2 hts gL_spread_X10_spread rfl rfl rfl (by decide +kernel) ⟨Nat.le_of_ble_eq_true rfl, Nat.le_of_ble_eq_true rfl⟩) (hc.preV hk1 rfl (by decide)) rfl rfl hl.1 rfl (lv_room (Nat.le_of_ble_eq_true rfl)) dL_spread_5 ⟨Nat.le_of_ble_eq_true rfl, Nat.le_of_ble_eq_true rfl⟩) hc (fun E8 ce9 a10 gx11 H locs hq hc hcell hcv hccl => ?_) (fun x2 gq3 H locs hq hc => ?_)
  · obtain ⟨rfl, h⟩ := hq
    refine vx_widen (k := 1) (n := 6) (Nat.le_of_ble_eq_true rfl) (Nat.le_of_ble_eq_true rfl) ?_
    rcases h with ⟨rfl, h⟩
    · refine vx_catch (name := "java/lang/IllegalArgumentException") hown [] ⟨0, 10, 13, 13⟩ [] (hxt.trans rfl) (fun z hz => nomatch hz) (by decide) (by decide) (hts _ (List.mem_cons_of_mem _ (List.mem_append_left _ (List.mem_append_left _ (List.mem_append_left _ (List.mem_append_left _ (List.mem_of_getElem? (i := 0) rfl))))))) (va_Nw.use rfl (hc.1.2.1 (.castable "java/lang/IllegalArgumentException" "java/lang/IllegalArgumentException") (by decide +kernel))) hcell hcv hccl ?_
      refine lv_astore (lv' := [(4, .ref a10), (0, .ref p0), (1, .int p1), (2, .int p2), (3, .ref p3)]) hx hb dL_spread_13 hl (by decide) rfl (fun ls hl => ?_)
      refine lv_iconst (v := 1) hx hb dL_spread_15 (by decide) ?_
      exact g_reti (r := 1) CF hr hlk hc rfl h dL_spread_16
  · obtain ⟨rfl, h⟩ := hq
    refine W.widen (k := 1) (n := 6) (Nat.le_of_ble_eq_true rfl) (Nat.le_of_ble_eq_true rfl) ?_
    refine lv_i2l hx hb dL_spread_8 rfl ?_
    obtain ⟨hk4, h⟩ := h
    obtain ⟨hi5, h⟩ := h
    refine g_last CF hc hk4 (x := x2.toInt64) hi5 dL_spread_9 (fun H locs hc => ?_)
    obtain ⟨g6, eg7⟩ : ∃ z, z = sW g0 p3 (Int32.toNatClampNeg 0) x2.toInt64 := ⟨_, rfl⟩
    have hc : gC D cA (gA g0 sz) s g6 H locs := by rw [eg7]; exact hc
    replace h := h g6 eg7
    refine lv_goto (tgt := 17) hx hb dL_spread_10 (by decide) ?_
    refine lv_iconst (v := 0) hx hb dL_spread_17 (by decide) ?_
    exact g_reti (r := 0) CF hr hlk hc rfl h dL_spread_18
def w_L_rare (g0 : gS) (p0 : Nat) (p1 : Int32) (p2 : Int32) (p3 : Nat) (Q : Int32 → gS → Prop) : Prop :=
  gK g0 p0 = 11 ∧ (w_X10_rare g0 p0 p1 p2 (fun x2 => (gK g0 p3 = 23 ∧ (vp_in 0 (gN g0 p3) ∧ (∀ g6, g6 = sW g0 p3 (Int32.toNatClampNeg 0) x2.toInt64 → (Q 0 g6))))) (fun E => (E = "java/lang/IllegalArgumentException" ∧ (Q 1 g0))))
abbrev r_L_rare : Room := { frames := 7, cells := 1, slots := 6, locals := 104 }
set_option maxHeartbeats 4000000 in
set_option maxRecDepth 100000 in
theorem c_L_rare {l : Launch} {D : va_G} {cA : Nat → ClassId} {sz : Nat} {g0 : gS} {p0 : Nat} {p1 : Int32} {p2 : Int32} {p3 : Nat} {Q : Int32 → gS → Prop} (hflags : l.stackTraces = false) (h : w_L_rare g0 p0 p1 p2 p3 Q) : Met l yL_rare wsL_rare r_L_rare (va_Pc [.ref p0, .int p1, .int p2, .ref p3] (gPre D cA g0 sz)) (gQi D cA g0 sz (Q)) 1 6 (gA g0 sz) := by
  refine g_metH (cc := cL_rare) (maxL := 5) (ret := (some .int)) (hh := [(0, 10, 13, 13)]) (own := RL) (by decide) rfl rfl (Nat.le_of_ble_eq_true rfl) ?_
  intro p e s m args below meth c ls CF hr hlk hnm hxt hc hl
  obtain ⟨hx, hb, hml, hown, hts⟩ := id CF
  have hl : lv_has ls 5 [(0, .ref p0), (1, .int p1), (2, .int p2), (3, .ref p3)] := hl
  show W p l e r_L_rare s m args below meth c s.heap [] 0 0 (MQ below (gQi D cA g0 sz (Q)) args s 1 6 (gA g0 sz)) (F0 m 0 ls [])
  unfold w_L_rare at h
  obtain ⟨H, hH0⟩ : ∃ z, z = s.heap := ⟨_, rfl⟩
  rw [← hH0] at hc ⊢
  obtain ⟨locs, hlc0⟩ : ∃ z : List Loc, z = [] := ⟨_, rfl⟩
  rw [← hlc0] at hc ⊢
  refine lv_aload_n hx hb dL_rare_0 rfl (lv_at hl 3 rfl) ?_
  refine lv_iconst (v := 0) hx hb dL_rare_1 (by decide) ?_
  refine lv_aload_n hx hb dL_rare_2 rfl (lv_at hl 0 rfl) ?_
  refine lv_iload_n hx hb dL_rare_3 rfl (lv_at hl 1 rfl) ?_
  refine lv_iload_n hx hb dL_rare_4 rfl (lv_at hl 2 rfl) ?_
  obtain ⟨hk1, h⟩ := h
  refine g_xcalli (vx_runV (As := [.int p1, .int p2]) (rest := [.int 0, .ref p3]) CF (c_X10_rare hflags h) (cwV 2 hts gL_rare_X10_rare rfl rfl rfl (by decide +kernel) ⟨Nat.le_of_ble_eq_true rfl, Nat.le_of_ble_eq_true rfl⟩) (hc.preV hk1 rfl (by decide)) rfl rfl hl.1 rfl (lv_room (Nat.le_of_ble_eq_true rfl)) dL_rare_5 ⟨Nat.le_of_ble_eq_true rfl, Nat.le_of_ble_eq_true rfl⟩) hc (fun E8 ce9 a10 gx11 H locs hq hc hcell hcv hccl => ?_) (fun x2 gq3 H locs hq hc => ?_)
  · obtain ⟨rfl, h⟩ := hq
    refine vx_widen (k := 1) (n := 6) (Nat.le_of_ble_eq_true rfl) (Nat.le_of_ble_eq_true rfl) ?_
    rcases h with ⟨rfl, h⟩
    · refine vx_catch (name := "java/lang/IllegalArgumentException") hown [] ⟨0, 10, 13, 13⟩ [] (hxt.trans rfl) (fun z hz => nomatch hz) (by decide) (by decide) (hts _ (List.mem_cons_of_mem _ (List.mem_append_left _ (List.mem_append_left _ (List.mem_append_left _ (List.mem_append_left _ (List.mem_append_left _ (List.mem_of_getElem? (i := 0) rfl)))))))) (va_Nw.use rfl (hc.1.2.1 (.castable "java/lang/IllegalArgumentException" "java/lang/IllegalArgumentException") (by decide +kernel))) hcell hcv hccl ?_
      refine lv_astore (lv' := [(4, .ref a10), (0, .ref p0), (1, .int p1), (2, .int p2), (3, .ref p3)]) hx hb dL_rare_13 hl (by decide) rfl (fun ls hl => ?_)
      refine lv_iconst (v := 1) hx hb dL_rare_15 (by decide) ?_
      exact g_reti (r := 1) CF hr hlk hc rfl h dL_rare_16
  · obtain ⟨rfl, h⟩ := hq
    refine W.widen (k := 1) (n := 6) (Nat.le_of_ble_eq_true rfl) (Nat.le_of_ble_eq_true rfl) ?_
    refine lv_i2l hx hb dL_rare_8 rfl ?_
    obtain ⟨hk4, h⟩ := h
    obtain ⟨hi5, h⟩ := h
    refine g_last CF hc hk4 (x := x2.toInt64) hi5 dL_rare_9 (fun H locs hc => ?_)
    obtain ⟨g6, eg7⟩ : ∃ z, z = sW g0 p3 (Int32.toNatClampNeg 0) x2.toInt64 := ⟨_, rfl⟩
    have hc : gC D cA (gA g0 sz) s g6 H locs := by rw [eg7]; exact hc
    replace h := h g6 eg7
    refine lv_goto (tgt := 17) hx hb dL_rare_10 (by decide) ?_
    refine lv_iconst (v := 0) hx hb dL_rare_17 (by decide) ?_
    exact g_reti (r := 0) CF hr hlk hc rfl h dL_rare_18
def w_L_term (g0 : gS) (p0 : Nat) (p1 : Int32) (p2 : Int32) (p3 : Nat) (Q : Int32 → gS → Prop) : Prop :=
  gK g0 p0 = 11 ∧ (w_X10_term g0 p0 p1 p2 (fun x2 g3 => (gK g3 p3 = 23 ∧ (vp_in 0 (gN g3 p3) ∧ (∀ g7, g7 = sW g3 p3 (Int32.toNatClampNeg 0) x2.toInt64 → (Q 0 g7))))) (fun E gx12 => (E = "java/lang/IllegalArgumentException" ∧ (Q 1 gx12)) ∨ (E = "java/lang/IllegalStateException" ∧ (Q 2 gx12))))
abbrev r_L_term : Room := { frames := 7, cells := 1, slots := 13, locals := 105 }
set_option maxHeartbeats 4000000 in
set_option maxRecDepth 100000 in
theorem c_L_term {l : Launch} {D : va_G} {cA : Nat → ClassId} {sz : Nat} {g0 : gS} {p0 : Nat} {p1 : Int32} {p2 : Int32} {p3 : Nat} {Q : Int32 → gS → Prop} (hflags : l.stackTraces = false) (h : w_L_term g0 p0 p1 p2 p3 Q) : Met l yL_term wsL_term r_L_term (va_Pc [.ref p0, .int p1, .int p2, .ref p3] (gPre D cA g0 sz)) (gQi D cA g0 sz (Q)) 1 13 (gA g0 sz) := by
  refine g_metH (cc := cL_term) (maxL := 5) (ret := (some .int)) (hh := [(0, 10, 13, 13), (0, 10, 17, 15)]) (own := RL) (by decide) rfl rfl (Nat.le_of_ble_eq_true rfl) ?_
  intro p e s m args below meth c ls CF hr hlk hnm hxt hc hl
  obtain ⟨hx, hb, hml, hown, hts⟩ := id CF
  have hl : lv_has ls 5 [(0, .ref p0), (1, .int p1), (2, .int p2), (3, .ref p3)] := hl
  show W p l e r_L_term s m args below meth c s.heap [] 0 0 (MQ below (gQi D cA g0 sz (Q)) args s 1 13 (gA g0 sz)) (F0 m 0 ls [])
  unfold w_L_term at h
  obtain ⟨H, hH0⟩ : ∃ z, z = s.heap := ⟨_, rfl⟩
  rw [← hH0] at hc ⊢
  obtain ⟨locs, hlc0⟩ : ∃ z : List Loc, z = [] := ⟨_, rfl⟩
  rw [← hlc0] at hc ⊢
  refine lv_aload_n hx hb dL_term_0 rfl (lv_at hl 3 rfl) ?_
  refine lv_iconst (v := 0) hx hb dL_term_1 (by decide) ?_
  refine lv_aload_n hx hb dL_term_2 rfl (lv_at hl 0 rfl) ?_
  refine lv_iload_n hx hb dL_term_3 rfl (lv_at hl 1 rfl) ?_
  refine lv_iload_n hx hb dL_term_4 rfl (lv_at hl 2 rfl) ?_
  obtain ⟨hk1, h⟩ := h
  refine g_xcalli (vx_runV (As := [.int p1, .int p2]) (rest := [.int 0, .ref p3]) CF (c_X10_term hflags h) (cwV 2 hts gL_term_X10_term rfl rfl rfl (by decide +kernel) ⟨Nat.le_of_ble_eq_true rfl, Nat.le_of_ble_eq_true rfl⟩) (hc.preV hk1 rfl (by decide)) rfl rfl hl.1 rfl (lv_room (Nat.le_of_ble_eq_true rfl)) dL_term_5 ⟨Nat.le_of_ble_eq_true rfl, Nat.le_of_ble_eq_true rfl⟩) hc (fun E9 ce10 a11 gx12 H locs hq hc hcell hcv hccl => ?_) (fun x2 g3 H locs hq hc => ?_)
  · replace h := hq
    refine vx_widen (k := 1) (n := 13) (Nat.le_of_ble_eq_true rfl) (Nat.le_of_ble_eq_true rfl) ?_
    rcases h with ⟨rfl, h⟩ | ⟨rfl, h⟩
    · refine vx_catch (name := "java/lang/IllegalArgumentException") hown [] ⟨0, 10, 13, 13⟩ [⟨0, 10, 17, 15⟩] (hxt.trans rfl) (fun z hz => nomatch hz) (by decide) (by decide) (hts _ (List.mem_cons_of_mem _ (List.mem_append_left _ (List.mem_append_left _ (List.mem_append_left _ (List.mem_append_left _ (List.mem_append_left _ (List.mem_append_left _ (List.mem_of_getElem? (i := 0) rfl))))))))) (va_Nw.use rfl (hc.1.2.1 (.castable "java/lang/IllegalArgumentException" "java/lang/IllegalArgumentException") (by decide +kernel))) hcell hcv hccl ?_
      refine lv_astore (lv' := [(4, .ref a11), (0, .ref p0), (1, .int p1), (2, .int p2), (3, .ref p3)]) hx hb dL_term_13 hl (by decide) rfl (fun ls hl => ?_)
      refine lv_iconst (v := 1) hx hb dL_term_15 (by decide) ?_
      exact g_reti (r := 1) CF hr hlk hc rfl h dL_term_16
    · refine vx_catch (name := "java/lang/IllegalStateException") hown [⟨0, 10, 13, 13⟩] ⟨0, 10, 17, 15⟩ [] (hxt.trans rfl) (List.forall_mem_cons.mpr ⟨Or.inr ⟨by decide, "java/lang/IllegalArgumentException", hts _ (List.mem_cons_of_mem _ (List.mem_append_left _ (List.mem_append_left _ (List.mem_append_left _ (List.mem_append_left _ (List.mem_append_left _ (List.mem_append_left _ (List.mem_of_getElem? (i := 0) rfl)))))))), hc.1.2.2.2.2.2.2.2 ("java/lang/IllegalStateException", "java/lang/IllegalArgumentException") (by decide)⟩, fun _ hz => nomatch hz⟩) (by decide) (by decide) (hts _ (List.mem_cons_of_mem _ (List.mem_append_left _ (List.mem_append_left _ (List.mem_append_left _ (List.mem_append_left _ (List.mem_append_left _ (List.mem_append_left _ (List.mem_of_getElem? (i := 1) rfl))))))))) (va_Nw.use rfl (hc.1.2.1 (.castable "java/lang/IllegalStateException" "java/lang/IllegalStateException") (by decide +kernel))) hcell hcv hccl ?_
      refine lv_astore (lv' := [(4, .ref a11), (0, .ref p0), (1, .int p1), (2, .int p2), (3, .ref p3)]) hx hb dL_term_17 hl (by decide) rfl (fun ls hl => ?_)
      refine lv_iconst (v := 2) hx hb dL_term_19 (by decide) ?_
      exact g_reti (r := 2) CF hr hlk hc rfl h dL_term_20
  · replace h := hq
    refine W.widen (k := 1) (n := 13) (Nat.le_of_ble_eq_true rfl) (Nat.le_of_ble_eq_true rfl) ?_
    refine lv_i2l hx hb dL_term_8 rfl ?_
    obtain ⟨hk5, h⟩ := h
    obtain ⟨hi6, h⟩ := h
    refine g_last CF hc hk5 (x := x2.toInt64) hi6 dL_term_9 (fun H locs hc => ?_)
    obtain ⟨g7, eg8⟩ : ∃ z, z = sW g3 p3 (Int32.toNatClampNeg 0) x2.toInt64 := ⟨_, rfl⟩
    have hc : gC D cA (gA g0 sz) s g7 H locs := by rw [eg8]; exact hc
    replace h := h g7 eg8
    refine lv_goto (tgt := 21) hx hb dL_term_10 (by decide) ?_
    refine lv_iconst (v := 0) hx hb dL_term_21 (by decide) ?_
    exact g_reti (r := 0) CF hr hlk hc rfl h dL_term_22
def w_L_and (g0 : gS) (p0 : Nat) (p1 : Int32) (p2 : Int32) (p3 : Nat) (Q : Int32 → gS → Prop) : Prop :=
  gK g0 p0 = 11 ∧ (w_X10_and g0 p0 p1 p2 (fun x2 g3 => (gK g3 p3 = 23 ∧ (vp_in 0 (gN g3 p3) ∧ (∀ g7, g7 = sW g3 p3 (Int32.toNatClampNeg 0) x2.toInt64 → (Q 0 g7))))) (fun E gx12 => (E = "java/lang/IndexOutOfBoundsException" ∧ (Q 1 gx12)) ∨ (E = "java/lang/IllegalStateException" ∧ (Q 2 gx12))))
abbrev r_L_and : Room := { frames := 8, cells := 1, slots := 13, locals := 128 }
set_option maxHeartbeats 4000000 in
set_option maxRecDepth 100000 in
theorem c_L_and {l : Launch} {D : va_G} {cA : Nat → ClassId} {sz : Nat} {g0 : gS} {p0 : Nat} {p1 : Int32} {p2 : Int32} {p3 : Nat} {Q : Int32 → gS → Prop} (hflags : l.stackTraces = false) (h : w_L_and g0 p0 p1 p2 p3 Q) : Met l yL_and wsL_and r_L_and (va_Pc [.ref p0, .int p1, .int p2, .ref p3] (gPre D cA g0 sz)) (gQi D cA g0 sz (Q)) 1 13 (gA g0 sz) := by
  refine g_metH (cc := cL_and) (maxL := 5) (ret := (some .int)) (hh := [(0, 10, 13, 28), (0, 10, 17, 15)]) (own := RL) (by decide) rfl rfl (Nat.le_of_ble_eq_true rfl) ?_
  intro p e s m args below meth c ls CF hr hlk hnm hxt hc hl
  obtain ⟨hx, hb, hml, hown, hts⟩ := id CF
  have hl : lv_has ls 5 [(0, .ref p0), (1, .int p1), (2, .int p2), (3, .ref p3)] := hl
  show W p l e r_L_and s m args below meth c s.heap [] 0 0 (MQ below (gQi D cA g0 sz (Q)) args s 1 13 (gA g0 sz)) (F0 m 0 ls [])
  unfold w_L_and at h
  obtain ⟨H, hH0⟩ : ∃ z, z = s.heap := ⟨_, rfl⟩
  rw [← hH0] at hc ⊢
  obtain ⟨locs, hlc0⟩ : ∃ z : List Loc, z = [] := ⟨_, rfl⟩
  rw [← hlc0] at hc ⊢
  refine lv_aload_n hx hb dL_and_0 rfl (lv_at hl 3 rfl) ?_
  refine lv_iconst (v := 0) hx hb dL_and_1 (by decide) ?_
  refine lv_aload_n hx hb dL_and_2 rfl (lv_at hl 0 rfl) ?_
  refine lv_iload_n hx hb dL_and_3 rfl (lv_at hl 1 rfl) ?_
  refine lv_iload_n hx hb dL_and_4 rfl (lv_at hl 2 rfl) ?_
  obtain ⟨hk1, h⟩ := h
  refine g_xcalli (vx_runV (As := [.int p1, .int p2]) (rest := [.int 0, .ref p3]) CF (c_X10_and hflags h) (cwV 2 hts gL_and_X10_and rfl rfl rfl (by decide +kernel) ⟨Nat.le_of_ble_eq_true rfl, Nat.le_of_ble_eq_true rfl⟩) (hc.preV hk1 rfl (by decide)) rfl rfl hl.1 rfl (lv_room (Nat.le_of_ble_eq_true rfl)) dL_and_5 ⟨Nat.le_of_ble_eq_true rfl, Nat.le_of_ble_eq_true rfl⟩) hc (fun E9 ce10 a11 gx12 H locs hq hc hcell hcv hccl => ?_) (fun x2 g3 H locs hq hc => ?_)
  · replace h := hq
    refine vx_widen (k := 1) (n := 13) (Nat.le_of_ble_eq_true rfl) (Nat.le_of_ble_eq_true rfl) ?_
    rcases h with ⟨rfl, h⟩ | ⟨rfl, h⟩
    · refine vx_catch (name := "java/lang/IndexOutOfBoundsException") hown [] ⟨0, 10, 13, 28⟩ [⟨0, 10, 17, 15⟩] (hxt.trans rfl) (fun z hz => nomatch hz) (by decide) (by decide) (hts _ (List.mem_cons_of_mem _ (List.mem_append_left _ (List.mem_append_left _ (List.mem_append_left _ (List.mem_append_left _ (List.mem_append_left _ (List.mem_append_left _ (List.mem_of_getElem? (i := 0) rfl))))))))) (va_Nw.use rfl (hc.1.2.1 (.castable "java/lang/IndexOutOfBoundsException" "java/lang/IndexOutOfBoundsException") (by decide +kernel))) hcell hcv hccl ?_
      refine lv_astore (lv' := [(4, .ref a11), (0, .ref p0), (1, .int p1), (2, .int p2), (3, .ref p3)]) hx hb dL_and_13 hl (by decide) rfl (fun ls hl => ?_)
      refine lv_iconst (v := 1) hx hb dL_and_15 (by decide) ?_
      exact g_reti (r := 1) CF hr hlk hc rfl h dL_and_16
    · refine vx_catch (name := "java/lang/IllegalStateException") hown [⟨0, 10, 13, 28⟩] ⟨0, 10, 17, 15⟩ [] (hxt.trans rfl) (List.forall_mem_cons.mpr ⟨Or.inr ⟨by decide, "java/lang/IndexOutOfBoundsException", hts _ (List.mem_cons_of_mem _ (List.mem_append_left _ (List.mem_append_left _ (List.mem_append_left _ (List.mem_append_left _ (List.mem_append_left _ (List.mem_append_left _ (List.mem_of_getElem? (i := 0) rfl)))))))), hc.1.2.2.2.2.2.2.2 ("java/lang/IllegalStateException", "java/lang/IndexOutOfBoundsException") (by decide)⟩, fun _ hz => nomatch hz⟩) (by decide) (by decide) (hts _ (List.mem_cons_of_mem _ (List.mem_append_left _ (List.mem_append_left _ (List.mem_append_left _ (List.mem_append_left _ (List.mem_append_left _ (List.mem_append_left _ (List.mem_of_getElem? (i := 1) rfl))))))))) (va_Nw.use rfl (hc.1.2.1 (.castable "java/lang/IllegalStateException" "java/lang/IllegalStateException") (by decide +kernel))) hcell hcv hccl ?_
      refine lv_astore (lv' := [(4, .ref a11), (0, .ref p0), (1, .int p1), (2, .int p2), (3, .ref p3)]) hx hb dL_and_17 hl (by decide) rfl (fun ls hl => ?_)
      refine lv_iconst (v := 2) hx hb dL_and_19 (by decide) ?_
      exact g_reti (r := 2) CF hr hlk hc rfl h dL_and_20
  · replace h := hq
    refine W.widen (k := 1) (n := 13) (Nat.le_of_ble_eq_true rfl) (Nat.le_of_ble_eq_true rfl) ?_
    refine lv_i2l hx hb dL_and_8 rfl ?_
    obtain ⟨hk5, h⟩ := h
    obtain ⟨hi6, h⟩ := h
    refine g_last CF hc hk5 (x := x2.toInt64) hi6 dL_and_9 (fun H locs hc => ?_)
    obtain ⟨g7, eg8⟩ : ∃ z, z = sW g3 p3 (Int32.toNatClampNeg 0) x2.toInt64 := ⟨_, rfl⟩
    have hc : gC D cA (gA g0 sz) s g7 H locs := by rw [eg8]; exact hc
    replace h := h g7 eg8
    refine lv_goto (tgt := 21) hx hb dL_and_10 (by decide) ?_
    refine lv_iconst (v := 0) hx hb dL_and_21 (by decide) ?_
    exact g_reti (r := 0) CF hr hlk hc rfl h dL_and_22
def w_L_or (g0 : gS) (p0 : Nat) (p1 : Int32) (p2 : Int32) (p3 : Nat) (Q : Int32 → gS → Prop) : Prop :=
  gK g0 p0 = 11 ∧ (w_X10_or g0 p0 p1 p2 (fun x2 g3 => (gK g3 p3 = 23 ∧ (vp_in 0 (gN g3 p3) ∧ (∀ g7, g7 = sW g3 p3 (Int32.toNatClampNeg 0) x2.toInt64 → (Q 0 g7))))) (fun E gx12 => (E = "java/lang/IndexOutOfBoundsException" ∧ (Q 1 gx12)) ∨ (E = "java/lang/IllegalStateException" ∧ (Q 2 gx12))))
abbrev r_L_or : Room := { frames := 8, cells := 1, slots := 13, locals := 128 }
set_option maxHeartbeats 4000000 in
set_option maxRecDepth 100000 in
theorem c_L_or {l : Launch} {D : va_G} {cA : Nat → ClassId} {sz : Nat} {g0 : gS} {p0 : Nat} {p1 : Int32} {p2 : Int32} {p3 : Nat} {Q : Int32 → gS → Prop} (hflags : l.stackTraces = false) (h : w_L_or g0 p0 p1 p2 p3 Q) : Met l yL_or wsL_or r_L_or (va_Pc [.ref p0, .int p1, .int p2, .ref p3] (gPre D cA g0 sz)) (gQi D cA g0 sz (Q)) 1 13 (gA g0 sz) := by
  refine g_metH (cc := cL_or) (maxL := 5) (ret := (some .int)) (hh := [(0, 10, 13, 28), (0, 10, 17, 15)]) (own := RL) (by decide) rfl rfl (Nat.le_of_ble_eq_true rfl) ?_
  intro p e s m args below meth c ls CF hr hlk hnm hxt hc hl
  obtain ⟨hx, hb, hml, hown, hts⟩ := id CF
  have hl : lv_has ls 5 [(0, .ref p0), (1, .int p1), (2, .int p2), (3, .ref p3)] := hl
  show W p l e r_L_or s m args below meth c s.heap [] 0 0 (MQ below (gQi D cA g0 sz (Q)) args s 1 13 (gA g0 sz)) (F0 m 0 ls [])
  unfold w_L_or at h
  obtain ⟨H, hH0⟩ : ∃ z, z = s.heap := ⟨_, rfl⟩
  rw [← hH0] at hc ⊢
  obtain ⟨locs, hlc0⟩ : ∃ z : List Loc, z = [] := ⟨_, rfl⟩
  rw [← hlc0] at hc ⊢
  refine lv_aload_n hx hb dL_or_0 rfl (lv_at hl 3 rfl) ?_
  refine lv_iconst (v := 0) hx hb dL_or_1 (by decide) ?_
  refine lv_aload_n hx hb dL_or_2 rfl (lv_at hl 0 rfl) ?_
  refine lv_iload_n hx hb dL_or_3 rfl (lv_at hl 1 rfl) ?_
  refine lv_iload_n hx hb dL_or_4 rfl (lv_at hl 2 rfl) ?_
  obtain ⟨hk1, h⟩ := h
  refine g_xcalli (vx_runV (As := [.int p1, .int p2]) (rest := [.int 0, .ref p3]) CF (c_X10_or hflags h) (cwV 2 hts gL_or_X10_or rfl rfl rfl (by decide +kernel) ⟨Nat.le_of_ble_eq_true rfl, Nat.le_of_ble_eq_true rfl⟩) (hc.preV hk1 rfl (by decide)) rfl rfl hl.1 rfl (lv_room (Nat.le_of_ble_eq_true rfl)) dL_or_5 ⟨Nat.le_of_ble_eq_true rfl, Nat.le_of_ble_eq_true rfl⟩) hc (fun E9 ce10 a11 gx12 H locs hq hc hcell hcv hccl => ?_) (fun x2 g3 H locs hq hc => ?_)
  · replace h := hq
    refine vx_widen (k := 1) (n := 13) (Nat.le_of_ble_eq_true rfl) (Nat.le_of_ble_eq_true rfl) ?_
    rcases h with ⟨rfl, h⟩ | ⟨rfl, h⟩
    · refine vx_catch (name := "java/lang/IndexOutOfBoundsException") hown [] ⟨0, 10, 13, 28⟩ [⟨0, 10, 17, 15⟩] (hxt.trans rfl) (fun z hz => nomatch hz) (by decide) (by decide) (hts _ (List.mem_cons_of_mem _ (List.mem_append_left _ (List.mem_append_left _ (List.mem_append_left _ (List.mem_append_left _ (List.mem_append_left _ (List.mem_append_left _ (List.mem_of_getElem? (i := 0) rfl))))))))) (va_Nw.use rfl (hc.1.2.1 (.castable "java/lang/IndexOutOfBoundsException" "java/lang/IndexOutOfBoundsException") (by decide +kernel))) hcell hcv hccl ?_
      refine lv_astore (lv' := [(4, .ref a11), (0, .ref p0), (1, .int p1), (2, .int p2), (3, .ref p3)]) hx hb dL_or_13 hl (by decide) rfl (fun ls hl => ?_)
      refine lv_iconst (v := 1) hx hb dL_or_15 (by decide) ?_
      exact g_reti (r := 1) CF hr hlk hc rfl h dL_or_16
    · refine vx_catch (name := "java/lang/IllegalStateException") hown [⟨0, 10, 13, 28⟩] ⟨0, 10, 17, 15⟩ [] (hxt.trans rfl) (List.forall_mem_cons.mpr ⟨Or.inr ⟨by decide, "java/lang/IndexOutOfBoundsException", hts _ (List.mem_cons_of_mem _ (List.mem_append_left _ (List.mem_append_left _ (List.mem_append_left _ (List.mem_append_left _ (List.mem_append_left _ (List.mem_append_left _ (List.mem_of_getElem? (i := 0) rfl)))))))), hc.1.2.2.2.2.2.2.2 ("java/lang/IllegalStateException", "java/lang/IndexOutOfBoundsException") (by decide)⟩, fun _ hz => nomatch hz⟩) (by decide) (by decide) (hts _ (List.mem_cons_of_mem _ (List.mem_append_left _ (List.mem_append_left _ (List.mem_append_left _ (List.mem_append_left _ (List.mem_append_left _ (List.mem_append_left _ (List.mem_of_getElem? (i := 1) rfl))))))))) (va_Nw.use rfl (hc.1.2.1 (.castable "java/lang/IllegalStateException" "java/lang/IllegalStateException") (by decide +kernel))) hcell hcv hccl ?_
      refine lv_astore (lv' := [(4, .ref a11), (0, .ref p0), (1, .int p1), (2, .int p2), (3, .ref p3)]) hx hb dL_or_17 hl (by decide) rfl (fun ls hl => ?_)
      refine lv_iconst (v := 2) hx hb dL_or_19 (by decide) ?_
      exact g_reti (r := 2) CF hr hlk hc rfl h dL_or_20
  · replace h := hq
    refine W.widen (k := 1) (n := 13) (Nat.le_of_ble_eq_true rfl) (Nat.le_of_ble_eq_true rfl) ?_
    refine lv_i2l hx hb dL_or_8 rfl ?_
    obtain ⟨hk5, h⟩ := h
    obtain ⟨hi6, h⟩ := h
    refine g_last CF hc hk5 (x := x2.toInt64) hi6 dL_or_9 (fun H locs hc => ?_)
    obtain ⟨g7, eg8⟩ : ∃ z, z = sW g3 p3 (Int32.toNatClampNeg 0) x2.toInt64 := ⟨_, rfl⟩
    have hc : gC D cA (gA g0 sz) s g7 H locs := by rw [eg8]; exact hc
    replace h := h g7 eg8
    refine lv_goto (tgt := 21) hx hb dL_or_10 (by decide) ?_
    refine lv_iconst (v := 0) hx hb dL_or_21 (by decide) ?_
    exact g_reti (r := 0) CF hr hlk hc rfl h dL_or_22
def w_L_not (g0 : gS) (p0 : Nat) (p1 : Int32) (p2 : Int32) (p3 : Nat) (Q : Int32 → gS → Prop) : Prop :=
  gK g0 p0 = 11 ∧ (w_X10_not g0 p0 p1 p2 (fun x2 g3 => (gK g3 p3 = 23 ∧ (vp_in 0 (gN g3 p3) ∧ (∀ g7, g7 = sW g3 p3 (Int32.toNatClampNeg 0) x2.toInt64 → (Q 0 g7))))) (fun E gx12 => (E = "java/lang/IndexOutOfBoundsException" ∧ (Q 1 gx12)) ∨ (E = "java/lang/IllegalStateException" ∧ (Q 2 gx12))))
abbrev r_L_not : Room := { frames := 8, cells := 1, slots := 13, locals := 128 }
set_option maxHeartbeats 4000000 in
set_option maxRecDepth 100000 in
theorem c_L_not {l : Launch} {D : va_G} {cA : Nat → ClassId} {sz : Nat} {g0 : gS} {p0 : Nat} {p1 : Int32} {p2 : Int32} {p3 : Nat} {Q : Int32 → gS → Prop} (hflags : l.stackTraces = false) (h : w_L_not g0 p0 p1 p2 p3 Q) : Met l yL_not wsL_not r_L_not (va_Pc [.ref p0, .int p1, .int p2, .ref p3] (gPre D cA g0 sz)) (gQi D cA g0 sz (Q)) 1 13 (gA g0 sz) := by
  refine g_metH (cc := cL_not) (maxL := 5) (ret := (some .int)) (hh := [(0, 10, 13, 28), (0, 10, 17, 15)]) (own := RL) (by decide) rfl rfl (Nat.le_of_ble_eq_true rfl) ?_
  intro p e s m args below meth c ls CF hr hlk hnm hxt hc hl
  obtain ⟨hx, hb, hml, hown, hts⟩ := id CF
  have hl : lv_has ls 5 [(0, .ref p0), (1, .int p1), (2, .int p2), (3, .ref p3)] := hl
  show W p l e r_L_not s m args below meth c s.heap [] 0 0 (MQ below (gQi D cA g0 sz (Q)) args s 1 13 (gA g0 sz)) (F0 m 0 ls [])
  unfold w_L_not at h
  obtain ⟨H, hH0⟩ : ∃ z, z = s.heap := ⟨_, rfl⟩
  rw [← hH0] at hc ⊢
  obtain ⟨locs, hlc0⟩ : ∃ z : List Loc, z = [] := ⟨_, rfl⟩
  rw [← hlc0] at hc ⊢
  refine lv_aload_n hx hb dL_not_0 rfl (lv_at hl 3 rfl) ?_
  refine lv_iconst (v := 0) hx hb dL_not_1 (by decide) ?_
  refine lv_aload_n hx hb dL_not_2 rfl (lv_at hl 0 rfl) ?_
  refine lv_iload_n hx hb dL_not_3 rfl (lv_at hl 1 rfl) ?_
  refine lv_iload_n hx hb dL_not_4 rfl (lv_at hl 2 rfl) ?_
  obtain ⟨hk1, h⟩ := h
  refine g_xcalli (vx_runV (As := [.int p1, .int p2]) (rest := [.int 0, .ref p3]) CF (c_X10_not hflags h) (cwV 2 hts gL_not_X10_not rfl rfl rfl (by decide +kernel) ⟨Nat.le_of_ble_eq_true rfl, Nat.le_of_ble_eq_true rfl⟩) (hc.preV hk1 rfl (by decide)) rfl rfl hl.1 rfl (lv_room (Nat.le_of_ble_eq_true rfl)) dL_not_5 ⟨Nat.le_of_ble_eq_true rfl, Nat.le_of_ble_eq_true rfl⟩) hc (fun E9 ce10 a11 gx12 H locs hq hc hcell hcv hccl => ?_) (fun x2 g3 H locs hq hc => ?_)
  · replace h := hq
    refine vx_widen (k := 1) (n := 13) (Nat.le_of_ble_eq_true rfl) (Nat.le_of_ble_eq_true rfl) ?_
    rcases h with ⟨rfl, h⟩ | ⟨rfl, h⟩
    · refine vx_catch (name := "java/lang/IndexOutOfBoundsException") hown [] ⟨0, 10, 13, 28⟩ [⟨0, 10, 17, 15⟩] (hxt.trans rfl) (fun z hz => nomatch hz) (by decide) (by decide) (hts _ (List.mem_cons_of_mem _ (List.mem_append_left _ (List.mem_append_left _ (List.mem_append_left _ (List.mem_append_left _ (List.mem_append_left _ (List.mem_append_left _ (List.mem_of_getElem? (i := 0) rfl))))))))) (va_Nw.use rfl (hc.1.2.1 (.castable "java/lang/IndexOutOfBoundsException" "java/lang/IndexOutOfBoundsException") (by decide +kernel))) hcell hcv hccl ?_
      refine lv_astore (lv' := [(4, .ref a11), (0, .ref p0), (1, .int p1), (2, .int p2), (3, .ref p3)]) hx hb dL_not_13 hl (by decide) rfl (fun ls hl => ?_)
      refine lv_iconst (v := 1) hx hb dL_not_15 (by decide) ?_
      exact g_reti (r := 1) CF hr hlk hc rfl h dL_not_16
    · refine vx_catch (name := "java/lang/IllegalStateException") hown [⟨0, 10, 13, 28⟩] ⟨0, 10, 17, 15⟩ [] (hxt.trans rfl) (List.forall_mem_cons.mpr ⟨Or.inr ⟨by decide, "java/lang/IndexOutOfBoundsException", hts _ (List.mem_cons_of_mem _ (List.mem_append_left _ (List.mem_append_left _ (List.mem_append_left _ (List.mem_append_left _ (List.mem_append_left _ (List.mem_append_left _ (List.mem_of_getElem? (i := 0) rfl)))))))), hc.1.2.2.2.2.2.2.2 ("java/lang/IllegalStateException", "java/lang/IndexOutOfBoundsException") (by decide)⟩, fun _ hz => nomatch hz⟩) (by decide) (by decide) (hts _ (List.mem_cons_of_mem _ (List.mem_append_left _ (List.mem_append_left _ (List.mem_append_left _ (List.mem_append_left _ (List.mem_append_left _ (List.mem_append_left _ (List.mem_of_getElem? (i := 1) rfl))))))))) (va_Nw.use rfl (hc.1.2.1 (.castable "java/lang/IllegalStateException" "java/lang/IllegalStateException") (by decide +kernel))) hcell hcv hccl ?_
      refine lv_astore (lv' := [(4, .ref a11), (0, .ref p0), (1, .int p1), (2, .int p2), (3, .ref p3)]) hx hb dL_not_17 hl (by decide) rfl (fun ls hl => ?_)
      refine lv_iconst (v := 2) hx hb dL_not_19 (by decide) ?_
      exact g_reti (r := 2) CF hr hlk hc rfl h dL_not_20
  · replace h := hq
    refine W.widen (k := 1) (n := 13) (Nat.le_of_ble_eq_true rfl) (Nat.le_of_ble_eq_true rfl) ?_
    refine lv_i2l hx hb dL_not_8 rfl ?_
    obtain ⟨hk5, h⟩ := h
    obtain ⟨hi6, h⟩ := h
    refine g_last CF hc hk5 (x := x2.toInt64) hi6 dL_not_9 (fun H locs hc => ?_)
    obtain ⟨g7, eg8⟩ : ∃ z, z = sW g3 p3 (Int32.toNatClampNeg 0) x2.toInt64 := ⟨_, rfl⟩
    have hc : gC D cA (gA g0 sz) s g7 H locs := by rw [eg8]; exact hc
    replace h := h g7 eg8
    refine lv_goto (tgt := 21) hx hb dL_not_10 (by decide) ?_
    refine lv_iconst (v := 0) hx hb dL_not_21 (by decide) ?_
    exact g_reti (r := 0) CF hr hlk hc rfl h dL_not_22
def w_L_near (g0 : gS) (p0 : Nat) (p1 : Int32) (p2 : Int32) (p3 : Int32) (p4 : Int32) (p5 : Nat) (Q : Int32 → gS → Prop) : Prop :=
  gK g0 p0 = 11 ∧ (w_X10_near g0 p0 p1 p2 p3 p4 (fun x2 g3 => (gK g3 p5 = 23 ∧ (vp_in 0 (gN g3 p5) ∧ (∀ g7, g7 = sW g3 p5 (Int32.toNatClampNeg 0) x2.toInt64 → (Q 0 g7))))) (fun E gx12 => (E = "java/lang/IndexOutOfBoundsException" ∧ (Q 1 gx12)) ∨ (E = "java/lang/IllegalArgumentException" ∧ (Q 2 gx12)) ∨ (E = "java/lang/IllegalStateException" ∧ (Q 3 gx12))))
abbrev r_L_near : Room := { frames := 7, cells := 1, slots := 13, locals := 109 }
set_option maxHeartbeats 4000000 in
set_option maxRecDepth 100000 in
theorem c_L_near {l : Launch} {D : va_G} {cA : Nat → ClassId} {sz : Nat} {g0 : gS} {p0 : Nat} {p1 : Int32} {p2 : Int32} {p3 : Int32} {p4 : Int32} {p5 : Nat} {Q : Int32 → gS → Prop} (hflags : l.stackTraces = false) (h : w_L_near g0 p0 p1 p2 p3 p4 p5 Q) : Met l yL_near wsL_near r_L_near (va_Pc [.ref p0, .int p1, .int p2, .int p3, .int p4, .ref p5] (gPre D cA g0 sz)) (gQi D cA g0 sz (Q)) 1 13 (gA g0 sz) := by
  refine g_metH (cc := cL_near) (maxL := 7) (ret := (some .int)) (hh := [(0, 14, 17, 28), (0, 14, 21, 13), (0, 14, 25, 15)]) (own := RL) (by decide) rfl rfl (Nat.le_of_ble_eq_true rfl) ?_
  intro p e s m args below meth c ls CF hr hlk hnm hxt hc hl
  obtain ⟨hx, hb, hml, hown, hts⟩ := id CF
  have hl : lv_has ls 7 [(0, .ref p0), (1, .int p1), (2, .int p2), (3, .int p3), (4, .int p4), (5, .ref p5)] := hl
  show W p l e r_L_near s m args below meth c s.heap [] 0 0 (MQ below (gQi D cA g0 sz (Q)) args s 1 13 (gA g0 sz)) (F0 m 0 ls [])
  unfold w_L_near at h
  obtain ⟨H, hH0⟩ : ∃ z, z = s.heap := ⟨_, rfl⟩
  rw [← hH0] at hc ⊢
  obtain ⟨locs, hlc0⟩ : ∃ z : List Loc, z = [] := ⟨_, rfl⟩
  rw [← hlc0] at hc ⊢
  refine lv_aload hx hb dL_near_0 (lv_at hl 5 rfl) ?_
  refine lv_iconst (v := 0) hx hb dL_near_2 (by decide) ?_
  refine lv_aload_n hx hb dL_near_3 rfl (lv_at hl 0 rfl) ?_
  refine lv_iload_n hx hb dL_near_4 rfl (lv_at hl 1 rfl) ?_
  refine lv_iload_n hx hb dL_near_5 rfl (lv_at hl 2 rfl) ?_
  refine lv_iload_n hx hb dL_near_6 rfl (lv_at hl 3 rfl) ?_
  refine lv_iload hx hb dL_near_7 (lv_at hl 4 rfl) ?_
  obtain ⟨hk1, h⟩ := h
  refine g_xcalli (vx_runV (As := [.int p1, .int p2, .int p3, .int p4]) (rest := [.int 0, .ref p5]) CF (c_X10_near hflags h) (cwV 4 hts gL_near_X10_near rfl rfl rfl (by decide +kernel) ⟨Nat.le_of_ble_eq_true rfl, Nat.le_of_ble_eq_true rfl⟩) (hc.preV hk1 rfl (by decide)) rfl rfl hl.1 rfl (lv_room (Nat.le_of_ble_eq_true rfl)) dL_near_9 ⟨Nat.le_of_ble_eq_true rfl, Nat.le_of_ble_eq_true rfl⟩) hc (fun E9 ce10 a11 gx12 H locs hq hc hcell hcv hccl => ?_) (fun x2 g3 H locs hq hc => ?_)
  · replace h := hq
    refine vx_widen (k := 1) (n := 13) (Nat.le_of_ble_eq_true rfl) (Nat.le_of_ble_eq_true rfl) ?_
    rcases h with ⟨rfl, h⟩ | ⟨rfl, h⟩ | ⟨rfl, h⟩
    · refine vx_catch (name := "java/lang/IndexOutOfBoundsException") hown [] ⟨0, 14, 17, 28⟩ [⟨0, 14, 21, 13⟩, ⟨0, 14, 25, 15⟩] (hxt.trans rfl) (fun z hz => nomatch hz) (by decide) (by decide) (hts _ (List.mem_cons_of_mem _ (List.mem_append_left _ (List.mem_append_left _ (List.mem_append_left _ (List.mem_append_left _ (List.mem_append_left _ (List.mem_append_left _ (List.mem_append_left _ (List.mem_of_getElem? (i := 0) rfl)))))))))) (va_Nw.use rfl (hc.1.2.1 (.castable "java/lang/IndexOutOfBoundsException" "java/lang/IndexOutOfBoundsException") (by decide +kernel))) hcell hcv hccl ?_
      refine lv_astore (lv' := [(6, .ref a11), (0, .ref p0), (1, .int p1), (2, .int p2), (3, .int p3), (4, .int p4), (5, .ref p5)]) hx hb dL_near_17 hl (by decide) rfl (fun ls hl => ?_)
      refine lv_iconst (v := 1) hx hb dL_near_19 (by decide) ?_
      exact g_reti (r := 1) CF hr hlk hc rfl h dL_near_20
    · refine vx_catch (name := "java/lang/IllegalArgumentException") hown [⟨0, 14, 17, 28⟩] ⟨0, 14, 21, 13⟩ [⟨0, 14, 25, 15⟩] (hxt.trans rfl) (List.forall_mem_cons.mpr ⟨Or.inr ⟨by decide, "java/lang/IndexOutOfBoundsException", hts _ (List.mem_cons_of_mem _ (List.mem_append_left _ (List.mem_append_left _ (List.mem_append_left _ (List.mem_append_left _ (List.mem_append_left _ (List.mem_append_left _ (List.mem_append_left _ (List.mem_of_getElem? (i := 0) rfl))))))))), hc.1.2.2.2.2.2.2.2 ("java/lang/IllegalArgumentException", "java/lang/IndexOutOfBoundsException") (by decide)⟩, fun _ hz => nomatch hz⟩) (by decide) (by decide) (hts _ (List.mem_cons_of_mem _ (List.mem_append_left _ (List.mem_append_left _ (List.mem_append_left _ (List.mem_append_left _ (List.mem_append_left _ (List.mem_append_left _ (List.mem_append_left _ (List.mem_of_getElem? (i := 1) rfl)))))))))) (va_Nw.use rfl (hc.1.2.1 (.castable "java/lang/IllegalArgumentException" "java/lang/IllegalArgumentException") (by decide +kernel))) hcell hcv hccl ?_
      refine lv_astore (lv' := [(6, .ref a11), (0, .ref p0), (1, .int p1), (2, .int p2), (3, .int p3), (4, .int p4), (5, .ref p5)]) hx hb dL_near_21 hl (by decide) rfl (fun ls hl => ?_)
      refine lv_iconst (v := 2) hx hb dL_near_23 (by decide) ?_
      exact g_reti (r := 2) CF hr hlk hc rfl h dL_near_24
    · refine vx_catch (name := "java/lang/IllegalStateException") hown [⟨0, 14, 17, 28⟩, ⟨0, 14, 21, 13⟩] ⟨0, 14, 25, 15⟩ [] (hxt.trans rfl) (List.forall_mem_cons.mpr ⟨Or.inr ⟨by decide, "java/lang/IndexOutOfBoundsException", hts _ (List.mem_cons_of_mem _ (List.mem_append_left _ (List.mem_append_left _ (List.mem_append_left _ (List.mem_append_left _ (List.mem_append_left _ (List.mem_append_left _ (List.mem_append_left _ (List.mem_of_getElem? (i := 0) rfl))))))))), hc.1.2.2.2.2.2.2.2 ("java/lang/IllegalStateException", "java/lang/IndexOutOfBoundsException") (by decide)⟩, List.forall_mem_cons.mpr ⟨Or.inr ⟨by decide, "java/lang/IllegalArgumentException", hts _ (List.mem_cons_of_mem _ (List.mem_append_left _ (List.mem_append_left _ (List.mem_append_left _ (List.mem_append_left _ (List.mem_append_left _ (List.mem_append_left _ (List.mem_append_left _ (List.mem_of_getElem? (i := 1) rfl))))))))), hc.1.2.2.2.2.2.2.2 ("java/lang/IllegalStateException", "java/lang/IllegalArgumentException") (by decide)⟩, fun _ hz => nomatch hz⟩⟩) (by decide) (by decide) (hts _ (List.mem_cons_of_mem _ (List.mem_append_left _ (List.mem_append_left _ (List.mem_append_left _ (List.mem_append_left _ (List.mem_append_left _ (List.mem_append_left _ (List.mem_append_left _ (List.mem_of_getElem? (i := 2) rfl)))))))))) (va_Nw.use rfl (hc.1.2.1 (.castable "java/lang/IllegalStateException" "java/lang/IllegalStateException") (by decide +kernel))) hcell hcv hccl ?_
      refine lv_astore (lv' := [(6, .ref a11), (0, .ref p0), (1, .int p1), (2, .int p2), (3, .int p3), (4, .int p4), (5, .ref p5)]) hx hb dL_near_25 hl (by decide) rfl (fun ls hl => ?_)
      refine lv_iconst (v := 3) hx hb dL_near_27 (by decide) ?_
      exact g_reti (r := 3) CF hr hlk hc rfl h dL_near_28
  · replace h := hq
    refine W.widen (k := 1) (n := 13) (Nat.le_of_ble_eq_true rfl) (Nat.le_of_ble_eq_true rfl) ?_
    refine lv_i2l hx hb dL_near_12 rfl ?_
    obtain ⟨hk5, h⟩ := h
    obtain ⟨hi6, h⟩ := h
    refine g_last CF hc hk5 (x := x2.toInt64) hi6 dL_near_13 (fun H locs hc => ?_)
    obtain ⟨g7, eg8⟩ : ∃ z, z = sW g3 p5 (Int32.toNatClampNeg 0) x2.toInt64 := ⟨_, rfl⟩
    have hc : gC D cA (gA g0 sz) s g7 H locs := by rw [eg8]; exact hc
    replace h := h g7 eg8
    refine lv_goto (tgt := 29) hx hb dL_near_14 (by decide) ?_
    refine lv_iconst (v := 0) hx hb dL_near_29 (by decide) ?_
    exact g_reti (r := 0) CF hr hlk hc rfl h dL_near_30
def w_L_dated (g0 : gS) (p0 : Nat) (p1 : Int32) (p2 : Int32) (p3 : Nat) (Q : Int32 → gS → Prop) : Prop :=
  gK g0 p0 = 11 ∧ (w_X10_dated g0 p0 p1 p2 (fun x2 g3 => (gK g3 p3 = 23 ∧ (vp_in 0 (gN g3 p3) ∧ (∀ g7, g7 = sW g3 p3 (Int32.toNatClampNeg 0) x2.toInt64 → (Q 0 g7))))) (fun E gx12 => (E = "java/lang/IllegalArgumentException" ∧ (Q 1 gx12)) ∨ (E = "java/lang/IllegalStateException" ∧ (Q 2 gx12))))
abbrev r_L_dated : Room := { frames := 7, cells := 1, slots := 13, locals := 105 }
set_option maxHeartbeats 4000000 in
set_option maxRecDepth 100000 in
theorem c_L_dated {l : Launch} {D : va_G} {cA : Nat → ClassId} {sz : Nat} {g0 : gS} {p0 : Nat} {p1 : Int32} {p2 : Int32} {p3 : Nat} {Q : Int32 → gS → Prop} (hflags : l.stackTraces = false) (h : w_L_dated g0 p0 p1 p2 p3 Q) : Met l yL_dated wsL_dated r_L_dated (va_Pc [.ref p0, .int p1, .int p2, .ref p3] (gPre D cA g0 sz)) (gQi D cA g0 sz (Q)) 1 13 (gA g0 sz) := by
  refine g_metH (cc := cL_dated) (maxL := 5) (ret := (some .int)) (hh := [(0, 10, 13, 13), (0, 10, 17, 15)]) (own := RL) (by decide) rfl rfl (Nat.le_of_ble_eq_true rfl) ?_
  intro p e s m args below meth c ls CF hr hlk hnm hxt hc hl
  obtain ⟨hx, hb, hml, hown, hts⟩ := id CF
  have hl : lv_has ls 5 [(0, .ref p0), (1, .int p1), (2, .int p2), (3, .ref p3)] := hl
  show W p l e r_L_dated s m args below meth c s.heap [] 0 0 (MQ below (gQi D cA g0 sz (Q)) args s 1 13 (gA g0 sz)) (F0 m 0 ls [])
  unfold w_L_dated at h
  obtain ⟨H, hH0⟩ : ∃ z, z = s.heap := ⟨_, rfl⟩
  rw [← hH0] at hc ⊢
  obtain ⟨locs, hlc0⟩ : ∃ z : List Loc, z = [] := ⟨_, rfl⟩
  rw [← hlc0] at hc ⊢
  refine lv_aload_n hx hb dL_dated_0 rfl (lv_at hl 3 rfl) ?_
  refine lv_iconst (v := 0) hx hb dL_dated_1 (by decide) ?_
  refine lv_aload_n hx hb dL_dated_2 rfl (lv_at hl 0 rfl) ?_
  refine lv_iload_n hx hb dL_dated_3 rfl (lv_at hl 1 rfl) ?_
  refine lv_iload_n hx hb dL_dated_4 rfl (lv_at hl 2 rfl) ?_
  obtain ⟨hk1, h⟩ := h
  refine g_xcalli (vx_runV (As := [.int p1, .int p2]) (rest := [.int 0, .ref p3]) CF (c_X10_dated hflags h) (cwV 2 hts gL_dated_X10_dated rfl rfl rfl (by decide +kernel) ⟨Nat.le_of_ble_eq_true rfl, Nat.le_of_ble_eq_true rfl⟩) (hc.preV hk1 rfl (by decide)) rfl rfl hl.1 rfl (lv_room (Nat.le_of_ble_eq_true rfl)) dL_dated_5 ⟨Nat.le_of_ble_eq_true rfl, Nat.le_of_ble_eq_true rfl⟩) hc (fun E9 ce10 a11 gx12 H locs hq hc hcell hcv hccl => ?_) (fun x2 g3 H locs hq hc => ?_)
  · replace h := hq
    refine vx_widen (k := 1) (n := 13) (Nat.le_of_ble_eq_true rfl) (Nat.le_of_ble_eq_true rfl) ?_
    rcases h with ⟨rfl, h⟩ | ⟨rfl, h⟩
    · refine vx_catch (name := "java/lang/IllegalArgumentException") hown [] ⟨0, 10, 13, 13⟩ [⟨0, 10, 17, 15⟩] (hxt.trans rfl) (fun z hz => nomatch hz) (by decide) (by decide) (hts _ (List.mem_cons_of_mem _ (List.mem_append_left _ (List.mem_append_left _ (List.mem_append_left _ (List.mem_append_left _ (List.mem_append_left _ (List.mem_append_left _ (List.mem_of_getElem? (i := 0) rfl))))))))) (va_Nw.use rfl (hc.1.2.1 (.castable "java/lang/IllegalArgumentException" "java/lang/IllegalArgumentException") (by decide +kernel))) hcell hcv hccl ?_
      refine lv_astore (lv' := [(4, .ref a11), (0, .ref p0), (1, .int p1), (2, .int p2), (3, .ref p3)]) hx hb dL_dated_13 hl (by decide) rfl (fun ls hl => ?_)
      refine lv_iconst (v := 1) hx hb dL_dated_15 (by decide) ?_
      exact g_reti (r := 1) CF hr hlk hc rfl h dL_dated_16
    · refine vx_catch (name := "java/lang/IllegalStateException") hown [⟨0, 10, 13, 13⟩] ⟨0, 10, 17, 15⟩ [] (hxt.trans rfl) (List.forall_mem_cons.mpr ⟨Or.inr ⟨by decide, "java/lang/IllegalArgumentException", hts _ (List.mem_cons_of_mem _ (List.mem_append_left _ (List.mem_append_left _ (List.mem_append_left _ (List.mem_append_left _ (List.mem_append_left _ (List.mem_append_left _ (List.mem_of_getElem? (i := 0) rfl)))))))), hc.1.2.2.2.2.2.2.2 ("java/lang/IllegalStateException", "java/lang/IllegalArgumentException") (by decide)⟩, fun _ hz => nomatch hz⟩) (by decide) (by decide) (hts _ (List.mem_cons_of_mem _ (List.mem_append_left _ (List.mem_append_left _ (List.mem_append_left _ (List.mem_append_left _ (List.mem_append_left _ (List.mem_append_left _ (List.mem_of_getElem? (i := 1) rfl))))))))) (va_Nw.use rfl (hc.1.2.1 (.castable "java/lang/IllegalStateException" "java/lang/IllegalStateException") (by decide +kernel))) hcell hcv hccl ?_
      refine lv_astore (lv' := [(4, .ref a11), (0, .ref p0), (1, .int p1), (2, .int p2), (3, .ref p3)]) hx hb dL_dated_17 hl (by decide) rfl (fun ls hl => ?_)
      refine lv_iconst (v := 2) hx hb dL_dated_19 (by decide) ?_
      exact g_reti (r := 2) CF hr hlk hc rfl h dL_dated_20
  · replace h := hq
    refine W.widen (k := 1) (n := 13) (Nat.le_of_ble_eq_true rfl) (Nat.le_of_ble_eq_true rfl) ?_
    refine lv_i2l hx hb dL_dated_8 rfl ?_
    obtain ⟨hk5, h⟩ := h
    obtain ⟨hi6, h⟩ := h
    refine g_last CF hc hk5 (x := x2.toInt64) hi6 dL_dated_9 (fun H locs hc => ?_)
    obtain ⟨g7, eg8⟩ : ∃ z, z = sW g3 p3 (Int32.toNatClampNeg 0) x2.toInt64 := ⟨_, rfl⟩
    have hc : gC D cA (gA g0 sz) s g7 H locs := by rw [eg8]; exact hc
    replace h := h g7 eg8
    refine lv_goto (tgt := 21) hx hb dL_dated_10 (by decide) ?_
    refine lv_iconst (v := 0) hx hb dL_dated_21 (by decide) ?_
    exact g_reti (r := 0) CF hr hlk hc rfl h dL_dated_22
def w_L_kind (g0 : gS) (p0 : Nat) (p1 : Int32) (p2 : Nat) (Q : Int32 → gS → Prop) : Prop :=
  gK g0 p0 = 11 ∧ (w_X10_kind g0 p0 p1 (fun x2 g3 => (gK g3 p2 = 23 ∧ (vp_in 0 (gN g3 p2) ∧ (∀ g7, g7 = sW g3 p2 (Int32.toNatClampNeg 0) x2.toInt64 → (Q 0 g7))))) (fun E gx12 => (E = "java/lang/IllegalArgumentException" ∧ (Q 1 gx12)) ∨ (E = "java/lang/IllegalStateException" ∧ (Q 2 gx12))))
abbrev r_L_kind : Room := { frames := 7, cells := 1, slots := 13, locals := 104 }
set_option maxHeartbeats 4000000 in
set_option maxRecDepth 100000 in
theorem c_L_kind {l : Launch} {D : va_G} {cA : Nat → ClassId} {sz : Nat} {g0 : gS} {p0 : Nat} {p1 : Int32} {p2 : Nat} {Q : Int32 → gS → Prop} (hflags : l.stackTraces = false) (h : w_L_kind g0 p0 p1 p2 Q) : Met l yL_kind wsL_kind r_L_kind (va_Pc [.ref p0, .int p1, .ref p2] (gPre D cA g0 sz)) (gQi D cA g0 sz (Q)) 1 13 (gA g0 sz) := by
  refine g_metH (cc := cL_kind) (maxL := 4) (ret := (some .int)) (hh := [(0, 9, 12, 13), (0, 9, 15, 15)]) (own := RL) (by decide) rfl rfl (Nat.le_of_ble_eq_true rfl) ?_
  intro p e s m args below meth c ls CF hr hlk hnm hxt hc hl
  obtain ⟨hx, hb, hml, hown, hts⟩ := id CF
  have hl : lv_has ls 4 [(0, .ref p0), (1, .int p1), (2, .ref p2)] := hl
  show W p l e r_L_kind s m args below meth c s.heap [] 0 0 (MQ below (gQi D cA g0 sz (Q)) args s 1 13 (gA g0 sz)) (F0 m 0 ls [])
  unfold w_L_kind at h
  obtain ⟨H, hH0⟩ : ∃ z, z = s.heap := ⟨_, rfl⟩
  rw [← hH0] at hc ⊢
  obtain ⟨locs, hlc0⟩ : ∃ z : List Loc, z = [] := ⟨_, rfl⟩
  rw [← hlc0] at hc ⊢
  refine lv_aload_n hx hb dL_kind_0 rfl (lv_at hl 2 rfl) ?_
  refine lv_iconst (v := 0) hx hb dL_kind_1 (by decide) ?_
  refine lv_aload_n hx hb dL_kind_2 rfl (lv_at hl 0 rfl) ?_
  refine lv_iload_n hx hb dL_kind_3 rfl (lv_at hl 1 rfl) ?_
  obtain ⟨hk1, h⟩ := h
  refine g_xcalli (vx_runV (As := [.int p1]) (rest := [.int 0, .ref p2]) CF (c_X10_kind hflags h) (cwV 1 hts gL_kind_X10_kind rfl rfl rfl (by decide +kernel) ⟨Nat.le_of_ble_eq_true rfl, Nat.le_of_ble_eq_true rfl⟩) (hc.preV hk1 rfl (by decide)) rfl rfl hl.1 rfl (lv_room (Nat.le_of_ble_eq_true rfl)) dL_kind_4 ⟨Nat.le_of_ble_eq_true rfl, Nat.le_of_ble_eq_true rfl⟩) hc (fun E9 ce10 a11 gx12 H locs hq hc hcell hcv hccl => ?_) (fun x2 g3 H locs hq hc => ?_)
  · replace h := hq
    refine vx_widen (k := 1) (n := 13) (Nat.le_of_ble_eq_true rfl) (Nat.le_of_ble_eq_true rfl) ?_
    rcases h with ⟨rfl, h⟩ | ⟨rfl, h⟩
    · refine vx_catch (name := "java/lang/IllegalArgumentException") hown [] ⟨0, 9, 12, 13⟩ [⟨0, 9, 15, 15⟩] (hxt.trans rfl) (fun z hz => nomatch hz) (by decide) (by decide) (hts _ (List.mem_cons_of_mem _ (List.mem_append_left _ (List.mem_append_left _ (List.mem_append_left _ (List.mem_append_left _ (List.mem_append_left _ (List.mem_append_left _ (List.mem_of_getElem? (i := 0) rfl))))))))) (va_Nw.use rfl (hc.1.2.1 (.castable "java/lang/IllegalArgumentException" "java/lang/IllegalArgumentException") (by decide +kernel))) hcell hcv hccl ?_
      refine lv_astore_n (lv' := [(3, .ref a11), (0, .ref p0), (1, .int p1), (2, .ref p2)]) hx hb dL_kind_12 rfl hl (by decide) rfl (fun ls hl => ?_)
      refine lv_iconst (v := 1) hx hb dL_kind_13 (by decide) ?_
      exact g_reti (r := 1) CF hr hlk hc rfl h dL_kind_14
    · refine vx_catch (name := "java/lang/IllegalStateException") hown [⟨0, 9, 12, 13⟩] ⟨0, 9, 15, 15⟩ [] (hxt.trans rfl) (List.forall_mem_cons.mpr ⟨Or.inr ⟨by decide, "java/lang/IllegalArgumentException", hts _ (List.mem_cons_of_mem _ (List.mem_append_left _ (List.mem_append_left _ (List.mem_append_left _ (List.mem_append_left _ (List.mem_append_left _ (List.mem_append_left _ (List.mem_of_getElem? (i := 0) rfl)))))))), hc.1.2.2.2.2.2.2.2 ("java/lang/IllegalStateException", "java/lang/IllegalArgumentException") (by decide)⟩, fun _ hz => nomatch hz⟩) (by decide) (by decide) (hts _ (List.mem_cons_of_mem _ (List.mem_append_left _ (List.mem_append_left _ (List.mem_append_left _ (List.mem_append_left _ (List.mem_append_left _ (List.mem_append_left _ (List.mem_of_getElem? (i := 1) rfl))))))))) (va_Nw.use rfl (hc.1.2.1 (.castable "java/lang/IllegalStateException" "java/lang/IllegalStateException") (by decide +kernel))) hcell hcv hccl ?_
      refine lv_astore_n (lv' := [(3, .ref a11), (0, .ref p0), (1, .int p1), (2, .ref p2)]) hx hb dL_kind_15 rfl hl (by decide) rfl (fun ls hl => ?_)
      refine lv_iconst (v := 2) hx hb dL_kind_16 (by decide) ?_
      exact g_reti (r := 2) CF hr hlk hc rfl h dL_kind_17
  · replace h := hq
    refine W.widen (k := 1) (n := 13) (Nat.le_of_ble_eq_true rfl) (Nat.le_of_ble_eq_true rfl) ?_
    refine lv_i2l hx hb dL_kind_7 rfl ?_
    obtain ⟨hk5, h⟩ := h
    obtain ⟨hi6, h⟩ := h
    refine g_last CF hc hk5 (x := x2.toInt64) hi6 dL_kind_8 (fun H locs hc => ?_)
    obtain ⟨g7, eg8⟩ : ∃ z, z = sW g3 p2 (Int32.toNatClampNeg 0) x2.toInt64 := ⟨_, rfl⟩
    have hc : gC D cA (gA g0 sz) s g7 H locs := by rw [eg8]; exact hc
    replace h := h g7 eg8
    refine lv_goto (tgt := 18) hx hb dL_kind_9 (by decide) ?_
    refine lv_iconst (v := 0) hx hb dL_kind_18 (by decide) ?_
    exact g_reti (r := 0) CF hr hlk hc rfl h dL_kind_19
def w_L_scaled (g0 : gS) (p0 : Nat) (p1 : Int32) (p2 : Int32) (p3 : Nat) (Q : Int32 → gS → Prop) : Prop :=
  gK g0 p0 = 11 ∧ (w_X10_scaled g0 p0 p1 p2 (fun x2 g3 => (gK g3 p3 = 23 ∧ (vp_in 0 (gN g3 p3) ∧ (∀ g7, g7 = sW g3 p3 (Int32.toNatClampNeg 0) x2.toInt64 → (Q 0 g7))))) (fun E gx12 => (E = "java/lang/IndexOutOfBoundsException" ∧ (Q 1 gx12)) ∨ (E = "java/lang/IllegalArgumentException" ∧ (Q 2 gx12)) ∨ (E = "java/lang/IllegalStateException" ∧ (Q 3 gx12))))
abbrev r_L_scaled : Room := { frames := 7, cells := 1, slots := 13, locals := 105 }
set_option maxHeartbeats 4000000 in
set_option maxRecDepth 100000 in
theorem c_L_scaled {l : Launch} {D : va_G} {cA : Nat → ClassId} {sz : Nat} {g0 : gS} {p0 : Nat} {p1 : Int32} {p2 : Int32} {p3 : Nat} {Q : Int32 → gS → Prop} (hflags : l.stackTraces = false) (h : w_L_scaled g0 p0 p1 p2 p3 Q) : Met l yL_scaled wsL_scaled r_L_scaled (va_Pc [.ref p0, .int p1, .int p2, .ref p3] (gPre D cA g0 sz)) (gQi D cA g0 sz (Q)) 1 13 (gA g0 sz) := by
  refine g_metH (cc := cL_scaled) (maxL := 5) (ret := (some .int)) (hh := [(0, 10, 13, 28), (0, 10, 17, 13), (0, 10, 21, 15)]) (own := RL) (by decide) rfl rfl (Nat.le_of_ble_eq_true rfl) ?_
  intro p e s m args below meth c ls CF hr hlk hnm hxt hc hl
  obtain ⟨hx, hb, hml, hown, hts⟩ := id CF
  have hl : lv_has ls 5 [(0, .ref p0), (1, .int p1), (2, .int p2), (3, .ref p3)] := hl
  show W p l e r_L_scaled s m args below meth c s.heap [] 0 0 (MQ below (gQi D cA g0 sz (Q)) args s 1 13 (gA g0 sz)) (F0 m 0 ls [])
  unfold w_L_scaled at h
  obtain ⟨H, hH0⟩ : ∃ z, z = s.heap := ⟨_, rfl⟩
  rw [← hH0] at hc ⊢
  obtain ⟨locs, hlc0⟩ : ∃ z : List Loc, z = [] := ⟨_, rfl⟩
  rw [← hlc0] at hc ⊢
  refine lv_aload_n hx hb dL_scaled_0 rfl (lv_at hl 3 rfl) ?_
  refine lv_iconst (v := 0) hx hb dL_scaled_1 (by decide) ?_
  refine lv_aload_n hx hb dL_scaled_2 rfl (lv_at hl 0 rfl) ?_
  refine lv_iload_n hx hb dL_scaled_3 rfl (lv_at hl 1 rfl) ?_
  refine lv_iload_n hx hb dL_scaled_4 rfl (lv_at hl 2 rfl) ?_
  obtain ⟨hk1, h⟩ := h
  refine g_xcalli (vx_runV (As := [.int p1, .int p2]) (rest := [.int 0, .ref p3]) CF (c_X10_scaled hflags h) (cwV 2 hts gL_scaled_X10_scaled rfl rfl rfl (by decide +kernel) ⟨Nat.le_of_ble_eq_true rfl, Nat.le_of_ble_eq_true rfl⟩) (hc.preV hk1 rfl (by decide)) rfl rfl hl.1 rfl (lv_room (Nat.le_of_ble_eq_true rfl)) dL_scaled_5 ⟨Nat.le_of_ble_eq_true rfl, Nat.le_of_ble_eq_true rfl⟩) hc (fun E9 ce10 a11 gx12 H locs hq hc hcell hcv hccl => ?_) (fun x2 g3 H locs hq hc => ?_)
  · replace h := hq
    refine vx_widen (k := 1) (n := 13) (Nat.le_of_ble_eq_true rfl) (Nat.le_of_ble_eq_true rfl) ?_
    rcases h with ⟨rfl, h⟩ | ⟨rfl, h⟩ | ⟨rfl, h⟩
    · refine vx_catch (name := "java/lang/IndexOutOfBoundsException") hown [] ⟨0, 10, 13, 28⟩ [⟨0, 10, 17, 13⟩, ⟨0, 10, 21, 15⟩] (hxt.trans rfl) (fun z hz => nomatch hz) (by decide) (by decide) (hts _ (List.mem_cons_of_mem _ (List.mem_append_left _ (List.mem_append_left _ (List.mem_append_left _ (List.mem_append_left _ (List.mem_append_left _ (List.mem_append_left _ (List.mem_append_left _ (List.mem_of_getElem? (i := 0) rfl)))))))))) (va_Nw.use rfl (hc.1.2.1 (.castable "java/lang/IndexOutOfBoundsException" "java/lang/IndexOutOfBoundsException") (by decide +kernel))) hcell hcv hccl ?_
      refine lv_astore (lv' := [(4, .ref a11), (0, .ref p0), (1, .int p1), (2, .int p2), (3, .ref p3)]) hx hb dL_scaled_13 hl (by decide) rfl (fun ls hl => ?_)
      refine lv_iconst (v := 1) hx hb dL_scaled_15 (by decide) ?_
      exact g_reti (r := 1) CF hr hlk hc rfl h dL_scaled_16
    · refine vx_catch (name := "java/lang/IllegalArgumentException") hown [⟨0, 10, 13, 28⟩] ⟨0, 10, 17, 13⟩ [⟨0, 10, 21, 15⟩] (hxt.trans rfl) (List.forall_mem_cons.mpr ⟨Or.inr ⟨by decide, "java/lang/IndexOutOfBoundsException", hts _ (List.mem_cons_of_mem _ (List.mem_append_left _ (List.mem_append_left _ (List.mem_append_left _ (List.mem_append_left _ (List.mem_append_left _ (List.mem_append_left _ (List.mem_append_left _ (List.mem_of_getElem? (i := 0) rfl))))))))), hc.1.2.2.2.2.2.2.2 ("java/lang/IllegalArgumentException", "java/lang/IndexOutOfBoundsException") (by decide)⟩, fun _ hz => nomatch hz⟩) (by decide) (by decide) (hts _ (List.mem_cons_of_mem _ (List.mem_append_left _ (List.mem_append_left _ (List.mem_append_left _ (List.mem_append_left _ (List.mem_append_left _ (List.mem_append_left _ (List.mem_append_left _ (List.mem_of_getElem? (i := 1) rfl)))))))))) (va_Nw.use rfl (hc.1.2.1 (.castable "java/lang/IllegalArgumentException" "java/lang/IllegalArgumentException") (by decide +kernel))) hcell hcv hccl ?_
      refine lv_astore (lv' := [(4, .ref a11), (0, .ref p0), (1, .int p1), (2, .int p2), (3, .ref p3)]) hx hb dL_scaled_17 hl (by decide) rfl (fun ls hl => ?_)
      refine lv_iconst (v := 2) hx hb dL_scaled_19 (by decide) ?_
      exact g_reti (r := 2) CF hr hlk hc rfl h dL_scaled_20
    · refine vx_catch (name := "java/lang/IllegalStateException") hown [⟨0, 10, 13, 28⟩, ⟨0, 10, 17, 13⟩] ⟨0, 10, 21, 15⟩ [] (hxt.trans rfl) (List.forall_mem_cons.mpr ⟨Or.inr ⟨by decide, "java/lang/IndexOutOfBoundsException", hts _ (List.mem_cons_of_mem _ (List.mem_append_left _ (List.mem_append_left _ (List.mem_append_left _ (List.mem_append_left _ (List.mem_append_left _ (List.mem_append_left _ (List.mem_append_left _ (List.mem_of_getElem? (i := 0) rfl))))))))), hc.1.2.2.2.2.2.2.2 ("java/lang/IllegalStateException", "java/lang/IndexOutOfBoundsException") (by decide)⟩, List.forall_mem_cons.mpr ⟨Or.inr ⟨by decide, "java/lang/IllegalArgumentException", hts _ (List.mem_cons_of_mem _ (List.mem_append_left _ (List.mem_append_left _ (List.mem_append_left _ (List.mem_append_left _ (List.mem_append_left _ (List.mem_append_left _ (List.mem_append_left _ (List.mem_of_getElem? (i := 1) rfl))))))))), hc.1.2.2.2.2.2.2.2 ("java/lang/IllegalStateException", "java/lang/IllegalArgumentException") (by decide)⟩, fun _ hz => nomatch hz⟩⟩) (by decide) (by decide) (hts _ (List.mem_cons_of_mem _ (List.mem_append_left _ (List.mem_append_left _ (List.mem_append_left _ (List.mem_append_left _ (List.mem_append_left _ (List.mem_append_left _ (List.mem_append_left _ (List.mem_of_getElem? (i := 2) rfl)))))))))) (va_Nw.use rfl (hc.1.2.1 (.castable "java/lang/IllegalStateException" "java/lang/IllegalStateException") (by decide +kernel))) hcell hcv hccl ?_
      refine lv_astore (lv' := [(4, .ref a11), (0, .ref p0), (1, .int p1), (2, .int p2), (3, .ref p3)]) hx hb dL_scaled_21 hl (by decide) rfl (fun ls hl => ?_)
      refine lv_iconst (v := 3) hx hb dL_scaled_23 (by decide) ?_
      exact g_reti (r := 3) CF hr hlk hc rfl h dL_scaled_24
  · replace h := hq
    refine W.widen (k := 1) (n := 13) (Nat.le_of_ble_eq_true rfl) (Nat.le_of_ble_eq_true rfl) ?_
    refine lv_i2l hx hb dL_scaled_8 rfl ?_
    obtain ⟨hk5, h⟩ := h
    obtain ⟨hi6, h⟩ := h
    refine g_last CF hc hk5 (x := x2.toInt64) hi6 dL_scaled_9 (fun H locs hc => ?_)
    obtain ⟨g7, eg8⟩ : ∃ z, z = sW g3 p3 (Int32.toNatClampNeg 0) x2.toInt64 := ⟨_, rfl⟩
    have hc : gC D cA (gA g0 sz) s g7 H locs := by rw [eg8]; exact hc
    replace h := h g7 eg8
    refine lv_goto (tgt := 25) hx hb dL_scaled_10 (by decide) ?_
    refine lv_iconst (v := 0) hx hb dL_scaled_25 (by decide) ?_
    exact g_reti (r := 0) CF hr hlk hc rfl h dL_scaled_26
def w_L_most (g0 : gS) (p0 : Nat) (p1 : Int32) (p2 : Int32) (p3 : Int32) (p4 : Nat) (Q : Int32 → gS → Prop) : Prop :=
  gK g0 p0 = 11 ∧ (w_X10_most g0 p0 p1 p2 p3 (fun x2 g3 => (gK g3 p4 = 23 ∧ (vp_in 0 (gN g3 p4) ∧ (∀ g7, g7 = sW g3 p4 (Int32.toNatClampNeg 0) x2.toInt64 → (Q 0 g7))))) (fun E gx12 => (E = "java/lang/IndexOutOfBoundsException" ∧ (Q 1 gx12)) ∨ (E = "java/lang/IllegalArgumentException" ∧ (Q 2 gx12)) ∨ (E = "java/lang/IllegalStateException" ∧ (Q 3 gx12))))
abbrev r_L_most : Room := { frames := 7, cells := 1, slots := 13, locals := 106 }
set_option maxHeartbeats 4000000 in
set_option maxRecDepth 100000 in
theorem c_L_most {l : Launch} {D : va_G} {cA : Nat → ClassId} {sz : Nat} {g0 : gS} {p0 : Nat} {p1 : Int32} {p2 : Int32} {p3 : Int32} {p4 : Nat} {Q : Int32 → gS → Prop} (hflags : l.stackTraces = false) (h : w_L_most g0 p0 p1 p2 p3 p4 Q) : Met l yL_most wsL_most r_L_most (va_Pc [.ref p0, .int p1, .int p2, .int p3, .ref p4] (gPre D cA g0 sz)) (gQi D cA g0 sz (Q)) 1 13 (gA g0 sz) := by
  refine g_metH (cc := cL_most) (maxL := 6) (ret := (some .int)) (hh := [(0, 12, 15, 28), (0, 12, 19, 13), (0, 12, 23, 15)]) (own := RL) (by decide) rfl rfl (Nat.le_of_ble_eq_true rfl) ?_
  intro p e s m args below meth c ls CF hr hlk hnm hxt hc hl
  obtain ⟨hx, hb, hml, hown, hts⟩ := id CF
  have hl : lv_has ls 6 [(0, .ref p0), (1, .int p1), (2, .int p2), (3, .int p3), (4, .ref p4)] := hl
  show W p l e r_L_most s m args below meth c s.heap [] 0 0 (MQ below (gQi D cA g0 sz (Q)) args s 1 13 (gA g0 sz)) (F0 m 0 ls [])
  unfold w_L_most at h
  obtain ⟨H, hH0⟩ : ∃ z, z = s.heap := ⟨_, rfl⟩
  rw [← hH0] at hc ⊢
  obtain ⟨locs, hlc0⟩ : ∃ z : List Loc, z = [] := ⟨_, rfl⟩
  rw [← hlc0] at hc ⊢
  refine lv_aload hx hb dL_most_0 (lv_at hl 4 rfl) ?_
  refine lv_iconst (v := 0) hx hb dL_most_2 (by decide) ?_
  refine lv_aload_n hx hb dL_most_3 rfl (lv_at hl 0 rfl) ?_
  refine lv_iload_n hx hb dL_most_4 rfl (lv_at hl 1 rfl) ?_
  refine lv_iload_n hx hb dL_most_5 rfl (lv_at hl 2 rfl) ?_
  refine lv_iload_n hx hb dL_most_6 rfl (lv_at hl 3 rfl) ?_
  obtain ⟨hk1, h⟩ := h
  refine g_xcalli (vx_runV (As := [.int p1, .int p2, .int p3]) (rest := [.int 0, .ref p4]) CF (c_X10_most hflags h) (cwV 3 hts gL_most_X10_most rfl rfl rfl (by decide +kernel) ⟨Nat.le_of_ble_eq_true rfl, Nat.le_of_ble_eq_true rfl⟩) (hc.preV hk1 rfl (by decide)) rfl rfl hl.1 rfl (lv_room (Nat.le_of_ble_eq_true rfl)) dL_most_7 ⟨Nat.le_of_ble_eq_true rfl, Nat.le_of_ble_eq_true rfl⟩) hc (fun E9 ce10 a11 gx12 H locs hq hc hcell hcv hccl => ?_) (fun x2 g3 H locs hq hc => ?_)
  · replace h := hq
    refine vx_widen (k := 1) (n := 13) (Nat.le_of_ble_eq_true rfl) (Nat.le_of_ble_eq_true rfl) ?_
    rcases h with ⟨rfl, h⟩ | ⟨rfl, h⟩ | ⟨rfl, h⟩
    · refine vx_catch (name := "java/lang/IndexOutOfBoundsException") hown [] ⟨0, 12, 15, 28⟩ [⟨0, 12, 19, 13⟩, ⟨0, 12, 23, 15⟩] (hxt.trans rfl) (fun z hz => nomatch hz) (by decide) (by decide) (hts _ (List.mem_cons_of_mem _ (List.mem_append_left _ (List.mem_append_left _ (List.mem_append_left _ (List.mem_append_left _ (List.mem_append_left _ (List.mem_append_left _ (List.mem_append_left _ (List.mem_of_getElem? (i := 0) rfl)))))))))) (va_Nw.use rfl (hc.1.2.1 (.castable "java/lang/IndexOutOfBoundsException" "java/lang/IndexOutOfBoundsException") (by decide +kernel))) hcell hcv hccl ?_
      refine lv_astore (lv' := [(5, .ref a11), (0, .ref p0), (1, .int p1), (2, .int p2), (3, .int p3), (4, .ref p4)]) hx hb dL_most_15 hl (by decide) rfl (fun ls hl => ?_)
      refine lv_iconst (v := 1) hx hb dL_most_17 (by decide) ?_
      exact g_reti (r := 1) CF hr hlk hc rfl h dL_most_18
    · refine vx_catch (name := "java/lang/IllegalArgumentException") hown [⟨0, 12, 15, 28⟩] ⟨0, 12, 19, 13⟩ [⟨0, 12, 23, 15⟩] (hxt.trans rfl) (List.forall_mem_cons.mpr ⟨Or.inr ⟨by decide, "java/lang/IndexOutOfBoundsException", hts _ (List.mem_cons_of_mem _ (List.mem_append_left _ (List.mem_append_left _ (List.mem_append_left _ (List.mem_append_left _ (List.mem_append_left _ (List.mem_append_left _ (List.mem_append_left _ (List.mem_of_getElem? (i := 0) rfl))))))))), hc.1.2.2.2.2.2.2.2 ("java/lang/IllegalArgumentException", "java/lang/IndexOutOfBoundsException") (by decide)⟩, fun _ hz => nomatch hz⟩) (by decide) (by decide) (hts _ (List.mem_cons_of_mem _ (List.mem_append_left _ (List.mem_append_left _ (List.mem_append_left _ (List.mem_append_left _ (List.mem_append_left _ (List.mem_append_left _ (List.mem_append_left _ (List.mem_of_getElem? (i := 1) rfl)))))))))) (va_Nw.use rfl (hc.1.2.1 (.castable "java/lang/IllegalArgumentException" "java/lang/IllegalArgumentException") (by decide +kernel))) hcell hcv hccl ?_
      refine lv_astore (lv' := [(5, .ref a11), (0, .ref p0), (1, .int p1), (2, .int p2), (3, .int p3), (4, .ref p4)]) hx hb dL_most_19 hl (by decide) rfl (fun ls hl => ?_)
      refine lv_iconst (v := 2) hx hb dL_most_21 (by decide) ?_
      exact g_reti (r := 2) CF hr hlk hc rfl h dL_most_22
    · refine vx_catch (name := "java/lang/IllegalStateException") hown [⟨0, 12, 15, 28⟩, ⟨0, 12, 19, 13⟩] ⟨0, 12, 23, 15⟩ [] (hxt.trans rfl) (List.forall_mem_cons.mpr ⟨Or.inr ⟨by decide, "java/lang/IndexOutOfBoundsException", hts _ (List.mem_cons_of_mem _ (List.mem_append_left _ (List.mem_append_left _ (List.mem_append_left _ (List.mem_append_left _ (List.mem_append_left _ (List.mem_append_left _ (List.mem_append_left _ (List.mem_of_getElem? (i := 0) rfl))))))))), hc.1.2.2.2.2.2.2.2 ("java/lang/IllegalStateException", "java/lang/IndexOutOfBoundsException") (by decide)⟩, List.forall_mem_cons.mpr ⟨Or.inr ⟨by decide, "java/lang/IllegalArgumentException", hts _ (List.mem_cons_of_mem _ (List.mem_append_left _ (List.mem_append_left _ (List.mem_append_left _ (List.mem_append_left _ (List.mem_append_left _ (List.mem_append_left _ (List.mem_append_left _ (List.mem_of_getElem? (i := 1) rfl))))))))), hc.1.2.2.2.2.2.2.2 ("java/lang/IllegalStateException", "java/lang/IllegalArgumentException") (by decide)⟩, fun _ hz => nomatch hz⟩⟩) (by decide) (by decide) (hts _ (List.mem_cons_of_mem _ (List.mem_append_left _ (List.mem_append_left _ (List.mem_append_left _ (List.mem_append_left _ (List.mem_append_left _ (List.mem_append_left _ (List.mem_append_left _ (List.mem_of_getElem? (i := 2) rfl)))))))))) (va_Nw.use rfl (hc.1.2.1 (.castable "java/lang/IllegalStateException" "java/lang/IllegalStateException") (by decide +kernel))) hcell hcv hccl ?_
      refine lv_astore (lv' := [(5, .ref a11), (0, .ref p0), (1, .int p1), (2, .int p2), (3, .int p3), (4, .ref p4)]) hx hb dL_most_23 hl (by decide) rfl (fun ls hl => ?_)
      refine lv_iconst (v := 3) hx hb dL_most_25 (by decide) ?_
      exact g_reti (r := 3) CF hr hlk hc rfl h dL_most_26
  · replace h := hq
    refine W.widen (k := 1) (n := 13) (Nat.le_of_ble_eq_true rfl) (Nat.le_of_ble_eq_true rfl) ?_
    refine lv_i2l hx hb dL_most_10 rfl ?_
    obtain ⟨hk5, h⟩ := h
    obtain ⟨hi6, h⟩ := h
    refine g_last CF hc hk5 (x := x2.toInt64) hi6 dL_most_11 (fun H locs hc => ?_)
    obtain ⟨g7, eg8⟩ : ∃ z, z = sW g3 p4 (Int32.toNatClampNeg 0) x2.toInt64 := ⟨_, rfl⟩
    have hc : gC D cA (gA g0 sz) s g7 H locs := by rw [eg8]; exact hc
    replace h := h g7 eg8
    refine lv_goto (tgt := 27) hx hb dL_most_12 (by decide) ?_
    refine lv_iconst (v := 0) hx hb dL_most_27 (by decide) ?_
    exact g_reti (r := 0) CF hr hlk hc rfl h dL_most_28
def w_L_score (g0 : gS) (p0 : Nat) (p1 : Int32) (p2 : Int32) (p3 : Nat) (Q : Int32 → gS → Prop) : Prop :=
  gK g0 p0 = 11 ∧ (w_X10_score g0 p0 p1 p2 (fun x2 g3 => (gK g3 p3 = 23 ∧ (vp_in 0 (gN g3 p3) ∧ (∀ g7, g7 = sW g3 p3 (Int32.toNatClampNeg 0) x2.toInt64 → (Q 0 g7))))) (fun E gx12 => (E = "java/lang/IndexOutOfBoundsException" ∧ (Q 1 gx12))))
abbrev r_L_score : Room := { frames := 7, cells := 1, slots := 6, locals := 150 }
set_option maxHeartbeats 4000000 in
set_option maxRecDepth 100000 in
theorem c_L_score {l : Launch} {D : va_G} {cA : Nat → ClassId} {sz : Nat} {g0 : gS} {p0 : Nat} {p1 : Int32} {p2 : Int32} {p3 : Nat} {Q : Int32 → gS → Prop} (hflags : l.stackTraces = false) (h : w_L_score g0 p0 p1 p2 p3 Q) : Met l yL_score wsL_score r_L_score (va_Pc [.ref p0, .int p1, .int p2, .ref p3] (gPre D cA g0 sz)) (gQi D cA g0 sz (Q)) 1 6 (gA g0 sz) := by
  refine g_metH (cc := cL_score) (maxL := 5) (ret := (some .int)) (hh := [(0, 10, 13, 28)]) (own := RL) (by decide) rfl rfl (Nat.le_of_ble_eq_true rfl) ?_
  intro p e s m args below meth c ls CF hr hlk hnm hxt hc hl
  obtain ⟨hx, hb, hml, hown, hts⟩ := id CF
  have hl : lv_has ls 5 [(0, .ref p0), (1, .int p1), (2, .int p2), (3, .ref p3)] := hl
  show W p l e r_L_score s m args below meth c s.heap [] 0 0 (MQ below (gQi D cA g0 sz (Q)) args s 1 6 (gA g0 sz)) (F0 m 0 ls [])
  unfold w_L_score at h
  obtain ⟨H, hH0⟩ : ∃ z, z = s.heap := ⟨_, rfl⟩
  rw [← hH0] at hc ⊢
  obtain ⟨locs, hlc0⟩ : ∃ z : List Loc, z = [] := ⟨_, rfl⟩
  rw [← hlc0] at hc ⊢
  refine lv_aload_n hx hb dL_score_0 rfl (lv_at hl 3 rfl) ?_
  refine lv_iconst (v := 0) hx hb dL_score_1 (by decide) ?_
  refine lv_aload_n hx hb dL_score_2 rfl (lv_at hl 0 rfl) ?_
  refine lv_iload_n hx hb dL_score_3 rfl (lv_at hl 1 rfl) ?_
  refine lv_iload_n hx hb dL_score_4 rfl (lv_at hl 2 rfl) ?_
  obtain ⟨hk1, h⟩ := h
  refine g_xcalli (vx_runV (As := [.int p1, .int p2]) (rest := [.int 0, .ref p3]) CF (c_X10_score hflags h) (cwV 2 hts gL_score_X10_score rfl rfl rfl (by decide +kernel) ⟨Nat.le_of_ble_eq_true rfl, Nat.le_of_ble_eq_true rfl⟩) (hc.preV hk1 rfl (by decide)) rfl rfl hl.1 rfl (lv_room (Nat.le_of_ble_eq_true rfl)) dL_score_5 ⟨Nat.le_of_ble_eq_true rfl, Nat.le_of_ble_eq_true rfl⟩) hc (fun E9 ce10 a11 gx12 H locs hq hc hcell hcv hccl => ?_) (fun x2 g3 H locs hq hc => ?_)
  · replace h := hq
    refine vx_widen (k := 1) (n := 6) (Nat.le_of_ble_eq_true rfl) (Nat.le_of_ble_eq_true rfl) ?_
    rcases h with ⟨rfl, h⟩
    · refine vx_catch (name := "java/lang/IndexOutOfBoundsException") hown [] ⟨0, 10, 13, 28⟩ [] (hxt.trans rfl) (fun z hz => nomatch hz) (by decide) (by decide) (hts _ (List.mem_cons_of_mem _ (List.mem_append_left _ (List.mem_append_left _ (List.mem_append_left _ (List.mem_append_left _ (List.mem_append_left _ (List.mem_append_left _ (List.mem_append_left _ (List.mem_append_left _ (List.mem_append_left _ (List.mem_append_left _ (List.mem_append_left _ (List.mem_of_getElem? (i := 0) rfl)))))))))))))) (va_Nw.use rfl (hc.1.2.1 (.castable "java/lang/IndexOutOfBoundsException" "java/lang/IndexOutOfBoundsException") (by decide +kernel))) hcell hcv hccl ?_
      refine lv_astore (lv' := [(4, .ref a11), (0, .ref p0), (1, .int p1), (2, .int p2), (3, .ref p3)]) hx hb dL_score_13 hl (by decide) rfl (fun ls hl => ?_)
      refine lv_iconst (v := 1) hx hb dL_score_15 (by decide) ?_
      exact g_reti (r := 1) CF hr hlk hc rfl h dL_score_16
  · replace h := hq
    refine W.widen (k := 1) (n := 6) (Nat.le_of_ble_eq_true rfl) (Nat.le_of_ble_eq_true rfl) ?_
    refine lv_i2l hx hb dL_score_8 rfl ?_
    obtain ⟨hk5, h⟩ := h
    obtain ⟨hi6, h⟩ := h
    refine g_last CF hc hk5 (x := x2.toInt64) hi6 dL_score_9 (fun H locs hc => ?_)
    obtain ⟨g7, eg8⟩ : ∃ z, z = sW g3 p3 (Int32.toNatClampNeg 0) x2.toInt64 := ⟨_, rfl⟩
    have hc : gC D cA (gA g0 sz) s g7 H locs := by rw [eg8]; exact hc
    replace h := h g7 eg8
    refine lv_goto (tgt := 17) hx hb dL_score_10 (by decide) ?_
    refine lv_iconst (v := 0) hx hb dL_score_17 (by decide) ?_
    exact g_reti (r := 0) CF hr hlk hc rfl h dL_score_18
def w_L_found (g0 : gS) (p0 : Nat) (p1 : Int32) (p2 : Nat) (Q : Int32 → gS → Prop) : Prop :=
  gK g0 p0 = 11 ∧ (w_X10_found g0 p0 p1 (fun x2 g3 => (gK g3 p2 = 23 ∧ (vp_in 0 (gN g3 p2) ∧ (∀ g7, g7 = sW g3 p2 (Int32.toNatClampNeg 0) x2.toInt64 → (Q 0 g7))))) (fun E gx12 => (E = "java/lang/IndexOutOfBoundsException" ∧ (Q 1 gx12))))
abbrev r_L_found : Room := { frames := 7, cells := 1, slots := 6, locals := 173 }
set_option maxHeartbeats 4000000 in
set_option maxRecDepth 100000 in
theorem c_L_found {l : Launch} {D : va_G} {cA : Nat → ClassId} {sz : Nat} {g0 : gS} {p0 : Nat} {p1 : Int32} {p2 : Nat} {Q : Int32 → gS → Prop} (hflags : l.stackTraces = false) (h : w_L_found g0 p0 p1 p2 Q) : Met l yL_found wsL_found r_L_found (va_Pc [.ref p0, .int p1, .ref p2] (gPre D cA g0 sz)) (gQi D cA g0 sz (Q)) 1 6 (gA g0 sz) := by
  refine g_metH (cc := cL_found) (maxL := 4) (ret := (some .int)) (hh := [(0, 9, 12, 28)]) (own := RL) (by decide) rfl rfl (Nat.le_of_ble_eq_true rfl) ?_
  intro p e s m args below meth c ls CF hr hlk hnm hxt hc hl
  obtain ⟨hx, hb, hml, hown, hts⟩ := id CF
  have hl : lv_has ls 4 [(0, .ref p0), (1, .int p1), (2, .ref p2)] := hl
  show W p l e r_L_found s m args below meth c s.heap [] 0 0 (MQ below (gQi D cA g0 sz (Q)) args s 1 6 (gA g0 sz)) (F0 m 0 ls [])
  unfold w_L_found at h
  obtain ⟨H, hH0⟩ : ∃ z, z = s.heap := ⟨_, rfl⟩
  rw [← hH0] at hc ⊢
  obtain ⟨locs, hlc0⟩ : ∃ z : List Loc, z = [] := ⟨_, rfl⟩
  rw [← hlc0] at hc ⊢
  refine lv_aload_n hx hb dL_found_0 rfl (lv_at hl 2 rfl) ?_
  refine lv_iconst (v := 0) hx hb dL_found_1 (by decide) ?_
  refine lv_aload_n hx hb dL_found_2 rfl (lv_at hl 0 rfl) ?_
  refine lv_iload_n hx hb dL_found_3 rfl (lv_at hl 1 rfl) ?_
  obtain ⟨hk1, h⟩ := h
  refine g_xcalli (vx_runV (As := [.int p1]) (rest := [.int 0, .ref p2]) CF (c_X10_found hflags h) (cwV 1 hts gL_found_X10_found rfl rfl rfl (by decide +kernel) ⟨Nat.le_of_ble_eq_true rfl, Nat.le_of_ble_eq_true rfl⟩) (hc.preV hk1 rfl (by decide)) rfl rfl hl.1 rfl (lv_room (Nat.le_of_ble_eq_true rfl)) dL_found_4 ⟨Nat.le_of_ble_eq_true rfl, Nat.le_of_ble_eq_true rfl⟩) hc (fun E9 ce10 a11 gx12 H locs hq hc hcell hcv hccl => ?_) (fun x2 g3 H locs hq hc => ?_)
  · replace h := hq
    refine vx_widen (k := 1) (n := 6) (Nat.le_of_ble_eq_true rfl) (Nat.le_of_ble_eq_true rfl) ?_
    rcases h with ⟨rfl, h⟩
    · refine vx_catch (name := "java/lang/IndexOutOfBoundsException") hown [] ⟨0, 9, 12, 28⟩ [] (hxt.trans rfl) (fun z hz => nomatch hz) (by decide) (by decide) (hts _ (List.mem_cons_of_mem _ (List.mem_append_left _ (List.mem_append_left _ (List.mem_append_left _ (List.mem_append_left _ (List.mem_append_left _ (List.mem_append_left _ (List.mem_append_left _ (List.mem_append_left _ (List.mem_append_left _ (List.mem_append_left _ (List.mem_append_left _ (List.mem_of_getElem? (i := 0) rfl)))))))))))))) (va_Nw.use rfl (hc.1.2.1 (.castable "java/lang/IndexOutOfBoundsException" "java/lang/IndexOutOfBoundsException") (by decide +kernel))) hcell hcv hccl ?_
      refine lv_astore_n (lv' := [(3, .ref a11), (0, .ref p0), (1, .int p1), (2, .ref p2)]) hx hb dL_found_12 rfl hl (by decide) rfl (fun ls hl => ?_)
      refine lv_iconst (v := 1) hx hb dL_found_13 (by decide) ?_
      exact g_reti (r := 1) CF hr hlk hc rfl h dL_found_14
  · replace h := hq
    refine W.widen (k := 1) (n := 6) (Nat.le_of_ble_eq_true rfl) (Nat.le_of_ble_eq_true rfl) ?_
    refine lv_i2l hx hb dL_found_7 rfl ?_
    obtain ⟨hk5, h⟩ := h
    obtain ⟨hi6, h⟩ := h
    refine g_last CF hc hk5 (x := x2.toInt64) hi6 dL_found_8 (fun H locs hc => ?_)
    obtain ⟨g7, eg8⟩ : ∃ z, z = sW g3 p2 (Int32.toNatClampNeg 0) x2.toInt64 := ⟨_, rfl⟩
    have hc : gC D cA (gA g0 sz) s g7 H locs := by rw [eg8]; exact hc
    replace h := h g7 eg8
    refine lv_goto (tgt := 15) hx hb dL_found_9 (by decide) ?_
    refine lv_iconst (v := 0) hx hb dL_found_15 (by decide) ?_
    exact g_reti (r := 0) CF hr hlk hc rfl h dL_found_16
def w_L_search (g0 : gS) (p0 : Nat) (p1 : Int32) (p2 : Nat) (Q : Int32 → gS → Prop) : Prop :=
  gK g0 p0 = 11 ∧ (w_X10_search g0 p0 p1 (fun x2 g3 => (gK g3 p2 = 23 ∧ (vp_in 0 (gN g3 p2) ∧ (∀ g7, g7 = sW g3 p2 (Int32.toNatClampNeg 0) x2.toInt64 → (Q 0 g7))))) (fun E gx12 => (E = "java/lang/IndexOutOfBoundsException" ∧ (Q 1 gx12))))
abbrev r_L_search : Room := { frames := 7, cells := 1, slots := 6, locals := 173 }
set_option maxHeartbeats 4000000 in
set_option maxRecDepth 100000 in
theorem c_L_search {l : Launch} {D : va_G} {cA : Nat → ClassId} {sz : Nat} {g0 : gS} {p0 : Nat} {p1 : Int32} {p2 : Nat} {Q : Int32 → gS → Prop} (hflags : l.stackTraces = false) (h : w_L_search g0 p0 p1 p2 Q) : Met l yL_search wsL_search r_L_search (va_Pc [.ref p0, .int p1, .ref p2] (gPre D cA g0 sz)) (gQi D cA g0 sz (Q)) 1 6 (gA g0 sz) := by
  refine g_metH (cc := cL_search) (maxL := 4) (ret := (some .int)) (hh := [(0, 9, 12, 28)]) (own := RL) (by decide) rfl rfl (Nat.le_of_ble_eq_true rfl) ?_
  intro p e s m args below meth c ls CF hr hlk hnm hxt hc hl
  obtain ⟨hx, hb, hml, hown, hts⟩ := id CF
  have hl : lv_has ls 4 [(0, .ref p0), (1, .int p1), (2, .ref p2)] := hl
  show W p l e r_L_search s m args below meth c s.heap [] 0 0 (MQ below (gQi D cA g0 sz (Q)) args s 1 6 (gA g0 sz)) (F0 m 0 ls [])
  unfold w_L_search at h
  obtain ⟨H, hH0⟩ : ∃ z, z = s.heap := ⟨_, rfl⟩
  rw [← hH0] at hc ⊢
  obtain ⟨locs, hlc0⟩ : ∃ z : List Loc, z = [] := ⟨_, rfl⟩
  rw [← hlc0] at hc ⊢
  refine lv_aload_n hx hb dL_search_0 rfl (lv_at hl 2 rfl) ?_
  refine lv_iconst (v := 0) hx hb dL_search_1 (by decide) ?_
  refine lv_aload_n hx hb dL_search_2 rfl (lv_at hl 0 rfl) ?_
  refine lv_iload_n hx hb dL_search_3 rfl (lv_at hl 1 rfl) ?_
  obtain ⟨hk1, h⟩ := h
  refine g_xcalli (vx_runV (As := [.int p1]) (rest := [.int 0, .ref p2]) CF (c_X10_search hflags h) (cwV 1 hts gL_search_X10_search rfl rfl rfl (by decide +kernel) ⟨Nat.le_of_ble_eq_true rfl, Nat.le_of_ble_eq_true rfl⟩) (hc.preV hk1 rfl (by decide)) rfl rfl hl.1 rfl (lv_room (Nat.le_of_ble_eq_true rfl)) dL_search_4 ⟨Nat.le_of_ble_eq_true rfl, Nat.le_of_ble_eq_true rfl⟩) hc (fun E9 ce10 a11 gx12 H locs hq hc hcell hcv hccl => ?_) (fun x2 g3 H locs hq hc => ?_)
  · replace h := hq
    refine vx_widen (k := 1) (n := 6) (Nat.le_of_ble_eq_true rfl) (Nat.le_of_ble_eq_true rfl) ?_
    rcases h with ⟨rfl, h⟩
    · refine vx_catch (name := "java/lang/IndexOutOfBoundsException") hown [] ⟨0, 9, 12, 28⟩ [] (hxt.trans rfl) (fun z hz => nomatch hz) (by decide) (by decide) (hts _ (List.mem_cons_of_mem _ (List.mem_append_left _ (List.mem_append_left _ (List.mem_append_left _ (List.mem_append_left _ (List.mem_append_left _ (List.mem_append_left _ (List.mem_append_left _ (List.mem_append_left _ (List.mem_append_left _ (List.mem_append_left _ (List.mem_append_left _ (List.mem_append_left _ (List.mem_of_getElem? (i := 0) rfl))))))))))))))) (va_Nw.use rfl (hc.1.2.1 (.castable "java/lang/IndexOutOfBoundsException" "java/lang/IndexOutOfBoundsException") (by decide +kernel))) hcell hcv hccl ?_
      refine lv_astore_n (lv' := [(3, .ref a11), (0, .ref p0), (1, .int p1), (2, .ref p2)]) hx hb dL_search_12 rfl hl (by decide) rfl (fun ls hl => ?_)
      refine lv_iconst (v := 1) hx hb dL_search_13 (by decide) ?_
      exact g_reti (r := 1) CF hr hlk hc rfl h dL_search_14
  · replace h := hq
    refine W.widen (k := 1) (n := 6) (Nat.le_of_ble_eq_true rfl) (Nat.le_of_ble_eq_true rfl) ?_
    refine lv_i2l hx hb dL_search_7 rfl ?_
    obtain ⟨hk5, h⟩ := h
    obtain ⟨hi6, h⟩ := h
    refine g_last CF hc hk5 (x := x2.toInt64) hi6 dL_search_8 (fun H locs hc => ?_)
    obtain ⟨g7, eg8⟩ : ∃ z, z = sW g3 p2 (Int32.toNatClampNeg 0) x2.toInt64 := ⟨_, rfl⟩
    have hc : gC D cA (gA g0 sz) s g7 H locs := by rw [eg8]; exact hc
    replace h := h g7 eg8
    refine lv_goto (tgt := 15) hx hb dL_search_9 (by decide) ?_
    refine lv_iconst (v := 0) hx hb dL_search_15 (by decide) ?_
    exact g_reti (r := 0) CF hr hlk hc rfl h dL_search_16
def w_L_resultAt (g0 : gS) (p0 : Nat) (p1 : Int32) (p2 : Nat) (Q : Int32 → gS → Prop) : Prop :=
  gK g0 p0 = 11 ∧ (w_X10_resultAt g0 p0 p1 (fun x2 => (gK g0 p2 = 23 ∧ (vp_in 0 (gN g0 p2) ∧ (∀ g6, g6 = sW g0 p2 (Int32.toNatClampNeg 0) x2.toInt64 → (Q 0 g6))))) (fun E => (E = "java/lang/IndexOutOfBoundsException" ∧ (Q 1 g0))))
abbrev r_L_resultAt : Room := { frames := 7, cells := 1, slots := 6, locals := 103 }
set_option maxHeartbeats 4000000 in
set_option maxRecDepth 100000 in
theorem c_L_resultAt {l : Launch} {D : va_G} {cA : Nat → ClassId} {sz : Nat} {g0 : gS} {p0 : Nat} {p1 : Int32} {p2 : Nat} {Q : Int32 → gS → Prop} (hflags : l.stackTraces = false) (h : w_L_resultAt g0 p0 p1 p2 Q) : Met l yL_resultAt wsL_resultAt r_L_resultAt (va_Pc [.ref p0, .int p1, .ref p2] (gPre D cA g0 sz)) (gQi D cA g0 sz (Q)) 1 6 (gA g0 sz) := by
  refine g_metH (cc := cL_resultAt) (maxL := 4) (ret := (some .int)) (hh := [(0, 9, 12, 28)]) (own := RL) (by decide) rfl rfl (Nat.le_of_ble_eq_true rfl) ?_
  intro p e s m args below meth c ls CF hr hlk hnm hxt hc hl
  obtain ⟨hx, hb, hml, hown, hts⟩ := id CF
  have hl : lv_has ls 4 [(0, .ref p0), (1, .int p1), (2, .ref p2)] := hl
  show W p l e r_L_resultAt s m args below meth c s.heap [] 0 0 (MQ below (gQi D cA g0 sz (Q)) args s 1 6 (gA g0 sz)) (F0 m 0 ls [])
  unfold w_L_resultAt at h
  obtain ⟨H, hH0⟩ : ∃ z, z = s.heap := ⟨_, rfl⟩
  rw [← hH0] at hc ⊢
  obtain ⟨locs, hlc0⟩ : ∃ z : List Loc, z = [] := ⟨_, rfl⟩
  rw [← hlc0] at hc ⊢
  refine lv_aload_n hx hb dL_resultAt_0 rfl (lv_at hl 2 rfl) ?_
  refine lv_iconst (v := 0) hx hb dL_resultAt_1 (by decide) ?_
  refine lv_aload_n hx hb dL_resultAt_2 rfl (lv_at hl 0 rfl) ?_
  refine lv_iload_n hx hb dL_resultAt_3 rfl (lv_at hl 1 rfl) ?_
  obtain ⟨hk1, h⟩ := h
  refine g_xcalli (vx_runV (As := [.int p1]) (rest := [.int 0, .ref p2]) CF (c_X10_resultAt hflags h) (cwV 1 hts gL_resultAt_X10_resultAt rfl rfl rfl (by decide +kernel) ⟨Nat.le_of_ble_eq_true rfl, Nat.le_of_ble_eq_true rfl⟩) (hc.preV hk1 rfl (by decide)) rfl rfl hl.1 rfl (lv_room (Nat.le_of_ble_eq_true rfl)) dL_resultAt_4 ⟨Nat.le_of_ble_eq_true rfl, Nat.le_of_ble_eq_true rfl⟩) hc (fun E8 ce9 a10 gx11 H locs hq hc hcell hcv hccl => ?_) (fun x2 gq3 H locs hq hc => ?_)
  · obtain ⟨rfl, h⟩ := hq
    refine vx_widen (k := 1) (n := 6) (Nat.le_of_ble_eq_true rfl) (Nat.le_of_ble_eq_true rfl) ?_
    rcases h with ⟨rfl, h⟩
    · refine vx_catch (name := "java/lang/IndexOutOfBoundsException") hown [] ⟨0, 9, 12, 28⟩ [] (hxt.trans rfl) (fun z hz => nomatch hz) (by decide) (by decide) (hts _ (List.mem_cons_of_mem _ (List.mem_append_left _ (List.mem_append_left _ (List.mem_append_left _ (List.mem_of_getElem? (i := 0) rfl)))))) (va_Nw.use rfl (hc.1.2.1 (.castable "java/lang/IndexOutOfBoundsException" "java/lang/IndexOutOfBoundsException") (by decide +kernel))) hcell hcv hccl ?_
      refine lv_astore_n (lv' := [(3, .ref a10), (0, .ref p0), (1, .int p1), (2, .ref p2)]) hx hb dL_resultAt_12 rfl hl (by decide) rfl (fun ls hl => ?_)
      refine lv_iconst (v := 1) hx hb dL_resultAt_13 (by decide) ?_
      exact g_reti (r := 1) CF hr hlk hc rfl h dL_resultAt_14
  · obtain ⟨rfl, h⟩ := hq
    refine W.widen (k := 1) (n := 6) (Nat.le_of_ble_eq_true rfl) (Nat.le_of_ble_eq_true rfl) ?_
    refine lv_i2l hx hb dL_resultAt_7 rfl ?_
    obtain ⟨hk4, h⟩ := h
    obtain ⟨hi5, h⟩ := h
    refine g_last CF hc hk4 (x := x2.toInt64) hi5 dL_resultAt_8 (fun H locs hc => ?_)
    obtain ⟨g6, eg7⟩ : ∃ z, z = sW g0 p2 (Int32.toNatClampNeg 0) x2.toInt64 := ⟨_, rfl⟩
    have hc : gC D cA (gA g0 sz) s g6 H locs := by rw [eg7]; exact hc
    replace h := h g6 eg7
    refine lv_goto (tgt := 15) hx hb dL_resultAt_9 (by decide) ?_
    refine lv_iconst (v := 0) hx hb dL_resultAt_15 (by decide) ?_
    exact g_reti (r := 0) CF hr hlk hc rfl h dL_resultAt_16
def w_L_scoreAt (g0 : gS) (p0 : Nat) (p1 : Int32) (p2 : Nat) (Q : Int32 → gS → Prop) : Prop :=
  gK g0 p0 = 11 ∧ (w_X10_scoreAt g0 p0 p1 (fun x2 => (gK g0 p2 = 23 ∧ (vp_in 0 (gN g0 p2) ∧ (∀ g6, g6 = sW g0 p2 (Int32.toNatClampNeg 0) x2.toInt64 → (Q 0 g6))))) (fun E => (E = "java/lang/IndexOutOfBoundsException" ∧ (Q 1 g0))))
abbrev r_L_scoreAt : Room := { frames := 7, cells := 1, slots := 6, locals := 103 }
set_option maxHeartbeats 4000000 in
set_option maxRecDepth 100000 in
theorem c_L_scoreAt {l : Launch} {D : va_G} {cA : Nat → ClassId} {sz : Nat} {g0 : gS} {p0 : Nat} {p1 : Int32} {p2 : Nat} {Q : Int32 → gS → Prop} (hflags : l.stackTraces = false) (h : w_L_scoreAt g0 p0 p1 p2 Q) : Met l yL_scoreAt wsL_scoreAt r_L_scoreAt (va_Pc [.ref p0, .int p1, .ref p2] (gPre D cA g0 sz)) (gQi D cA g0 sz (Q)) 1 6 (gA g0 sz) := by
  refine g_metH (cc := cL_scoreAt) (maxL := 4) (ret := (some .int)) (hh := [(0, 9, 12, 28)]) (own := RL) (by decide) rfl rfl (Nat.le_of_ble_eq_true rfl) ?_
  intro p e s m args below meth c ls CF hr hlk hnm hxt hc hl
  obtain ⟨hx, hb, hml, hown, hts⟩ := id CF
  have hl : lv_has ls 4 [(0, .ref p0), (1, .int p1), (2, .ref p2)] := hl
  show W p l e r_L_scoreAt s m args below meth c s.heap [] 0 0 (MQ below (gQi D cA g0 sz (Q)) args s 1 6 (gA g0 sz)) (F0 m 0 ls [])
  unfold w_L_scoreAt at h
  obtain ⟨H, hH0⟩ : ∃ z, z = s.heap := ⟨_, rfl⟩
  rw [← hH0] at hc ⊢
  obtain ⟨locs, hlc0⟩ : ∃ z : List Loc, z = [] := ⟨_, rfl⟩
  rw [← hlc0] at hc ⊢
  refine lv_aload_n hx hb dL_scoreAt_0 rfl (lv_at hl 2 rfl) ?_
  refine lv_iconst (v := 0) hx hb dL_scoreAt_1 (by decide) ?_
  refine lv_aload_n hx hb dL_scoreAt_2 rfl (lv_at hl 0 rfl) ?_
  refine lv_iload_n hx hb dL_scoreAt_3 rfl (lv_at hl 1 rfl) ?_
  obtain ⟨hk1, h⟩ := h
  refine g_xcalli (vx_runV (As := [.int p1]) (rest := [.int 0, .ref p2]) CF (c_X10_scoreAt hflags h) (cwV 1 hts gL_scoreAt_X10_scoreAt rfl rfl rfl (by decide +kernel) ⟨Nat.le_of_ble_eq_true rfl, Nat.le_of_ble_eq_true rfl⟩) (hc.preV hk1 rfl (by decide)) rfl rfl hl.1 rfl (lv_room (Nat.le_of_ble_eq_true rfl)) dL_scoreAt_4 ⟨Nat.le_of_ble_eq_true rfl, Nat.le_of_ble_eq_true rfl⟩) hc (fun E8 ce9 a10 gx11 H locs hq hc hcell hcv hccl => ?_) (fun x2 gq3 H locs hq hc => ?_)
  · obtain ⟨rfl, h⟩ := hq
    refine vx_widen (k := 1) (n := 6) (Nat.le_of_ble_eq_true rfl) (Nat.le_of_ble_eq_true rfl) ?_
    rcases h with ⟨rfl, h⟩
    · refine vx_catch (name := "java/lang/IndexOutOfBoundsException") hown [] ⟨0, 9, 12, 28⟩ [] (hxt.trans rfl) (fun z hz => nomatch hz) (by decide) (by decide) (hts _ (List.mem_cons_of_mem _ (List.mem_append_left _ (List.mem_append_left _ (List.mem_append_left _ (List.mem_of_getElem? (i := 0) rfl)))))) (va_Nw.use rfl (hc.1.2.1 (.castable "java/lang/IndexOutOfBoundsException" "java/lang/IndexOutOfBoundsException") (by decide +kernel))) hcell hcv hccl ?_
      refine lv_astore_n (lv' := [(3, .ref a10), (0, .ref p0), (1, .int p1), (2, .ref p2)]) hx hb dL_scoreAt_12 rfl hl (by decide) rfl (fun ls hl => ?_)
      refine lv_iconst (v := 1) hx hb dL_scoreAt_13 (by decide) ?_
      exact g_reti (r := 1) CF hr hlk hc rfl h dL_scoreAt_14
  · obtain ⟨rfl, h⟩ := hq
    refine W.widen (k := 1) (n := 6) (Nat.le_of_ble_eq_true rfl) (Nat.le_of_ble_eq_true rfl) ?_
    refine lv_i2l hx hb dL_scoreAt_7 rfl ?_
    obtain ⟨hk4, h⟩ := h
    obtain ⟨hi5, h⟩ := h
    refine g_last CF hc hk4 (x := x2.toInt64) hi5 dL_scoreAt_8 (fun H locs hc => ?_)
    obtain ⟨g6, eg7⟩ : ∃ z, z = sW g0 p2 (Int32.toNatClampNeg 0) x2.toInt64 := ⟨_, rfl⟩
    have hc : gC D cA (gA g0 sz) s g6 H locs := by rw [eg7]; exact hc
    replace h := h g6 eg7
    refine lv_goto (tgt := 15) hx hb dL_scoreAt_9 (by decide) ?_
    refine lv_iconst (v := 0) hx hb dL_scoreAt_15 (by decide) ?_
    exact g_reti (r := 0) CF hr hlk hc rfl h dL_scoreAt_16
def w_L_ofKind (g0 : gS) (p0 : Nat) (p1 : Int32) (p2 : Nat) (Q : Int32 → gS → Prop) : Prop :=
  gK g0 p0 = 11 ∧ (w_X10_ofKind g0 p0 p1 (fun x2 => (gK g0 p2 = 23 ∧ (vp_in 0 (gN g0 p2) ∧ (∀ g6, g6 = sW g0 p2 (Int32.toNatClampNeg 0) x2.toInt64 → (Q 0 g6))))) (fun E => (E = "java/lang/IllegalArgumentException" ∧ (Q 1 g0))))
abbrev r_L_ofKind : Room := { frames := 7, cells := 1, slots := 6, locals := 103 }
set_option maxHeartbeats 4000000 in
set_option maxRecDepth 100000 in
theorem c_L_ofKind {l : Launch} {D : va_G} {cA : Nat → ClassId} {sz : Nat} {g0 : gS} {p0 : Nat} {p1 : Int32} {p2 : Nat} {Q : Int32 → gS → Prop} (hflags : l.stackTraces = false) (h : w_L_ofKind g0 p0 p1 p2 Q) : Met l yL_ofKind wsL_ofKind r_L_ofKind (va_Pc [.ref p0, .int p1, .ref p2] (gPre D cA g0 sz)) (gQi D cA g0 sz (Q)) 1 6 (gA g0 sz) := by
  refine g_metH (cc := cL_ofKind) (maxL := 4) (ret := (some .int)) (hh := [(0, 9, 12, 13)]) (own := RL) (by decide) rfl rfl (Nat.le_of_ble_eq_true rfl) ?_
  intro p e s m args below meth c ls CF hr hlk hnm hxt hc hl
  obtain ⟨hx, hb, hml, hown, hts⟩ := id CF
  have hl : lv_has ls 4 [(0, .ref p0), (1, .int p1), (2, .ref p2)] := hl
  show W p l e r_L_ofKind s m args below meth c s.heap [] 0 0 (MQ below (gQi D cA g0 sz (Q)) args s 1 6 (gA g0 sz)) (F0 m 0 ls [])
  unfold w_L_ofKind at h
  obtain ⟨H, hH0⟩ : ∃ z, z = s.heap := ⟨_, rfl⟩
  rw [← hH0] at hc ⊢
  obtain ⟨locs, hlc0⟩ : ∃ z : List Loc, z = [] := ⟨_, rfl⟩
  rw [← hlc0] at hc ⊢
  refine lv_aload_n hx hb dL_ofKind_0 rfl (lv_at hl 2 rfl) ?_
  refine lv_iconst (v := 0) hx hb dL_ofKind_1 (by decide) ?_
  refine lv_aload_n hx hb dL_ofKind_2 rfl (lv_at hl 0 rfl) ?_
  refine lv_iload_n hx hb dL_ofKind_3 rfl (lv_at hl 1 rfl) ?_
  obtain ⟨hk1, h⟩ := h
  refine g_xcalli (vx_runV (As := [.int p1]) (rest := [.int 0, .ref p2]) CF (c_X10_ofKind hflags h) (cwV 1 hts gL_ofKind_X10_ofKind rfl rfl rfl (by decide +kernel) ⟨Nat.le_of_ble_eq_true rfl, Nat.le_of_ble_eq_true rfl⟩) (hc.preV hk1 rfl (by decide)) rfl rfl hl.1 rfl (lv_room (Nat.le_of_ble_eq_true rfl)) dL_ofKind_4 ⟨Nat.le_of_ble_eq_true rfl, Nat.le_of_ble_eq_true rfl⟩) hc (fun E8 ce9 a10 gx11 H locs hq hc hcell hcv hccl => ?_) (fun x2 gq3 H locs hq hc => ?_)
  · obtain ⟨rfl, h⟩ := hq
    refine vx_widen (k := 1) (n := 6) (Nat.le_of_ble_eq_true rfl) (Nat.le_of_ble_eq_true rfl) ?_
    rcases h with ⟨rfl, h⟩
    · refine vx_catch (name := "java/lang/IllegalArgumentException") hown [] ⟨0, 9, 12, 13⟩ [] (hxt.trans rfl) (fun z hz => nomatch hz) (by decide) (by decide) (hts _ (List.mem_cons_of_mem _ (List.mem_append_left _ (List.mem_append_left _ (List.mem_append_left _ (List.mem_append_left _ (List.mem_append_left _ (List.mem_of_getElem? (i := 0) rfl)))))))) (va_Nw.use rfl (hc.1.2.1 (.castable "java/lang/IllegalArgumentException" "java/lang/IllegalArgumentException") (by decide +kernel))) hcell hcv hccl ?_
      refine lv_astore_n (lv' := [(3, .ref a10), (0, .ref p0), (1, .int p1), (2, .ref p2)]) hx hb dL_ofKind_12 rfl hl (by decide) rfl (fun ls hl => ?_)
      refine lv_iconst (v := 1) hx hb dL_ofKind_13 (by decide) ?_
      exact g_reti (r := 1) CF hr hlk hc rfl h dL_ofKind_14
  · obtain ⟨rfl, h⟩ := hq
    refine W.widen (k := 1) (n := 6) (Nat.le_of_ble_eq_true rfl) (Nat.le_of_ble_eq_true rfl) ?_
    refine lv_i2l hx hb dL_ofKind_7 rfl ?_
    obtain ⟨hk4, h⟩ := h
    obtain ⟨hi5, h⟩ := h
    refine g_last CF hc hk4 (x := x2.toInt64) hi5 dL_ofKind_8 (fun H locs hc => ?_)
    obtain ⟨g6, eg7⟩ : ∃ z, z = sW g0 p2 (Int32.toNatClampNeg 0) x2.toInt64 := ⟨_, rfl⟩
    have hc : gC D cA (gA g0 sz) s g6 H locs := by rw [eg7]; exact hc
    replace h := h g6 eg7
    refine lv_goto (tgt := 15) hx hb dL_ofKind_9 (by decide) ?_
    refine lv_iconst (v := 0) hx hb dL_ofKind_15 (by decide) ?_
    exact g_reti (r := 0) CF hr hlk hc rfl h dL_ofKind_16
def w_L_ofDates (g0 : gS) (p0 : Nat) (p1 : Int32) (p2 : Int32) (p3 : Nat) (Q : Int32 → gS → Prop) : Prop :=
  gK g0 p0 = 11 ∧ (w_X10_ofDates g0 p0 p1 p2 (fun x2 => (gK g0 p3 = 23 ∧ (vp_in 0 (gN g0 p3) ∧ (∀ g6, g6 = sW g0 p3 (Int32.toNatClampNeg 0) x2.toInt64 → (Q 0 g6))))) (fun E => (E = "java/lang/IllegalArgumentException" ∧ (Q 1 g0))))
abbrev r_L_ofDates : Room := { frames := 7, cells := 1, slots := 6, locals := 104 }
set_option maxHeartbeats 4000000 in
set_option maxRecDepth 100000 in
theorem c_L_ofDates {l : Launch} {D : va_G} {cA : Nat → ClassId} {sz : Nat} {g0 : gS} {p0 : Nat} {p1 : Int32} {p2 : Int32} {p3 : Nat} {Q : Int32 → gS → Prop} (hflags : l.stackTraces = false) (h : w_L_ofDates g0 p0 p1 p2 p3 Q) : Met l yL_ofDates wsL_ofDates r_L_ofDates (va_Pc [.ref p0, .int p1, .int p2, .ref p3] (gPre D cA g0 sz)) (gQi D cA g0 sz (Q)) 1 6 (gA g0 sz) := by
  refine g_metH (cc := cL_ofDates) (maxL := 5) (ret := (some .int)) (hh := [(0, 10, 13, 13)]) (own := RL) (by decide) rfl rfl (Nat.le_of_ble_eq_true rfl) ?_
  intro p e s m args below meth c ls CF hr hlk hnm hxt hc hl
  obtain ⟨hx, hb, hml, hown, hts⟩ := id CF
  have hl : lv_has ls 5 [(0, .ref p0), (1, .int p1), (2, .int p2), (3, .ref p3)] := hl
  show W p l e r_L_ofDates s m args below meth c s.heap [] 0 0 (MQ below (gQi D cA g0 sz (Q)) args s 1 6 (gA g0 sz)) (F0 m 0 ls [])
  unfold w_L_ofDates at h
  obtain ⟨H, hH0⟩ : ∃ z, z = s.heap := ⟨_, rfl⟩
  rw [← hH0] at hc ⊢
  obtain ⟨locs, hlc0⟩ : ∃ z : List Loc, z = [] := ⟨_, rfl⟩
  rw [← hlc0] at hc ⊢
  refine lv_aload_n hx hb dL_ofDates_0 rfl (lv_at hl 3 rfl) ?_
  refine lv_iconst (v := 0) hx hb dL_ofDates_1 (by decide) ?_
  refine lv_aload_n hx hb dL_ofDates_2 rfl (lv_at hl 0 rfl) ?_
  refine lv_iload_n hx hb dL_ofDates_3 rfl (lv_at hl 1 rfl) ?_
  refine lv_iload_n hx hb dL_ofDates_4 rfl (lv_at hl 2 rfl) ?_
  obtain ⟨hk1, h⟩ := h
  refine g_xcalli (vx_runV (As := [.int p1, .int p2]) (rest := [.int 0, .ref p3]) CF (c_X10_ofDates hflags h) (cwV 2 hts gL_ofDates_X10_ofDates rfl rfl rfl (by decide +kernel) ⟨Nat.le_of_ble_eq_true rfl, Nat.le_of_ble_eq_true rfl⟩) (hc.preV hk1 rfl (by decide)) rfl rfl hl.1 rfl (lv_room (Nat.le_of_ble_eq_true rfl)) dL_ofDates_5 ⟨Nat.le_of_ble_eq_true rfl, Nat.le_of_ble_eq_true rfl⟩) hc (fun E8 ce9 a10 gx11 H locs hq hc hcell hcv hccl => ?_) (fun x2 gq3 H locs hq hc => ?_)
  · obtain ⟨rfl, h⟩ := hq
    refine vx_widen (k := 1) (n := 6) (Nat.le_of_ble_eq_true rfl) (Nat.le_of_ble_eq_true rfl) ?_
    rcases h with ⟨rfl, h⟩
    · refine vx_catch (name := "java/lang/IllegalArgumentException") hown [] ⟨0, 10, 13, 13⟩ [] (hxt.trans rfl) (fun z hz => nomatch hz) (by decide) (by decide) (hts _ (List.mem_cons_of_mem _ (List.mem_append_left _ (List.mem_append_left _ (List.mem_append_left _ (List.mem_append_left _ (List.mem_append_left _ (List.mem_of_getElem? (i := 0) rfl)))))))) (va_Nw.use rfl (hc.1.2.1 (.castable "java/lang/IllegalArgumentException" "java/lang/IllegalArgumentException") (by decide +kernel))) hcell hcv hccl ?_
      refine lv_astore (lv' := [(4, .ref a10), (0, .ref p0), (1, .int p1), (2, .int p2), (3, .ref p3)]) hx hb dL_ofDates_13 hl (by decide) rfl (fun ls hl => ?_)
      refine lv_iconst (v := 1) hx hb dL_ofDates_15 (by decide) ?_
      exact g_reti (r := 1) CF hr hlk hc rfl h dL_ofDates_16
  · obtain ⟨rfl, h⟩ := hq
    refine W.widen (k := 1) (n := 6) (Nat.le_of_ble_eq_true rfl) (Nat.le_of_ble_eq_true rfl) ?_
    refine lv_i2l hx hb dL_ofDates_8 rfl ?_
    obtain ⟨hk4, h⟩ := h
    obtain ⟨hi5, h⟩ := h
    refine g_last CF hc hk4 (x := x2.toInt64) hi5 dL_ofDates_9 (fun H locs hc => ?_)
    obtain ⟨g6, eg7⟩ : ∃ z, z = sW g0 p3 (Int32.toNatClampNeg 0) x2.toInt64 := ⟨_, rfl⟩
    have hc : gC D cA (gA g0 sz) s g6 H locs := by rw [eg7]; exact hc
    replace h := h g6 eg7
    refine lv_goto (tgt := 17) hx hb dL_ofDates_10 (by decide) ?_
    refine lv_iconst (v := 0) hx hb dL_ofDates_17 (by decide) ?_
    exact g_reti (r := 0) CF hr hlk hc rfl h dL_ofDates_18
def w_L_window (g0 : gS) (p0 : Nat) (p1 : Int32) (p2 : Int32) (p3 : Int32) (p4 : Int32) (p5 : Nat) (Q : Int32 → gS → Prop) : Prop :=
  gK g0 p0 = 11 ∧ (w_X10_window g0 p0 p1 p2 p3 p4 (fun x2 g3 => (gK g3 p5 = 23 ∧ (vp_in 0 (gN g3 p5) ∧ (∀ g7, g7 = sW g3 p5 (Int32.toNatClampNeg 0) x2.toInt64 → (Q 0 g7))))) (fun E gx12 => (E = "java/lang/IndexOutOfBoundsException" ∧ (Q 1 gx12)) ∨ (E = "java/lang/IllegalArgumentException" ∧ (Q 2 gx12))))
abbrev r_L_window : Room := { frames := 7, cells := 1, slots := 6, locals := 125 }
set_option maxHeartbeats 4000000 in
set_option maxRecDepth 100000 in
theorem c_L_window {l : Launch} {D : va_G} {cA : Nat → ClassId} {sz : Nat} {g0 : gS} {p0 : Nat} {p1 : Int32} {p2 : Int32} {p3 : Int32} {p4 : Int32} {p5 : Nat} {Q : Int32 → gS → Prop} (hflags : l.stackTraces = false) (h : w_L_window g0 p0 p1 p2 p3 p4 p5 Q) : Met l yL_window wsL_window r_L_window (va_Pc [.ref p0, .int p1, .int p2, .int p3, .int p4, .ref p5] (gPre D cA g0 sz)) (gQi D cA g0 sz (Q)) 1 6 (gA g0 sz) := by
  refine g_metH (cc := cL_window) (maxL := 7) (ret := (some .int)) (hh := [(0, 14, 17, 28), (0, 14, 21, 13)]) (own := RL) (by decide) rfl rfl (Nat.le_of_ble_eq_true rfl) ?_
  intro p e s m args below meth c ls CF hr hlk hnm hxt hc hl
  obtain ⟨hx, hb, hml, hown, hts⟩ := id CF
  have hl : lv_has ls 7 [(0, .ref p0), (1, .int p1), (2, .int p2), (3, .int p3), (4, .int p4), (5, .ref p5)] := hl
  show W p l e r_L_window s m args below meth c s.heap [] 0 0 (MQ below (gQi D cA g0 sz (Q)) args s 1 6 (gA g0 sz)) (F0 m 0 ls [])
  unfold w_L_window at h
  obtain ⟨H, hH0⟩ : ∃ z, z = s.heap := ⟨_, rfl⟩
  rw [← hH0] at hc ⊢
  obtain ⟨locs, hlc0⟩ : ∃ z : List Loc, z = [] := ⟨_, rfl⟩
  rw [← hlc0] at hc ⊢
  refine lv_aload hx hb dL_window_0 (lv_at hl 5 rfl) ?_
  refine lv_iconst (v := 0) hx hb dL_window_2 (by decide) ?_
  refine lv_aload_n hx hb dL_window_3 rfl (lv_at hl 0 rfl) ?_
  refine lv_iload_n hx hb dL_window_4 rfl (lv_at hl 1 rfl) ?_
  refine lv_iload_n hx hb dL_window_5 rfl (lv_at hl 2 rfl) ?_
  refine lv_iload_n hx hb dL_window_6 rfl (lv_at hl 3 rfl) ?_
  refine lv_iload hx hb dL_window_7 (lv_at hl 4 rfl) ?_
  obtain ⟨hk1, h⟩ := h
  refine g_xcalli (vx_runV (As := [.int p1, .int p2, .int p3, .int p4]) (rest := [.int 0, .ref p5]) CF (c_X10_window hflags h) (cwV 4 hts gL_window_X10_window rfl rfl rfl (by decide +kernel) ⟨Nat.le_of_ble_eq_true rfl, Nat.le_of_ble_eq_true rfl⟩) (hc.preV hk1 rfl (by decide)) rfl rfl hl.1 rfl (lv_room (Nat.le_of_ble_eq_true rfl)) dL_window_9 ⟨Nat.le_of_ble_eq_true rfl, Nat.le_of_ble_eq_true rfl⟩) hc (fun E9 ce10 a11 gx12 H locs hq hc hcell hcv hccl => ?_) (fun x2 g3 H locs hq hc => ?_)
  · replace h := hq
    refine vx_widen (k := 1) (n := 6) (Nat.le_of_ble_eq_true rfl) (Nat.le_of_ble_eq_true rfl) ?_
    rcases h with ⟨rfl, h⟩ | ⟨rfl, h⟩
    · refine vx_catch (name := "java/lang/IndexOutOfBoundsException") hown [] ⟨0, 14, 17, 28⟩ [⟨0, 14, 21, 13⟩] (hxt.trans rfl) (fun z hz => nomatch hz) (by decide) (by decide) (hts _ (List.mem_cons_of_mem _ (List.mem_append_left _ (List.mem_append_left _ (List.mem_append_left _ (List.mem_append_left _ (List.mem_append_left _ (List.mem_append_left _ (List.mem_append_left _ (List.mem_append_left _ (List.mem_append_left _ (List.mem_append_left _ (List.mem_of_getElem? (i := 0) rfl))))))))))))) (va_Nw.use rfl (hc.1.2.1 (.castable "java/lang/IndexOutOfBoundsException" "java/lang/IndexOutOfBoundsException") (by decide +kernel))) hcell hcv hccl ?_
      refine lv_astore (lv' := [(6, .ref a11), (0, .ref p0), (1, .int p1), (2, .int p2), (3, .int p3), (4, .int p4), (5, .ref p5)]) hx hb dL_window_17 hl (by decide) rfl (fun ls hl => ?_)
      refine lv_iconst (v := 1) hx hb dL_window_19 (by decide) ?_
      exact g_reti (r := 1) CF hr hlk hc rfl h dL_window_20
    · refine vx_catch (name := "java/lang/IllegalArgumentException") hown [⟨0, 14, 17, 28⟩] ⟨0, 14, 21, 13⟩ [] (hxt.trans rfl) (List.forall_mem_cons.mpr ⟨Or.inr ⟨by decide, "java/lang/IndexOutOfBoundsException", hts _ (List.mem_cons_of_mem _ (List.mem_append_left _ (List.mem_append_left _ (List.mem_append_left _ (List.mem_append_left _ (List.mem_append_left _ (List.mem_append_left _ (List.mem_append_left _ (List.mem_append_left _ (List.mem_append_left _ (List.mem_append_left _ (List.mem_of_getElem? (i := 0) rfl)))))))))))), hc.1.2.2.2.2.2.2.2 ("java/lang/IllegalArgumentException", "java/lang/IndexOutOfBoundsException") (by decide)⟩, fun _ hz => nomatch hz⟩) (by decide) (by decide) (hts _ (List.mem_cons_of_mem _ (List.mem_append_left _ (List.mem_append_left _ (List.mem_append_left _ (List.mem_append_left _ (List.mem_append_left _ (List.mem_append_left _ (List.mem_append_left _ (List.mem_append_left _ (List.mem_append_left _ (List.mem_append_left _ (List.mem_of_getElem? (i := 1) rfl))))))))))))) (va_Nw.use rfl (hc.1.2.1 (.castable "java/lang/IllegalArgumentException" "java/lang/IllegalArgumentException") (by decide +kernel))) hcell hcv hccl ?_
      refine lv_astore (lv' := [(6, .ref a11), (0, .ref p0), (1, .int p1), (2, .int p2), (3, .int p3), (4, .int p4), (5, .ref p5)]) hx hb dL_window_21 hl (by decide) rfl (fun ls hl => ?_)
      refine lv_iconst (v := 2) hx hb dL_window_23 (by decide) ?_
      exact g_reti (r := 2) CF hr hlk hc rfl h dL_window_24
  · replace h := hq
    refine W.widen (k := 1) (n := 6) (Nat.le_of_ble_eq_true rfl) (Nat.le_of_ble_eq_true rfl) ?_
    refine lv_i2l hx hb dL_window_12 rfl ?_
    obtain ⟨hk5, h⟩ := h
    obtain ⟨hi6, h⟩ := h
    refine g_last CF hc hk5 (x := x2.toInt64) hi6 dL_window_13 (fun H locs hc => ?_)
    obtain ⟨g7, eg8⟩ : ∃ z, z = sW g3 p5 (Int32.toNatClampNeg 0) x2.toInt64 := ⟨_, rfl⟩
    have hc : gC D cA (gA g0 sz) s g7 H locs := by rw [eg8]; exact hc
    replace h := h g7 eg8
    refine lv_goto (tgt := 25) hx hb dL_window_14 (by decide) ?_
    refine lv_iconst (v := 0) hx hb dL_window_25 (by decide) ?_
    exact g_reti (r := 0) CF hr hlk hc rfl h dL_window_26
def w_L_like (g0 : gS) (p0 : Nat) (p1 : Int32) (p2 : Nat) (Q : Int32 → gS → Prop) : Prop :=
  gK g0 p0 = 11 ∧ (w_X10_like g0 p0 p1 (fun x2 g3 => (gK g3 p2 = 23 ∧ (vp_in 0 (gN g3 p2) ∧ (∀ g7, g7 = sW g3 p2 (Int32.toNatClampNeg 0) x2.toInt64 → (Q 0 g7))))) (fun E gx12 => (E = "java/lang/IndexOutOfBoundsException" ∧ (Q 1 gx12))))
abbrev r_L_like : Room := { frames := 7, cells := 1, slots := 6, locals := 121 }
set_option maxHeartbeats 4000000 in
set_option maxRecDepth 100000 in
theorem c_L_like {l : Launch} {D : va_G} {cA : Nat → ClassId} {sz : Nat} {g0 : gS} {p0 : Nat} {p1 : Int32} {p2 : Nat} {Q : Int32 → gS → Prop} (hflags : l.stackTraces = false) (h : w_L_like g0 p0 p1 p2 Q) : Met l yL_like wsL_like r_L_like (va_Pc [.ref p0, .int p1, .ref p2] (gPre D cA g0 sz)) (gQi D cA g0 sz (Q)) 1 6 (gA g0 sz) := by
  refine g_metH (cc := cL_like) (maxL := 4) (ret := (some .int)) (hh := [(0, 9, 12, 28)]) (own := RL) (by decide) rfl rfl (Nat.le_of_ble_eq_true rfl) ?_
  intro p e s m args below meth c ls CF hr hlk hnm hxt hc hl
  obtain ⟨hx, hb, hml, hown, hts⟩ := id CF
  have hl : lv_has ls 4 [(0, .ref p0), (1, .int p1), (2, .ref p2)] := hl
  show W p l e r_L_like s m args below meth c s.heap [] 0 0 (MQ below (gQi D cA g0 sz (Q)) args s 1 6 (gA g0 sz)) (F0 m 0 ls [])
  unfold w_L_like at h
  obtain ⟨H, hH0⟩ : ∃ z, z = s.heap := ⟨_, rfl⟩
  rw [← hH0] at hc ⊢
  obtain ⟨locs, hlc0⟩ : ∃ z : List Loc, z = [] := ⟨_, rfl⟩
  rw [← hlc0] at hc ⊢
  refine lv_aload_n hx hb dL_like_0 rfl (lv_at hl 2 rfl) ?_
  refine lv_iconst (v := 0) hx hb dL_like_1 (by decide) ?_
  refine lv_aload_n hx hb dL_like_2 rfl (lv_at hl 0 rfl) ?_
  refine lv_iload_n hx hb dL_like_3 rfl (lv_at hl 1 rfl) ?_
  obtain ⟨hk1, h⟩ := h
  refine g_xcalli (vx_runV (As := [.int p1]) (rest := [.int 0, .ref p2]) CF (c_X10_like hflags h) (cwV 1 hts gL_like_X10_like rfl rfl rfl (by decide +kernel) ⟨Nat.le_of_ble_eq_true rfl, Nat.le_of_ble_eq_true rfl⟩) (hc.preV hk1 rfl (by decide)) rfl rfl hl.1 rfl (lv_room (Nat.le_of_ble_eq_true rfl)) dL_like_4 ⟨Nat.le_of_ble_eq_true rfl, Nat.le_of_ble_eq_true rfl⟩) hc (fun E9 ce10 a11 gx12 H locs hq hc hcell hcv hccl => ?_) (fun x2 g3 H locs hq hc => ?_)
  · replace h := hq
    refine vx_widen (k := 1) (n := 6) (Nat.le_of_ble_eq_true rfl) (Nat.le_of_ble_eq_true rfl) ?_
    rcases h with ⟨rfl, h⟩
    · refine vx_catch (name := "java/lang/IndexOutOfBoundsException") hown [] ⟨0, 9, 12, 28⟩ [] (hxt.trans rfl) (fun z hz => nomatch hz) (by decide) (by decide) (hts _ (List.mem_cons_of_mem _ (List.mem_append_left _ (List.mem_append_left _ (List.mem_append_left _ (List.mem_append_left _ (List.mem_append_left _ (List.mem_append_left _ (List.mem_append_left _ (List.mem_append_left _ (List.mem_append_left _ (List.mem_of_getElem? (i := 0) rfl)))))))))))) (va_Nw.use rfl (hc.1.2.1 (.castable "java/lang/IndexOutOfBoundsException" "java/lang/IndexOutOfBoundsException") (by decide +kernel))) hcell hcv hccl ?_
      refine lv_astore_n (lv' := [(3, .ref a11), (0, .ref p0), (1, .int p1), (2, .ref p2)]) hx hb dL_like_12 rfl hl (by decide) rfl (fun ls hl => ?_)
      refine lv_iconst (v := 1) hx hb dL_like_13 (by decide) ?_
      exact g_reti (r := 1) CF hr hlk hc rfl h dL_like_14
  · replace h := hq
    refine W.widen (k := 1) (n := 6) (Nat.le_of_ble_eq_true rfl) (Nat.le_of_ble_eq_true rfl) ?_
    refine lv_i2l hx hb dL_like_7 rfl ?_
    obtain ⟨hk5, h⟩ := h
    obtain ⟨hi6, h⟩ := h
    refine g_last CF hc hk5 (x := x2.toInt64) hi6 dL_like_8 (fun H locs hc => ?_)
    obtain ⟨g7, eg8⟩ : ∃ z, z = sW g3 p2 (Int32.toNatClampNeg 0) x2.toInt64 := ⟨_, rfl⟩
    have hc : gC D cA (gA g0 sz) s g7 H locs := by rw [eg8]; exact hc
    replace h := h g7 eg8
    refine lv_goto (tgt := 15) hx hb dL_like_9 (by decide) ?_
    refine lv_iconst (v := 0) hx hb dL_like_15 (by decide) ?_
    exact g_reti (r := 0) CF hr hlk hc rfl h dL_like_16
def w_L_mate (g0 : gS) (p0 : Nat) (p1 : Int32) (p2 : Nat) (Q : Int32 → gS → Prop) : Prop :=
  gK g0 p0 = 11 ∧ (w_X10_mate g0 p0 p1 (fun x2 g3 => (gK g3 p2 = 23 ∧ (vp_in 0 (gN g3 p2) ∧ (∀ g7, g7 = sW g3 p2 (Int32.toNatClampNeg 0) x2.toInt64 → (Q 0 g7))))) (fun E gx12 => (E = "java/lang/IllegalArgumentException" ∧ (Q 1 gx12))))
abbrev r_L_mate : Room := { frames := 7, cells := 1, slots := 6, locals := 113 }
set_option maxHeartbeats 4000000 in
set_option maxRecDepth 100000 in
theorem c_L_mate {l : Launch} {D : va_G} {cA : Nat → ClassId} {sz : Nat} {g0 : gS} {p0 : Nat} {p1 : Int32} {p2 : Nat} {Q : Int32 → gS → Prop} (hflags : l.stackTraces = false) (h : w_L_mate g0 p0 p1 p2 Q) : Met l yL_mate wsL_mate r_L_mate (va_Pc [.ref p0, .int p1, .ref p2] (gPre D cA g0 sz)) (gQi D cA g0 sz (Q)) 1 6 (gA g0 sz) := by
  refine g_metH (cc := cL_mate) (maxL := 4) (ret := (some .int)) (hh := [(0, 9, 12, 13)]) (own := RL) (by decide) rfl rfl (Nat.le_of_ble_eq_true rfl) ?_
  intro p e s m args below meth c ls CF hr hlk hnm hxt hc hl
  obtain ⟨hx, hb, hml, hown, hts⟩ := id CF
  have hl : lv_has ls 4 [(0, .ref p0), (1, .int p1), (2, .ref p2)] := hl
  show W p l e r_L_mate s m args below meth c s.heap [] 0 0 (MQ below (gQi D cA g0 sz (Q)) args s 1 6 (gA g0 sz)) (F0 m 0 ls [])
  unfold w_L_mate at h
  obtain ⟨H, hH0⟩ : ∃ z, z = s.heap := ⟨_, rfl⟩
  rw [← hH0] at hc ⊢
  obtain ⟨locs, hlc0⟩ : ∃ z : List Loc, z = [] := ⟨_, rfl⟩
  rw [← hlc0] at hc ⊢
  refine lv_aload_n hx hb dL_mate_0 rfl (lv_at hl 2 rfl) ?_
  refine lv_iconst (v := 0) hx hb dL_mate_1 (by decide) ?_
  refine lv_aload_n hx hb dL_mate_2 rfl (lv_at hl 0 rfl) ?_
  refine lv_iload_n hx hb dL_mate_3 rfl (lv_at hl 1 rfl) ?_
  obtain ⟨hk1, h⟩ := h
  refine g_xcalli (vx_runV (As := [.int p1]) (rest := [.int 0, .ref p2]) CF (c_X10_mate hflags h) (cwV 1 hts gL_mate_X10_mate rfl rfl rfl (by decide +kernel) ⟨Nat.le_of_ble_eq_true rfl, Nat.le_of_ble_eq_true rfl⟩) (hc.preV hk1 rfl (by decide)) rfl rfl hl.1 rfl (lv_room (Nat.le_of_ble_eq_true rfl)) dL_mate_4 ⟨Nat.le_of_ble_eq_true rfl, Nat.le_of_ble_eq_true rfl⟩) hc (fun E9 ce10 a11 gx12 H locs hq hc hcell hcv hccl => ?_) (fun x2 g3 H locs hq hc => ?_)
  · replace h := hq
    refine vx_widen (k := 1) (n := 6) (Nat.le_of_ble_eq_true rfl) (Nat.le_of_ble_eq_true rfl) ?_
    rcases h with ⟨rfl, h⟩
    · refine vx_catch (name := "java/lang/IllegalArgumentException") hown [] ⟨0, 9, 12, 13⟩ [] (hxt.trans rfl) (fun z hz => nomatch hz) (by decide) (by decide) (hts _ (List.mem_cons_of_mem _ (List.mem_append_left _ (List.mem_append_left _ (List.mem_append_left _ (List.mem_append_left _ (List.mem_append_left _ (List.mem_append_left _ (List.mem_append_left _ (List.mem_append_left _ (List.mem_of_getElem? (i := 0) rfl))))))))))) (va_Nw.use rfl (hc.1.2.1 (.castable "java/lang/IllegalArgumentException" "java/lang/IllegalArgumentException") (by decide +kernel))) hcell hcv hccl ?_
      refine lv_astore_n (lv' := [(3, .ref a11), (0, .ref p0), (1, .int p1), (2, .ref p2)]) hx hb dL_mate_12 rfl hl (by decide) rfl (fun ls hl => ?_)
      refine lv_iconst (v := 1) hx hb dL_mate_13 (by decide) ?_
      exact g_reti (r := 1) CF hr hlk hc rfl h dL_mate_14
  · replace h := hq
    refine W.widen (k := 1) (n := 6) (Nat.le_of_ble_eq_true rfl) (Nat.le_of_ble_eq_true rfl) ?_
    refine lv_i2l hx hb dL_mate_7 rfl ?_
    obtain ⟨hk5, h⟩ := h
    obtain ⟨hi6, h⟩ := h
    refine g_last CF hc hk5 (x := x2.toInt64) hi6 dL_mate_8 (fun H locs hc => ?_)
    obtain ⟨g7, eg8⟩ : ∃ z, z = sW g3 p2 (Int32.toNatClampNeg 0) x2.toInt64 := ⟨_, rfl⟩
    have hc : gC D cA (gA g0 sz) s g7 H locs := by rw [eg8]; exact hc
    replace h := h g7 eg8
    refine lv_goto (tgt := 15) hx hb dL_mate_9 (by decide) ?_
    refine lv_iconst (v := 0) hx hb dL_mate_15 (by decide) ?_
    exact g_reti (r := 0) CF hr hlk hc rfl h dL_mate_16
def w_L_cost (g0 : gS) (p0 : Nat) (p1 : Int32) (p2 : Nat) (Q : Int32 → gS → Prop) : Prop :=
  gK g0 p0 = 11 ∧ (w_X10_cost g0 p0 p1 (fun x2 g3 => (gK g3 p2 = 23 ∧ (vp_in 0 (gN g3 p2) ∧ (∀ g7, g7 = sW g3 p2 (Int32.toNatClampNeg 0) x2.toInt64 → (Q 0 g7))))) (fun E gx12 => (E = "java/lang/IndexOutOfBoundsException" ∧ (Q 1 gx12))))
abbrev r_L_cost : Room := { frames := 7, cells := 1, slots := 6, locals := 116 }
set_option maxHeartbeats 4000000 in
set_option maxRecDepth 100000 in
theorem c_L_cost {l : Launch} {D : va_G} {cA : Nat → ClassId} {sz : Nat} {g0 : gS} {p0 : Nat} {p1 : Int32} {p2 : Nat} {Q : Int32 → gS → Prop} (hflags : l.stackTraces = false) (h : w_L_cost g0 p0 p1 p2 Q) : Met l yL_cost wsL_cost r_L_cost (va_Pc [.ref p0, .int p1, .ref p2] (gPre D cA g0 sz)) (gQi D cA g0 sz (Q)) 1 6 (gA g0 sz) := by
  refine g_metH (cc := cL_cost) (maxL := 4) (ret := (some .int)) (hh := [(0, 9, 12, 28)]) (own := RL) (by decide) rfl rfl (Nat.le_of_ble_eq_true rfl) ?_
  intro p e s m args below meth c ls CF hr hlk hnm hxt hc hl
  obtain ⟨hx, hb, hml, hown, hts⟩ := id CF
  have hl : lv_has ls 4 [(0, .ref p0), (1, .int p1), (2, .ref p2)] := hl
  show W p l e r_L_cost s m args below meth c s.heap [] 0 0 (MQ below (gQi D cA g0 sz (Q)) args s 1 6 (gA g0 sz)) (F0 m 0 ls [])
  unfold w_L_cost at h
  obtain ⟨H, hH0⟩ : ∃ z, z = s.heap := ⟨_, rfl⟩
  rw [← hH0] at hc ⊢
  obtain ⟨locs, hlc0⟩ : ∃ z : List Loc, z = [] := ⟨_, rfl⟩
  rw [← hlc0] at hc ⊢
  refine lv_aload_n hx hb dL_cost_0 rfl (lv_at hl 2 rfl) ?_
  refine lv_iconst (v := 0) hx hb dL_cost_1 (by decide) ?_
  refine lv_aload_n hx hb dL_cost_2 rfl (lv_at hl 0 rfl) ?_
  refine lv_iload_n hx hb dL_cost_3 rfl (lv_at hl 1 rfl) ?_
  obtain ⟨hk1, h⟩ := h
  refine g_xcalli (vx_runV (As := [.int p1]) (rest := [.int 0, .ref p2]) CF (c_X10_cost hflags h) (cwV 1 hts gL_cost_X10_cost rfl rfl rfl (by decide +kernel) ⟨Nat.le_of_ble_eq_true rfl, Nat.le_of_ble_eq_true rfl⟩) (hc.preV hk1 rfl (by decide)) rfl rfl hl.1 rfl (lv_room (Nat.le_of_ble_eq_true rfl)) dL_cost_4 ⟨Nat.le_of_ble_eq_true rfl, Nat.le_of_ble_eq_true rfl⟩) hc (fun E9 ce10 a11 gx12 H locs hq hc hcell hcv hccl => ?_) (fun x2 g3 H locs hq hc => ?_)
  · replace h := hq
    refine vx_widen (k := 1) (n := 6) (Nat.le_of_ble_eq_true rfl) (Nat.le_of_ble_eq_true rfl) ?_
    rcases h with ⟨rfl, h⟩
    · refine vx_catch (name := "java/lang/IndexOutOfBoundsException") hown [] ⟨0, 9, 12, 28⟩ [] (hxt.trans rfl) (fun z hz => nomatch hz) (by decide) (by decide) (hts _ (List.mem_cons_of_mem _ (List.mem_append_left _ (List.mem_append_left _ (List.mem_append_left _ (List.mem_append_left _ (List.mem_append_left _ (List.mem_append_left _ (List.mem_append_left _ (List.mem_append_left _ (List.mem_of_getElem? (i := 0) rfl))))))))))) (va_Nw.use rfl (hc.1.2.1 (.castable "java/lang/IndexOutOfBoundsException" "java/lang/IndexOutOfBoundsException") (by decide +kernel))) hcell hcv hccl ?_
      refine lv_astore_n (lv' := [(3, .ref a11), (0, .ref p0), (1, .int p1), (2, .ref p2)]) hx hb dL_cost_12 rfl hl (by decide) rfl (fun ls hl => ?_)
      refine lv_iconst (v := 1) hx hb dL_cost_13 (by decide) ?_
      exact g_reti (r := 1) CF hr hlk hc rfl h dL_cost_14
  · replace h := hq
    refine W.widen (k := 1) (n := 6) (Nat.le_of_ble_eq_true rfl) (Nat.le_of_ble_eq_true rfl) ?_
    refine lv_i2l hx hb dL_cost_7 rfl ?_
    obtain ⟨hk5, h⟩ := h
    obtain ⟨hi6, h⟩ := h
    refine g_last CF hc hk5 (x := x2.toInt64) hi6 dL_cost_8 (fun H locs hc => ?_)
    obtain ⟨g7, eg8⟩ : ∃ z, z = sW g3 p2 (Int32.toNatClampNeg 0) x2.toInt64 := ⟨_, rfl⟩
    have hc : gC D cA (gA g0 sz) s g7 H locs := by rw [eg8]; exact hc
    replace h := h g7 eg8
    refine lv_goto (tgt := 15) hx hb dL_cost_9 (by decide) ?_
    refine lv_iconst (v := 0) hx hb dL_cost_15 (by decide) ?_
    exact g_reti (r := 0) CF hr hlk hc rfl h dL_cost_16
def w_L_byAlias (g0 : gS) (p0 : Nat) (p1 : Int32) (p2 : Nat) (Q : Int32 → gS → Prop) : Prop :=
  gK g0 p0 = 11 ∧ (w_X10_byAlias g0 p0 p1 (fun x2 g3 => (gK g3 p2 = 23 ∧ (vp_in 0 (gN g3 p2) ∧ (∀ g7, g7 = sW g3 p2 (Int32.toNatClampNeg 0) x2.toInt64 → (Q 0 g7))))) (fun E gx12 => (E = "java/lang/IndexOutOfBoundsException" ∧ (Q 1 gx12))))
abbrev r_L_byAlias : Room := { frames := 7, cells := 1, slots := 6, locals := 151 }
set_option maxHeartbeats 4000000 in
set_option maxRecDepth 100000 in
theorem c_L_byAlias {l : Launch} {D : va_G} {cA : Nat → ClassId} {sz : Nat} {g0 : gS} {p0 : Nat} {p1 : Int32} {p2 : Nat} {Q : Int32 → gS → Prop} (hflags : l.stackTraces = false) (h : w_L_byAlias g0 p0 p1 p2 Q) : Met l yL_byAlias wsL_byAlias r_L_byAlias (va_Pc [.ref p0, .int p1, .ref p2] (gPre D cA g0 sz)) (gQi D cA g0 sz (Q)) 1 6 (gA g0 sz) := by
  refine g_metH (cc := cL_byAlias) (maxL := 4) (ret := (some .int)) (hh := [(0, 9, 12, 28)]) (own := RL) (by decide) rfl rfl (Nat.le_of_ble_eq_true rfl) ?_
  intro p e s m args below meth c ls CF hr hlk hnm hxt hc hl
  obtain ⟨hx, hb, hml, hown, hts⟩ := id CF
  have hl : lv_has ls 4 [(0, .ref p0), (1, .int p1), (2, .ref p2)] := hl
  show W p l e r_L_byAlias s m args below meth c s.heap [] 0 0 (MQ below (gQi D cA g0 sz (Q)) args s 1 6 (gA g0 sz)) (F0 m 0 ls [])
  unfold w_L_byAlias at h
  obtain ⟨H, hH0⟩ : ∃ z, z = s.heap := ⟨_, rfl⟩
  rw [← hH0] at hc ⊢
  obtain ⟨locs, hlc0⟩ : ∃ z : List Loc, z = [] := ⟨_, rfl⟩
  rw [← hlc0] at hc ⊢
  refine lv_aload_n hx hb dL_byAlias_0 rfl (lv_at hl 2 rfl) ?_
  refine lv_iconst (v := 0) hx hb dL_byAlias_1 (by decide) ?_
  refine lv_aload_n hx hb dL_byAlias_2 rfl (lv_at hl 0 rfl) ?_
  refine lv_iload_n hx hb dL_byAlias_3 rfl (lv_at hl 1 rfl) ?_
  obtain ⟨hk1, h⟩ := h
  refine g_xcalli (vx_runV (As := [.int p1]) (rest := [.int 0, .ref p2]) CF (c_X10_byAlias hflags h) (cwV 1 hts gL_byAlias_X10_byAlias rfl rfl rfl (by decide +kernel) ⟨Nat.le_of_ble_eq_true rfl, Nat.le_of_ble_eq_true rfl⟩) (hc.preV hk1 rfl (by decide)) rfl rfl hl.1 rfl (lv_room (Nat.le_of_ble_eq_true rfl)) dL_byAlias_4 ⟨Nat.le_of_ble_eq_true rfl, Nat.le_of_ble_eq_true rfl⟩) hc (fun E9 ce10 a11 gx12 H locs hq hc hcell hcv hccl => ?_) (fun x2 g3 H locs hq hc => ?_)
  · replace h := hq
    refine vx_widen (k := 1) (n := 6) (Nat.le_of_ble_eq_true rfl) (Nat.le_of_ble_eq_true rfl) ?_
    rcases h with ⟨rfl, h⟩
    · refine vx_catch (name := "java/lang/IndexOutOfBoundsException") hown [] ⟨0, 9, 12, 28⟩ [] (hxt.trans rfl) (fun z hz => nomatch hz) (by decide) (by decide) (hts _ (List.mem_cons_of_mem _ (List.mem_append_left _ (List.mem_append_left _ (List.mem_append_left _ (List.mem_append_left _ (List.mem_append_left _ (List.mem_append_left _ (List.mem_append_left _ (List.mem_append_left _ (List.mem_append_left _ (List.mem_append_left _ (List.mem_append_left _ (List.mem_of_getElem? (i := 0) rfl)))))))))))))) (va_Nw.use rfl (hc.1.2.1 (.castable "java/lang/IndexOutOfBoundsException" "java/lang/IndexOutOfBoundsException") (by decide +kernel))) hcell hcv hccl ?_
      refine lv_astore_n (lv' := [(3, .ref a11), (0, .ref p0), (1, .int p1), (2, .ref p2)]) hx hb dL_byAlias_12 rfl hl (by decide) rfl (fun ls hl => ?_)
      refine lv_iconst (v := 1) hx hb dL_byAlias_13 (by decide) ?_
      exact g_reti (r := 1) CF hr hlk hc rfl h dL_byAlias_14
  · replace h := hq
    refine W.widen (k := 1) (n := 6) (Nat.le_of_ble_eq_true rfl) (Nat.le_of_ble_eq_true rfl) ?_
    refine lv_i2l hx hb dL_byAlias_7 rfl ?_
    obtain ⟨hk5, h⟩ := h
    obtain ⟨hi6, h⟩ := h
    refine g_last CF hc hk5 (x := x2.toInt64) hi6 dL_byAlias_8 (fun H locs hc => ?_)
    obtain ⟨g7, eg8⟩ : ∃ z, z = sW g3 p2 (Int32.toNatClampNeg 0) x2.toInt64 := ⟨_, rfl⟩
    have hc : gC D cA (gA g0 sz) s g7 H locs := by rw [eg8]; exact hc
    replace h := h g7 eg8
    refine lv_goto (tgt := 15) hx hb dL_byAlias_9 (by decide) ?_
    refine lv_iconst (v := 0) hx hb dL_byAlias_15 (by decide) ?_
    exact g_reti (r := 0) CF hr hlk hc rfl h dL_byAlias_16
def w_L_wouldScore (g0 : gS) (p0 : Nat) (p1 : Int32) (p2 : Int32) (p3 : Nat) (Q : Int32 → gS → Prop) : Prop :=
  gK g0 p0 = 11 ∧ (w_X10_wouldScore g0 p0 p1 p2 (fun x2 g3 => (gK g3 p3 = 23 ∧ (vp_in 0 (gN g3 p3) ∧ (∀ g7, g7 = sW g3 p3 (Int32.toNatClampNeg 0) x2.toInt64 → (Q 0 g7))))) (fun E gx12 => (E = "java/lang/IndexOutOfBoundsException" ∧ (Q 1 gx12))))
abbrev r_L_wouldScore : Room := { frames := 7, cells := 1, slots := 6, locals := 150 }
set_option maxHeartbeats 4000000 in
set_option maxRecDepth 100000 in
theorem c_L_wouldScore {l : Launch} {D : va_G} {cA : Nat → ClassId} {sz : Nat} {g0 : gS} {p0 : Nat} {p1 : Int32} {p2 : Int32} {p3 : Nat} {Q : Int32 → gS → Prop} (hflags : l.stackTraces = false) (h : w_L_wouldScore g0 p0 p1 p2 p3 Q) : Met l yL_wouldScore wsL_wouldScore r_L_wouldScore (va_Pc [.ref p0, .int p1, .int p2, .ref p3] (gPre D cA g0 sz)) (gQi D cA g0 sz (Q)) 1 6 (gA g0 sz) := by
  refine g_metH (cc := cL_wouldScore) (maxL := 5) (ret := (some .int)) (hh := [(0, 10, 13, 28)]) (own := RL) (by decide) rfl rfl (Nat.le_of_ble_eq_true rfl) ?_
  intro p e s m args below meth c ls CF hr hlk hnm hxt hc hl
  obtain ⟨hx, hb, hml, hown, hts⟩ := id CF
  have hl : lv_has ls 5 [(0, .ref p0), (1, .int p1), (2, .int p2), (3, .ref p3)] := hl
  show W p l e r_L_wouldScore s m args below meth c s.heap [] 0 0 (MQ below (gQi D cA g0 sz (Q)) args s 1 6 (gA g0 sz)) (F0 m 0 ls [])
  unfold w_L_wouldScore at h
  obtain ⟨H, hH0⟩ : ∃ z, z = s.heap := ⟨_, rfl⟩
  rw [← hH0] at hc ⊢
  obtain ⟨locs, hlc0⟩ : ∃ z : List Loc, z = [] := ⟨_, rfl⟩
  rw [← hlc0] at hc ⊢
  refine lv_aload_n hx hb dL_wouldScore_0 rfl (lv_at hl 3 rfl) ?_
  refine lv_iconst (v := 0) hx hb dL_wouldScore_1 (by decide) ?_
  refine lv_aload_n hx hb dL_wouldScore_2 rfl (lv_at hl 0 rfl) ?_
  refine lv_iload_n hx hb dL_wouldScore_3 rfl (lv_at hl 1 rfl) ?_
  refine lv_iload_n hx hb dL_wouldScore_4 rfl (lv_at hl 2 rfl) ?_
  obtain ⟨hk1, h⟩ := h
  refine g_xcalli (vx_runV (As := [.int p1, .int p2]) (rest := [.int 0, .ref p3]) CF (c_X10_wouldScore hflags h) (cwV 2 hts gL_wouldScore_X10_wouldScore rfl rfl rfl (by decide +kernel) ⟨Nat.le_of_ble_eq_true rfl, Nat.le_of_ble_eq_true rfl⟩) (hc.preV hk1 rfl (by decide)) rfl rfl hl.1 rfl (lv_room (Nat.le_of_ble_eq_true rfl)) dL_wouldScore_5 ⟨Nat.le_of_ble_eq_true rfl, Nat.le_of_ble_eq_true rfl⟩) hc (fun E9 ce10 a11 gx12 H locs hq hc hcell hcv hccl => ?_) (fun x2 g3 H locs hq hc => ?_)
  · replace h := hq
    refine vx_widen (k := 1) (n := 6) (Nat.le_of_ble_eq_true rfl) (Nat.le_of_ble_eq_true rfl) ?_
    rcases h with ⟨rfl, h⟩
    · refine vx_catch (name := "java/lang/IndexOutOfBoundsException") hown [] ⟨0, 10, 13, 28⟩ [] (hxt.trans rfl) (fun z hz => nomatch hz) (by decide) (by decide) (hts _ (List.mem_cons_of_mem _ (List.mem_append_left _ (List.mem_append_left _ (List.mem_append_left _ (List.mem_append_left _ (List.mem_append_left _ (List.mem_append_left _ (List.mem_append_left _ (List.mem_append_left _ (List.mem_append_left _ (List.mem_append_left _ (List.mem_append_left _ (List.mem_of_getElem? (i := 0) rfl)))))))))))))) (va_Nw.use rfl (hc.1.2.1 (.castable "java/lang/IndexOutOfBoundsException" "java/lang/IndexOutOfBoundsException") (by decide +kernel))) hcell hcv hccl ?_
      refine lv_astore (lv' := [(4, .ref a11), (0, .ref p0), (1, .int p1), (2, .int p2), (3, .ref p3)]) hx hb dL_wouldScore_13 hl (by decide) rfl (fun ls hl => ?_)
      refine lv_iconst (v := 1) hx hb dL_wouldScore_15 (by decide) ?_
      exact g_reti (r := 1) CF hr hlk hc rfl h dL_wouldScore_16
  · replace h := hq
    refine W.widen (k := 1) (n := 6) (Nat.le_of_ble_eq_true rfl) (Nat.le_of_ble_eq_true rfl) ?_
    refine lv_i2l hx hb dL_wouldScore_8 rfl ?_
    obtain ⟨hk5, h⟩ := h
    obtain ⟨hi6, h⟩ := h
    refine g_last CF hc hk5 (x := x2.toInt64) hi6 dL_wouldScore_9 (fun H locs hc => ?_)
    obtain ⟨g7, eg8⟩ : ∃ z, z = sW g3 p3 (Int32.toNatClampNeg 0) x2.toInt64 := ⟨_, rfl⟩
    have hc : gC D cA (gA g0 sz) s g7 H locs := by rw [eg8]; exact hc
    replace h := h g7 eg8
    refine lv_goto (tgt := 17) hx hb dL_wouldScore_10 (by decide) ?_
    refine lv_iconst (v := 0) hx hb dL_wouldScore_17 (by decide) ?_
    exact g_reti (r := 0) CF hr hlk hc rfl h dL_wouldScore_18
