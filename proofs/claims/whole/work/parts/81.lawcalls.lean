/-! THE LAW'S CALLS: what each leaves behind -/
section LAWC
variable {A : Nat → Nat} {D : Nat} {V σ : Rows} {n bf nn nr ns : Nat} {g : gS}
theorem so_bad {c : Int32} : SO σ (bad σ c) := ⟨Or.inr rfl, by show su σ 0 0 c 0 0 = c; rw [su_at, if_pos rfl], show tz σ c 0 1 = σ 0 1 from tz_0 (by decide)⟩
theorem so_good {v : Int32} : SO σ (good σ v) := ⟨Or.inl rfl, by show su σ 0 0 0 0 0 = 0; rw [su_at, if_pos rfl], show tz σ 0 0 1 = σ 0 1 from tz_0 (by decide)⟩
theorem so_put {v : Int32} {τ : Rows} (h0 : τ 0 0 = 0) (h1 : τ 0 1 = σ 0 1) : SO σ (0, v, τ) := ⟨Or.inl rfl, h0, h1⟩
theorem so_addO {f s a b c : Int32} : SO σ (addO σ f s a b c) := by
  unfold addO addF
  split
  · exact so_bad
  · exact so_put (by simp [su_at, su_row, tz]) (by simp [su_at, su_row, tz])
theorem srF_00 {j : Nat} : ∀ d, srF σ n j d 0 0 = 0
  | 0 => by rw [srF, su_at, if_neg (by decide)]; unfold tz; rw [su_at, if_pos rfl]
  | d + 1 => by
    rw [srF]
    split
    · exact srF_00 d
    · rw [shR_r (by decide) (by decide), su_at, if_neg (by decide)]; exact srF_00 d
theorem so_open {x y : Int32} : SO σ (S_open σ x y) := by
  unfold S_open
  (repeat' split) <;> first | exact so_bad | exact so_put (by simp [su_at, su_row, tz]) (by simp [su_at, su_row, tz])
theorem so_write {x y : Int32} : SO σ (S_write σ x y) := by
  unfold S_write
  (repeat' split) <;> first | exact so_bad | exact so_put (by simp [su_at, su_row, tz]) (by simp [su_at, su_row, tz])
theorem so_setAlias {x y : Int32} : SO σ (S_setAlias σ x y) := by
  unfold S_setAlias
  (repeat' split) <;> first | exact so_bad | exact so_put (by simp [su_at, su_row, tz]) (by simp [su_at, su_row, tz])
theorem so_setWeight {x y : Int32} : SO σ (S_setWeight σ x y) := by
  unfold S_setWeight
  (repeat' split) <;> first | exact so_bad | exact so_put (by simp [su_at, su_row, tz]) (by simp [su_at, su_row, tz])
theorem so_stateOf {x : Int32} : SO σ (S_stateOf σ x) := by
  unfold S_stateOf
  (repeat' split) <;> first | exact so_good | exact so_bad
theorem so_termAt {x y z : Int32} : SO σ (S_termAt σ x y z) := by
  unfold S_termAt
  (repeat' split) <;> first | exact so_good | exact so_bad
theorem so_tierOf {x : Int32} : SO σ (S_tierOf σ x) := by
  unfold S_tierOf
  (repeat' split) <;> first | exact so_good | exact so_bad
theorem so_sizeOf {x : Int32} : SO σ (S_sizeOf σ x) := by
  unfold S_sizeOf
  (repeat' split) <;> first | exact so_good | exact so_bad
theorem so_spread {x y : Int32} : SO σ (S_spread σ x y) := by
  unfold S_spread
  (repeat' split) <;> first | exact so_good | exact so_bad
theorem so_rare {x y : Int32} : SO σ (S_rare σ x y) := by
  unfold S_rare
  (repeat' split) <;> first | exact so_good | exact so_bad
theorem so_term {x y : Int32} : SO σ (S_term σ x y) := by
  unfold S_term
  (repeat' split) <;> first | exact so_bad | exact so_addO
theorem so_dated {x y : Int32} : SO σ (S_dated σ x y) := by
  unfold S_dated
  (repeat' split) <;> first | exact so_bad | exact so_addO
theorem so_kind {x : Int32} : SO σ (S_kind σ x) := by
  unfold S_kind
  (repeat' split) <;> first | exact so_bad | exact so_addO
theorem so_scaled {x y : Int32} : SO σ (S_scaled σ x y) := by
  unfold S_scaled
  (repeat' split) <;> first | exact so_bad | exact so_addO
theorem so_most {x y z : Int32} : SO σ (S_most σ x y z) := by
  unfold S_most
  (repeat' split) <;> first | exact so_bad | exact so_addO
theorem so_score {x y : Int32} : SO σ (S_score σ x y) := by
  unfold S_score
  (repeat' split) <;> first | exact so_good | exact so_bad
theorem so_found {x : Int32} : SO σ (S_found σ x) := by
  unfold S_found
  (repeat' split) <;> first | exact so_good | exact so_bad
theorem so_search {x : Int32} : SO σ (S_search σ x) := by
  unfold S_search
  split
  · exact so_bad
  · exact so_put (srF_00 _) ((srF_r _).2 1 (by decide) (by decide))
theorem so_resultAt {x : Int32} : SO σ (S_resultAt σ x) := by
  unfold S_resultAt
  (repeat' split) <;> first | exact so_good | exact so_bad
theorem so_scoreAt {x : Int32} : SO σ (S_scoreAt σ x) := by
  unfold S_scoreAt
  (repeat' split) <;> first | exact so_good | exact so_bad
theorem so_ofKind {x : Int32} : SO σ (S_ofKind σ x) := by
  unfold S_ofKind
  (repeat' split) <;> first | exact so_good | exact so_bad
theorem so_ofDates {x y : Int32} : SO σ (S_ofDates σ x y) := by
  unfold S_ofDates
  (repeat' split) <;> first | exact so_good | exact so_bad
theorem so_window {x y z w : Int32} : SO σ (S_window σ x y z w) := by
  unfold S_window
  (repeat' split) <;> first | exact so_good | exact so_bad
theorem so_like {x : Int32} : SO σ (S_like σ x) := by
  unfold S_like
  (repeat' split) <;> first | exact so_good | exact so_bad
theorem so_mate {x : Int32} : SO σ (S_mate σ x) := by
  unfold S_mate
  (repeat' split) <;> first | exact so_good | exact so_bad
theorem so_cost {x : Int32} : SO σ (S_cost σ x) := by
  unfold S_cost
  (repeat' split) <;> first | exact so_good | exact so_bad
theorem so_byAlias {x : Int32} : SO σ (S_byAlias σ x) := by
  unfold S_byAlias
  (repeat' split) <;> first | exact so_good | exact so_bad
theorem so_wouldScore {x y : Int32} : SO σ (S_wouldScore σ x y) := by
  unfold S_wouldScore
  (repeat' split) <;> first | exact so_good | exact so_bad
theorem so_pair {s x y : Int32} : SO σ (S_pair σ s x y) := by
  unfold S_pair
  split
  · exact so_bad
  · exact so_addO
theorem so_remove {x : Int32} : SO σ (S_remove σ x) := by
  unfold S_remove
  (repeat' split) <;> first | exact so_bad | exact so_put (by simp [su_at, su_row, tz]) (by simp [su_at, su_row, tz])
theorem so_setMute {x y : Int32} : SO σ (S_setMute σ x y) := by
  unfold S_setMute
  (repeat' split) <;> first | exact so_bad | exact so_put (by simp [su_at, su_row, tz]) (by simp [su_at, su_row, tz])
theorem so_near {x y z w : Int32} : SO σ (S_near σ x y z w) := by
  unfold S_near
  split
  · exact so_bad
  · split
    · exact so_bad
    · split
      · exact so_bad
      · unfold addF
        exact so_put (by simp [su_at, su_row, tz]) (by simp [su_at, su_row, tz])
theorem l_open (hc : CX A D V σ n bf nn nr ns g) {x y : Int32} {Q : Int32 → gS → Prop} (hQ : ∀ u g', PC (A 0) (A 73) (S_open σ x y) u g' → Q u g') : w_L_open g (A 0) x y (A 73) Q := by
  have hs := so_open (σ := σ) (x := x) (y := y)
  unfold w_L_open
  exact ⟨hc.1.1.k0, p_open hc (fun e g1 h1 => w_out h1 e hQ) (fun e => Or.inl ⟨rfl, hQ _ _ (pc_bad hc hs e (by decide))⟩) (fun e => Or.inr ⟨rfl, hQ _ _ (pc_bad hc hs e (by decide))⟩)⟩
theorem l_write (hc : CX A D V σ n bf nn nr ns g) {x y : Int32} {Q : Int32 → gS → Prop} (hQ : ∀ u g', PC (A 0) (A 73) (S_write σ x y) u g' → Q u g') : w_L_write g (A 0) x y (A 73) Q := by
  have hs := so_write (σ := σ) (x := x) (y := y)
  unfold w_L_write
  exact ⟨hc.1.1.k0, p_write hc (fun e g1 h1 => w_out h1 e hQ) (fun e => Or.inl ⟨rfl, hQ _ _ (pc_bad hc hs e (by decide))⟩) (fun e => Or.inr ⟨rfl, hQ _ _ (pc_bad hc hs e (by decide))⟩)⟩
theorem l_setAlias (hc : CX A D V σ n bf nn nr ns g) {x y : Int32} {Q : Int32 → gS → Prop} (hQ : ∀ u g', PC (A 0) (A 73) (S_setAlias σ x y) u g' → Q u g') : w_L_setAlias g (A 0) x y (A 73) Q := by
  have hs := so_setAlias (σ := σ) (x := x) (y := y)
  unfold w_L_setAlias
  exact ⟨hc.1.1.k0, p_setAlias hc (fun e g1 h1 => w_out h1 e hQ) (fun e => ⟨rfl, hQ _ _ (pc_bad hc hs e (by decide))⟩)⟩
theorem l_setWeight (hc : CX A D V σ n bf nn nr ns g) {x y : Int32} {Q : Int32 → gS → Prop} (hQ : ∀ u g', PC (A 0) (A 73) (S_setWeight σ x y) u g' → Q u g') : w_L_setWeight g (A 0) x y (A 73) Q := by
  have hs := so_setWeight (σ := σ) (x := x) (y := y)
  unfold w_L_setWeight
  exact ⟨hc.1.1.k0, p_setWeight hc (fun e g1 h1 => w_out h1 e hQ) (fun e => ⟨rfl, hQ _ _ (pc_bad hc hs e (by decide))⟩)⟩
theorem l_stateOf (hc : CX A D V σ n bf nn nr ns g) {x : Int32} {Q : Int32 → gS → Prop} (hQ : ∀ u g', PC (A 0) (A 73) (S_stateOf σ x) u g' → Q u g') : w_L_stateOf g (A 0) x (A 73) Q := by
  have hs := so_stateOf (σ := σ) (x := x)
  unfold w_L_stateOf
  have ht : (S_stateOf σ x).2.2 = tz σ (S_stateOf σ x).1 := by
    unfold S_stateOf
    (repeat' split) <;> rfl
  exact ⟨hc.1.1.k0, p_stateOf hc (fun e => w_out (by rw [ht]; exact (hc.tz _).cs) e hQ) (fun e => ⟨rfl, hQ _ _ (pc_bad hc hs e (by decide))⟩)⟩
theorem l_termAt (hc : CX A D V σ n bf nn nr ns g) {x y z : Int32} {Q : Int32 → gS → Prop} (hQ : ∀ u g', PC (A 0) (A 73) (S_termAt σ x y z) u g' → Q u g') : w_L_termAt g (A 0) x y z (A 73) Q := by
  have hs := so_termAt (σ := σ) (x := x) (y := y) (z := z)
  unfold w_L_termAt
  have ht : (S_termAt σ x y z).2.2 = tz σ (S_termAt σ x y z).1 := by
    unfold S_termAt
    (repeat' split) <;> rfl
  exact ⟨hc.1.1.k0, p_termAt hc (fun e => w_out (by rw [ht]; exact (hc.tz _).cs) e hQ) (fun e => ⟨rfl, hQ _ _ (pc_bad hc hs e (by decide))⟩)⟩
theorem l_tierOf (hc : CX A D V σ n bf nn nr ns g) {x : Int32} {Q : Int32 → gS → Prop} (hQ : ∀ u g', PC (A 0) (A 73) (S_tierOf σ x) u g' → Q u g') : w_L_tierOf g (A 0) x (A 73) Q := by
  have hs := so_tierOf (σ := σ) (x := x)
  unfold w_L_tierOf
  have ht : (S_tierOf σ x).2.2 = tz σ (S_tierOf σ x).1 := by
    unfold S_tierOf
    (repeat' split) <;> rfl
  exact ⟨hc.1.1.k0, p_tierOf hc (fun e => w_out (by rw [ht]; exact (hc.tz _).cs) e hQ) (fun e => ⟨rfl, hQ _ _ (pc_bad hc hs e (by decide))⟩)⟩
theorem l_sizeOf (hc : CX A D V σ n bf nn nr ns g) {x : Int32} {Q : Int32 → gS → Prop} (hQ : ∀ u g', PC (A 0) (A 73) (S_sizeOf σ x) u g' → Q u g') : w_L_sizeOf g (A 0) x (A 73) Q := by
  have hs := so_sizeOf (σ := σ) (x := x)
  unfold w_L_sizeOf
  have ht : (S_sizeOf σ x).2.2 = tz σ (S_sizeOf σ x).1 := by
    unfold S_sizeOf
    (repeat' split) <;> rfl
  exact ⟨hc.1.1.k0, p_sizeOf hc (fun e => w_out (by rw [ht]; exact (hc.tz _).cs) e hQ) (fun e => ⟨rfl, hQ _ _ (pc_bad hc hs e (by decide))⟩)⟩
theorem l_spread (hc : CX A D V σ n bf nn nr ns g) {x y : Int32} {Q : Int32 → gS → Prop} (hQ : ∀ u g', PC (A 0) (A 73) (S_spread σ x y) u g' → Q u g') : w_L_spread g (A 0) x y (A 73) Q := by
  have hs := so_spread (σ := σ) (x := x) (y := y)
  unfold w_L_spread
  have ht : (S_spread σ x y).2.2 = tz σ (S_spread σ x y).1 := by
    unfold S_spread
    (repeat' split) <;> rfl
  exact ⟨hc.1.1.k0, p_spread hc (fun e => w_out (by rw [ht]; exact (hc.tz _).cs) e hQ) (fun e => ⟨rfl, hQ _ _ (pc_bad hc hs e (by decide))⟩)⟩
theorem l_rare (hc : CX A D V σ n bf nn nr ns g) {x y : Int32} {Q : Int32 → gS → Prop} (hQ : ∀ u g', PC (A 0) (A 73) (S_rare σ x y) u g' → Q u g') : w_L_rare g (A 0) x y (A 73) Q := by
  have hs := so_rare (σ := σ) (x := x) (y := y)
  unfold w_L_rare
  have ht : (S_rare σ x y).2.2 = tz σ (S_rare σ x y).1 := by
    unfold S_rare
    (repeat' split) <;> rfl
  exact ⟨hc.1.1.k0, p_rare hc (fun e => w_out (by rw [ht]; exact (hc.tz _).cs) e hQ) (fun e => ⟨rfl, hQ _ _ (pc_bad hc hs e (by decide))⟩)⟩
theorem l_term (hc : CX A D V σ n bf nn nr ns g) {x y : Int32} {Q : Int32 → gS → Prop} (hQ : ∀ u g', PC (A 0) (A 73) (S_term σ x y) u g' → Q u g') : w_L_term g (A 0) x y (A 73) Q := by
  have hs := so_term (σ := σ) (x := x) (y := y)
  unfold w_L_term
  exact ⟨hc.1.1.k0, p_term hc (fun e g1 h1 => w_out h1 e hQ) (fun e => Or.inl ⟨rfl, hQ _ _ (pc_bad hc hs e (by decide))⟩) (fun e => Or.inr ⟨rfl, hQ _ _ (pc_bad hc hs e (by decide))⟩)⟩
theorem l_and (hc : CX A D V σ n bf nn nr ns g) {x y : Int32} {Q : Int32 → gS → Prop} (hQ : ∀ u g', PC (A 0) (A 73) (S_pair σ 1 x y) u g' → Q u g') : w_L_and g (A 0) x y (A 73) Q := by
  have hs := so_pair (σ := σ) (s := 1) (x := x) (y := y)
  unfold w_L_and
  unfold w_X10_and
  exact ⟨hc.1.1.k0, hc.1.1.k0, p_pair hc (by decide) (fun e g1 h1 => w_out h1 e hQ) (fun e => Or.inl ⟨rfl, hQ _ _ (pc_bad hc hs e (by decide))⟩) (fun e => Or.inr ⟨rfl, hQ _ _ (pc_bad hc hs e (by decide))⟩)⟩
theorem l_or (hc : CX A D V σ n bf nn nr ns g) {x y : Int32} {Q : Int32 → gS → Prop} (hQ : ∀ u g', PC (A 0) (A 73) (S_pair σ 2 x y) u g' → Q u g') : w_L_or g (A 0) x y (A 73) Q := by
  have hs := so_pair (σ := σ) (s := 2) (x := x) (y := y)
  unfold w_L_or
  unfold w_X10_or
  exact ⟨hc.1.1.k0, hc.1.1.k0, p_pair hc (by decide) (fun e g1 h1 => w_out h1 e hQ) (fun e => Or.inl ⟨rfl, hQ _ _ (pc_bad hc hs e (by decide))⟩) (fun e => Or.inr ⟨rfl, hQ _ _ (pc_bad hc hs e (by decide))⟩)⟩
theorem l_not (hc : CX A D V σ n bf nn nr ns g) {x y : Int32} {Q : Int32 → gS → Prop} (hQ : ∀ u g', PC (A 0) (A 73) (S_pair σ 3 x y) u g' → Q u g') : w_L_not g (A 0) x y (A 73) Q := by
  have hs := so_pair (σ := σ) (s := 3) (x := x) (y := y)
  unfold w_L_not
  unfold w_X10_not
  exact ⟨hc.1.1.k0, hc.1.1.k0, p_pair hc (by decide) (fun e g1 h1 => w_out h1 e hQ) (fun e => Or.inl ⟨rfl, hQ _ _ (pc_bad hc hs e (by decide))⟩) (fun e => Or.inr ⟨rfl, hQ _ _ (pc_bad hc hs e (by decide))⟩)⟩
theorem l_dated (hc : CX A D V σ n bf nn nr ns g) {x y : Int32} {Q : Int32 → gS → Prop} (hQ : ∀ u g', PC (A 0) (A 73) (S_dated σ x y) u g' → Q u g') : w_L_dated g (A 0) x y (A 73) Q := by
  have hs := so_dated (σ := σ) (x := x) (y := y)
  unfold w_L_dated
  exact ⟨hc.1.1.k0, p_dated hc (fun e g1 h1 => w_out h1 e hQ) (fun e => Or.inl ⟨rfl, hQ _ _ (pc_bad hc hs e (by decide))⟩) (fun e => Or.inr ⟨rfl, hQ _ _ (pc_bad hc hs e (by decide))⟩)⟩
theorem l_kind (hc : CX A D V σ n bf nn nr ns g) {x : Int32} {Q : Int32 → gS → Prop} (hQ : ∀ u g', PC (A 0) (A 73) (S_kind σ x) u g' → Q u g') : w_L_kind g (A 0) x (A 73) Q := by
  have hs := so_kind (σ := σ) (x := x)
  unfold w_L_kind
  exact ⟨hc.1.1.k0, p_kind hc (fun e g1 h1 => w_out h1 e hQ) (fun e => Or.inl ⟨rfl, hQ _ _ (pc_bad hc hs e (by decide))⟩) (fun e => Or.inr ⟨rfl, hQ _ _ (pc_bad hc hs e (by decide))⟩)⟩
theorem l_scaled (hc : CX A D V σ n bf nn nr ns g) {x y : Int32} {Q : Int32 → gS → Prop} (hQ : ∀ u g', PC (A 0) (A 73) (S_scaled σ x y) u g' → Q u g') : w_L_scaled g (A 0) x y (A 73) Q := by
  have hs := so_scaled (σ := σ) (x := x) (y := y)
  unfold w_L_scaled
  exact ⟨hc.1.1.k0, p_scaled hc (fun e g1 h1 => w_out h1 e hQ) (fun e => Or.inl ⟨rfl, hQ _ _ (pc_bad hc hs e (by decide))⟩) (fun e => Or.inr (Or.inl ⟨rfl, hQ _ _ (pc_bad hc hs e (by decide))⟩)) (fun e => Or.inr (Or.inr ⟨rfl, hQ _ _ (pc_bad hc hs e (by decide))⟩))⟩
theorem l_most (hc : CX A D V σ n bf nn nr ns g) {x y z : Int32} {Q : Int32 → gS → Prop} (hQ : ∀ u g', PC (A 0) (A 73) (S_most σ x y z) u g' → Q u g') : w_L_most g (A 0) x y z (A 73) Q := by
  have hs := so_most (σ := σ) (x := x) (y := y) (z := z)
  unfold w_L_most
  exact ⟨hc.1.1.k0, p_most hc (fun e g1 h1 => w_out h1 e hQ) (fun e => Or.inl ⟨rfl, hQ _ _ (pc_bad hc hs e (by decide))⟩) (fun e => Or.inr (Or.inl ⟨rfl, hQ _ _ (pc_bad hc hs e (by decide))⟩)) (fun e => Or.inr (Or.inr ⟨rfl, hQ _ _ (pc_bad hc hs e (by decide))⟩))⟩
theorem l_score (hc : CX A D V σ n bf nn nr ns g) {x y : Int32} {Q : Int32 → gS → Prop} (hQ : ∀ u g', PC (A 0) (A 73) (S_score σ x y) u g' → Q u g') : w_L_score g (A 0) x y (A 73) Q := by
  have hs := so_score (σ := σ) (x := x) (y := y)
  unfold w_L_score
  exact ⟨hc.1.1.k0, p_score hc (fun e g1 h1 => w_out h1 e hQ) (fun e => ⟨rfl, hQ _ _ (pc_bad hc hs e (by decide))⟩)⟩
theorem l_found (hc : CX A D V σ n bf nn nr ns g) {x : Int32} {Q : Int32 → gS → Prop} (hQ : ∀ u g', PC (A 0) (A 73) (S_found σ x) u g' → Q u g') : w_L_found g (A 0) x (A 73) Q := by
  have hs := so_found (σ := σ) (x := x)
  unfold w_L_found
  exact ⟨hc.1.1.k0, p_found hc (fun e g1 h1 => w_out h1 e hQ) (fun e => ⟨rfl, hQ _ _ (pc_bad hc hs e (by decide))⟩)⟩
theorem l_search (hc : CX A D V σ n bf nn nr ns g) {x : Int32} {Q : Int32 → gS → Prop} (hQ : ∀ u g', PC (A 0) (A 73) (S_search σ x) u g' → Q u g') : w_L_search g (A 0) x (A 73) Q := by
  have hs := so_search (σ := σ) (x := x)
  unfold w_L_search
  exact ⟨hc.1.1.k0, p_search hc (fun e g1 h1 => w_out h1 e hQ) (fun e => ⟨rfl, hQ _ _ (pc_bad hc hs e (by decide))⟩)⟩
theorem l_resultAt (hc : CX A D V σ n bf nn nr ns g) {x : Int32} {Q : Int32 → gS → Prop} (hQ : ∀ u g', PC (A 0) (A 73) (S_resultAt σ x) u g' → Q u g') : w_L_resultAt g (A 0) x (A 73) Q := by
  have hs := so_resultAt (σ := σ) (x := x)
  unfold w_L_resultAt
  have ht : (S_resultAt σ x).2.2 = tz σ (S_resultAt σ x).1 := by
    unfold S_resultAt
    (repeat' split) <;> rfl
  exact ⟨hc.1.1.k0, p_resultAt hc (fun e => w_out (by rw [ht]; exact (hc.tz _).cs) e hQ) (fun e => ⟨rfl, hQ _ _ (pc_bad hc hs e (by decide))⟩)⟩
theorem l_scoreAt (hc : CX A D V σ n bf nn nr ns g) {x : Int32} {Q : Int32 → gS → Prop} (hQ : ∀ u g', PC (A 0) (A 73) (S_scoreAt σ x) u g' → Q u g') : w_L_scoreAt g (A 0) x (A 73) Q := by
  have hs := so_scoreAt (σ := σ) (x := x)
  unfold w_L_scoreAt
  have ht : (S_scoreAt σ x).2.2 = tz σ (S_scoreAt σ x).1 := by
    unfold S_scoreAt
    (repeat' split) <;> rfl
  exact ⟨hc.1.1.k0, p_scoreAt hc (fun e => w_out (by rw [ht]; exact (hc.tz _).cs) e hQ) (fun e => ⟨rfl, hQ _ _ (pc_bad hc hs e (by decide))⟩)⟩
theorem l_ofKind (hc : CX A D V σ n bf nn nr ns g) {x : Int32} {Q : Int32 → gS → Prop} (hQ : ∀ u g', PC (A 0) (A 73) (S_ofKind σ x) u g' → Q u g') : w_L_ofKind g (A 0) x (A 73) Q := by
  have hs := so_ofKind (σ := σ) (x := x)
  unfold w_L_ofKind
  have ht : (S_ofKind σ x).2.2 = tz σ (S_ofKind σ x).1 := by
    unfold S_ofKind
    (repeat' split) <;> rfl
  exact ⟨hc.1.1.k0, p_ofKind hc (fun e => w_out (by rw [ht]; exact (hc.tz _).cs) e hQ) (fun e => ⟨rfl, hQ _ _ (pc_bad hc hs e (by decide))⟩)⟩
theorem l_ofDates (hc : CX A D V σ n bf nn nr ns g) {x y : Int32} {Q : Int32 → gS → Prop} (hQ : ∀ u g', PC (A 0) (A 73) (S_ofDates σ x y) u g' → Q u g') : w_L_ofDates g (A 0) x y (A 73) Q := by
  have hs := so_ofDates (σ := σ) (x := x) (y := y)
  unfold w_L_ofDates
  have ht : (S_ofDates σ x y).2.2 = tz σ (S_ofDates σ x y).1 := by
    unfold S_ofDates
    (repeat' split) <;> rfl
  exact ⟨hc.1.1.k0, p_ofDates hc (fun e => w_out (by rw [ht]; exact (hc.tz _).cs) e hQ) (fun e => ⟨rfl, hQ _ _ (pc_bad hc hs e (by decide))⟩)⟩
theorem l_window (hc : CX A D V σ n bf nn nr ns g) {x y z w : Int32} {Q : Int32 → gS → Prop} (hQ : ∀ u g', PC (A 0) (A 73) (S_window σ x y z w) u g' → Q u g') : w_L_window g (A 0) x y z w (A 73) Q := by
  have hs := so_window (σ := σ) (x := x) (y := y) (z := z) (w := w)
  unfold w_L_window
  exact ⟨hc.1.1.k0, p_window hc (fun e g1 h1 => w_out h1 e hQ) (fun e => Or.inl ⟨rfl, hQ _ _ (pc_bad hc hs e (by decide))⟩) (fun e => Or.inr ⟨rfl, hQ _ _ (pc_bad hc hs e (by decide))⟩)⟩
theorem l_like (hc : CX A D V σ n bf nn nr ns g) {x : Int32} {Q : Int32 → gS → Prop} (hQ : ∀ u g', PC (A 0) (A 73) (S_like σ x) u g' → Q u g') : w_L_like g (A 0) x (A 73) Q := by
  have hs := so_like (σ := σ) (x := x)
  unfold w_L_like
  exact ⟨hc.1.1.k0, p_like hc (fun e g1 h1 => w_out h1 e hQ) (fun e => ⟨rfl, hQ _ _ (pc_bad hc hs e (by decide))⟩)⟩
theorem l_mate (hc : CX A D V σ n bf nn nr ns g) {x : Int32} {Q : Int32 → gS → Prop} (hQ : ∀ u g', PC (A 0) (A 73) (S_mate σ x) u g' → Q u g') : w_L_mate g (A 0) x (A 73) Q := by
  have hs := so_mate (σ := σ) (x := x)
  unfold w_L_mate
  exact ⟨hc.1.1.k0, p_mate hc (fun e g1 h1 => w_out h1 e hQ) (fun e => ⟨rfl, hQ _ _ (pc_bad hc hs e (by decide))⟩)⟩
theorem l_cost (hc : CX A D V σ n bf nn nr ns g) {x : Int32} {Q : Int32 → gS → Prop} (hQ : ∀ u g', PC (A 0) (A 73) (S_cost σ x) u g' → Q u g') : w_L_cost g (A 0) x (A 73) Q := by
  have hs := so_cost (σ := σ) (x := x)
  unfold w_L_cost
  exact ⟨hc.1.1.k0, p_cost hc (fun e g1 h1 => w_out h1 e hQ) (fun e => ⟨rfl, hQ _ _ (pc_bad hc hs e (by decide))⟩)⟩
theorem l_byAlias (hc : CX A D V σ n bf nn nr ns g) {x : Int32} {Q : Int32 → gS → Prop} (hQ : ∀ u g', PC (A 0) (A 73) (S_byAlias σ x) u g' → Q u g') : w_L_byAlias g (A 0) x (A 73) Q := by
  have hs := so_byAlias (σ := σ) (x := x)
  unfold w_L_byAlias
  exact ⟨hc.1.1.k0, p_byAlias hc (fun e g1 h1 => w_out h1 e hQ) (fun e => ⟨rfl, hQ _ _ (pc_bad hc hs e (by decide))⟩)⟩
theorem l_wouldScore (hc : CX A D V σ n bf nn nr ns g) {x y : Int32} {Q : Int32 → gS → Prop} (hQ : ∀ u g', PC (A 0) (A 73) (S_wouldScore σ x y) u g' → Q u g') : w_L_wouldScore g (A 0) x y (A 73) Q := by
  have hs := so_wouldScore (σ := σ) (x := x) (y := y)
  unfold w_L_wouldScore
  exact ⟨hc.1.1.k0, p_wouldScore hc (fun e g1 h1 => w_out h1 e hQ) (fun e => ⟨rfl, hQ _ _ (pc_bad hc hs e (by decide))⟩)⟩
theorem l_close (hc : CX A D V σ n bf nn nr ns g) {Q : Int32 → gS → Prop} (hQ : ∀ u g', PC (A 0) (A 73) (S_close σ) u g' → Q u g') : w_L_close g (A 0) (A 73) Q := by
  unfold w_L_close
  refine ⟨hc.1.1.k0, p_close hc (fun e g1 h1 => w_out h1 e hQ) (fun e => ⟨rfl, hQ _ _ ⟨e.symm, ?_, fun q => absurd (by rw [← e]; exact q) (show ¬ (1 : Int32) = 0 by decide)⟩⟩)⟩
  have : (S_close σ).2.2 = tz σ 1 := by
    unfold S_close at e ⊢
    split
    · rfl
    · rename_i c
      rw [if_neg c] at e
      exact absurd e (show ¬ (0 : Int32) = 1 by decide)
  rw [this]; exact (hc.tz 1).cs
theorem l_remove (hc : CX A D V σ n bf nn nr ns g) {x : Int32} {Q : Int32 → gS → Prop} (hQ : ∀ u g', PZ (A 0) (A 73) (S_remove σ x) u g' → Q u g') : w_L_remove g (A 0) x (A 73) Q := by
  have hs := so_remove (σ := σ) (x := x)
  unfold w_L_remove b_L_remove_15
  exact ⟨hc.1.1.k0, p_remove hc (fun e g1 h1 => w_outz h1 e hQ) (fun e => ⟨rfl, hQ _ _ (pz_bad hc hs e (by decide))⟩)⟩
theorem l_setMute (hc : CX A D V σ n bf nn nr ns g) {x y : Int32} (hy : y = 0 ∨ y = 1) {Q : Int32 → gS → Prop} (hQ : ∀ u g', PZ (A 0) (A 73) (S_setMute σ x y) u g' → Q u g') : w_L_setMute g (A 0) x y (A 73) Q := by
  have hs := so_setMute (σ := σ) (x := x) (y := y)
  unfold w_L_setMute b_L_setMute_16
  exact ⟨hc.1.1.k0, p_setMute hc hy (fun e g1 h1 => w_outz h1 e hQ) (fun e => ⟨rfl, hQ _ _ (pz_bad hc hs e (by decide))⟩)⟩
theorem l_near (hc : CX A D V σ n bf nn nr ns g) {x y z w : Int32} (hw : w = 0 ∨ w = 1) {Q : Int32 → gS → Prop} (hQ : ∀ u g', PC (A 0) (A 73) (S_near σ x y z w) u g' → Q u g') : w_L_near g (A 0) x y z w (A 73) Q := by
  have hs := so_near (σ := σ) (x := x) (y := y) (z := z) (w := w)
  unfold w_L_near
  exact ⟨hc.1.1.k0, p_near hc hw (fun e g1 h1 => w_out h1 e hQ) (fun e => Or.inl ⟨rfl, hQ _ _ (pc_bad hc hs e (by decide))⟩) (fun e => Or.inr (Or.inl ⟨rfl, hQ _ _ (pc_bad hc hs e (by decide))⟩)) (fun e => Or.inr (Or.inr ⟨rfl, hQ _ _ (pc_bad hc hs e (by decide))⟩))⟩
end LAWC
