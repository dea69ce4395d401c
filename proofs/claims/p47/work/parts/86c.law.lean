def b_L_law_791 (g : gS) (gm : gS) (C : Nat) (S : Nat) (i1 : Int32) (r2 : Nat) (r3 : Nat) (i4 : Int32) (i6 : Int32) (i12 : Int32) (i15 : Int32) (b L : Nat) (xs : Nat → Int32) (k2 : gS → gS → Nat → Nat → Int32 → Prop) (k80 : gS → gS → Nat → Nat → Int32 → Prop) (k669 : gS → Nat → Nat → Int32 → Prop) : Prop :=
  k669 gm C S (i15 + 1)
def b_L_law_789 (g : gS) (gm : gS) (C : Nat) (S : Nat) (b L : Nat) (xs : Nat → Int32) (k2 : gS → gS → Nat → Nat → Int32 → Prop) (k80 : gS → gS → Nat → Nat → Int32 → Prop) (k669 : gS → Nat → Nat → Int32 → Prop) : Prop :=
  False
def l_L_law_669 (g : gS) (i1 : Int32) (r2 : Nat) (r3 : Nat) (i4 : Int32) (i6 : Int32) (i12 : Int32) (b L : Nat) (xs : Nat → Int32) (k2 : gS → gS → Nat → Nat → Int32 → Prop) (k80 : gS → gS → Nat → Nat → Int32 → Prop) (gm : gS) (C : Nat) (S : Nat) (i15 : Int32) (k669 : gS → Nat → Nat → Int32 → Prop) : Prop :=
  (i12 ≤ i15 → (k80 g gm C S (i4 + 1))) ∧ (¬ i12 ≤ i15 → (gK gm r3 = 11 ∧ ((C + 1 ≤ 600104 ∧ S + 6 ≤ 7301314) ∧ (w_X10_resultAt gm r3 i15 (fun x4 => (((C + 1) + 1 ≤ 600104 ∧ (S + 6) + 6 ≤ 7301314) ∧ (w_X10_scoreAt gm r3 i15 (fun x8 => ((((C + 1) + 1) + 1 ≤ 600104 ∧ ((S + 6) + 6) + 6 ≤ 7301314) ∧ (w_X10_score gm r3 i6 x4 (fun x12 m14 => ((x8 = x12 → ((i15 = 0 → (b_L_law_791 g m14 (((C + 1) + 1) + 1) (((S + 6) + 6) + 6) i1 r2 r3 i4 i6 i12 i15 b L xs k2 k80 k669)) ∧ (¬ i15 = 0 → (gK m14 r3 = 11 ∧ (((((C + 1) + 1) + 1) + 1 ≤ 600104 ∧ (((S + 6) + 6) + 6) + 6 ≤ 7301314) ∧ (w_X10_resultAt m14 r3 (i15 - 1) (fun x19 => ((((((C + 1) + 1) + 1) + 1) + 1 ≤ 600104 ∧ ((((S + 6) + 6) + 6) + 6) + 6 ≤ 7301314) ∧ (w_X10_scoreAt m14 r3 (i15 - 1) (fun x23 => (((((((C + 1) + 1) + 1) + 1) + 1) + 1 ≤ 600104 ∧ (((((S + 6) + 6) + 6) + 6) + 6) + 6 ≤ 7301314) ∧ (w_X10_scoreAt m14 r3 i15 (fun x27 => (((x23 - x27) < 0 → (b_L_law_789 g m14 ((((((C + 1) + 1) + 1) + 1) + 1) + 1) ((((((S + 6) + 6) + 6) + 6) + 6) + 6) b L xs k2 k80 k669)) ∧ (¬ (x23 - x27) < 0 → (((x23 - x27) = 0 → (gK g r2 = 12 ∧ (∃ y33, gR g r2 5 = some y33 ∧ (gK g y33 = 21 ∧ (vp_in x19 (gN g y33) ∧ (∃ y37, gR g r2 5 = some y37 ∧ (gK g y37 = 21 ∧ (vp_in x4 (gN g y37) ∧ (((gI g y33 (Int32.toNatClampNeg x19)) < (gI g y37 (Int32.toNatClampNeg x4)) → (b_L_law_789 g m14 ((((((C + 1) + 1) + 1) + 1) + 1) + 1) ((((((S + 6) + 6) + 6) + 6) + 6) + 6) b L xs k2 k80 k669)) ∧ (¬ (gI g y33 (Int32.toNatClampNeg x19)) < (gI g y37 (Int32.toNatClampNeg x4)) → (∃ y42, gR g r2 5 = some y42 ∧ (gK g y42 = 21 ∧ (vp_in x19 (gN g y42) ∧ (∃ y46, gR g r2 5 = some y46 ∧ (gK g y46 = 21 ∧ (vp_in x4 (gN g y46) ∧ (((gI g y42 (Int32.toNatClampNeg x19)) = (gI g y46 (Int32.toNatClampNeg x4)) → ((x19 < x4 → (b_L_law_791 g m14 ((((((C + 1) + 1) + 1) + 1) + 1) + 1) ((((((S + 6) + 6) + 6) + 6) + 6) + 6) i1 r2 r3 i4 i6 i12 i15 b L xs k2 k80 k669)) ∧ (¬ x19 < x4 → (b_L_law_789 g m14 ((((((C + 1) + 1) + 1) + 1) + 1) + 1) ((((((S + 6) + 6) + 6) + 6) + 6) + 6) b L xs k2 k80 k669)))) ∧ (¬ (gI g y42 (Int32.toNatClampNeg x19)) = (gI g y46 (Int32.toNatClampNeg x4)) → (b_L_law_791 g m14 ((((((C + 1) + 1) + 1) + 1) + 1) + 1) ((((((S + 6) + 6) + 6) + 6) + 6) + 6) i1 r2 r3 i4 i6 i12 i15 b L xs k2 k80 k669))))))))))))))))))) ∧ (¬ (x23 - x27) = 0 → (b_L_law_791 g m14 ((((((C + 1) + 1) + 1) + 1) + 1) + 1) ((((((S + 6) + 6) + 6) + 6) + 6) + 6) i1 r2 r3 i4 i6 i12 i15 b L xs k2 k80 k669)))))) (fun _ => False)))) (fun _ => False)))) (fun _ => False))))))) ∧ (¬ x8 = x12 → (False)))) (fun _ _ => False)))) (fun _ => False)))) (fun _ => False)))))
def b_L_law_664 (g : gS) (gm : gS) (C : Nat) (S : Nat) (b L : Nat) (xs : Nat → Int32) (k2 : gS → gS → Nat → Nat → Int32 → Prop) (k80 : gS → gS → Nat → Nat → Int32 → Prop) : Prop :=
  False
def l_L_law_620 (g : gS) (gm : gS) (i1 : Int32) (r2 : Nat) (r3 : Nat) (i4 : Int32) (i6 : Int32) (i12 : Int32) (b L : Nat) (xs : Nat → Int32) (k2 : gS → gS → Nat → Nat → Int32 → Prop) (k80 : gS → gS → Nat → Nat → Int32 → Prop) (C : Nat) (S : Nat) (i14 : Int32) (i15 : Int32) (k620 : Nat → Nat → Int32 → Int32 → Prop) : Prop :=
  (8 ≤ i15 → ((i14 = i12 → (gK gm r3 = 11 ∧ ((C + 1 ≤ 600104 ∧ S + 6 ≤ 7301314) ∧ (w_X10_ofDates gm r3 0 10000 (fun x56 => ((x56 = i12 → (lpx4 (l_L_law_669 g i1 r2 r3 i4 i6 i12 b L xs k2 k80) gm (C + 1) (S + 6) 0)) ∧ (¬ x56 = i12 → (b_L_law_664 g gm (C + 1) (S + 6) b L xs k2 k80)))) (fun _ => False))))) ∧ (¬ i14 = i12 → (b_L_law_664 g gm C S b L xs k2 k80)))) ∧ (¬ 8 ≤ i15 → (gK gm r3 = 11 ∧ ((C + 1 ≤ 600104 ∧ S + 6 ≤ 7301314) ∧ (w_X10_ofKind gm r3 i15 (fun x62 => (k620 (C + 1) (S + 6) (i14 + x62) (i15 + 1))) (fun _ => False)))))
def b_L_law_612 (g : gS) (gm : gS) (C : Nat) (S : Nat) (b L : Nat) (xs : Nat → Int32) (k2 : gS → gS → Nat → Nat → Int32 → Prop) (k80 : gS → gS → Nat → Nat → Int32 → Prop) : Prop :=
  False
def b_L_law_548 (g : gS) (gm : gS) (C : Nat) (S : Nat) (i1 : Int32) (r2 : Nat) (r3 : Nat) (i4 : Int32) (i6 : Int32) (j10 : Int64) (i12 : Int32) (i14 : Int32) (is0 : Int32) (is1 : Int32) (b L : Nat) (xs : Nat → Int32) (k2 : gS → gS → Nat → Nat → Int32 → Prop) (k80 : gS → gS → Nat → Nat → Int32 → Prop) (k453 : gS → Nat → Nat → Int32 → Int32 → Prop) : Prop :=
  k453 gm C S (is0 + is1) (i14 + 1)
def b_L_law_536 (g : gS) (gm : gS) (C : Nat) (S : Nat) (i1 : Int32) (r2 : Nat) (r3 : Nat) (i4 : Int32) (i6 : Int32) (j10 : Int64) (i12 : Int32) (i13 : Int32) (i14 : Int32) (i15 : Int32) (b L : Nat) (xs : Nat → Int32) (k2 : gS → gS → Nat → Nat → Int32 → Prop) (k80 : gS → gS → Nat → Nat → Int32 → Prop) (k453 : gS → Nat → Nat → Int32 → Int32 → Prop) : Prop :=
  (0 ≤ i15 → (b_L_law_548 g gm C S i1 r2 r3 i4 i6 j10 i12 i14 i13 1 b L xs k2 k80 k453)) ∧ (¬ 0 ≤ i15 → (b_L_law_548 g gm C S i1 r2 r3 i4 i6 j10 i12 i14 i13 0 b L xs k2 k80 k453))
def b_L_law_534 (g : gS) (gm : gS) (C : Nat) (S : Nat) (b L : Nat) (xs : Nat → Int32) (k2 : gS → gS → Nat → Nat → Int32 → Prop) (k80 : gS → gS → Nat → Nat → Int32 → Prop) (k453 : gS → Nat → Nat → Int32 → Int32 → Prop) : Prop :=
  False
def b_L_law_487 (g : gS) (gm : gS) (C : Nat) (S : Nat) (i1 : Int32) (r2 : Nat) (r3 : Nat) (i4 : Int32) (i6 : Int32) (j10 : Int64) (i12 : Int32) (i13 : Int32) (i14 : Int32) (i15 : Int32) (b L : Nat) (xs : Nat → Int32) (k2 : gS → gS → Nat → Nat → Int32 → Prop) (k80 : gS → gS → Nat → Nat → Int32 → Prop) (k453 : gS → Nat → Nat → Int32 → Int32 → Prop) : Prop :=
  (i15 < (-1) → (b_L_law_534 g gm C S b L xs k2 k80 k453)) ∧ (¬ i15 < (-1) → ((1000000 < i15 → (b_L_law_534 g gm C S b L xs k2 k80 k453)) ∧ (¬ 1000000 < i15 → (gK gm r3 = 11 ∧ ((C + 1 ≤ 600104 ∧ S + 6 ≤ 7301314) ∧ (w_X10_like gm r3 i14 (fun x70 m72 => ((x70 = i14 → (b_L_law_534 g m72 (C + 1) (S + 6) b L xs k2 k80 k453)) ∧ (¬ x70 = i14 → (gK m72 r3 = 11 ∧ (((C + 1) + 1 ≤ 600104 ∧ (S + 6) + 6 ≤ 7301314) ∧ (w_X10_like m72 r3 i14 (fun x76 m78 => ((x76 < 0 → (b_L_law_536 g m78 ((C + 1) + 1) ((S + 6) + 6) i1 r2 r3 i4 i6 j10 i12 i13 i14 i15 b L xs k2 k80 k453)) ∧ (¬ x76 < 0 → (gK m78 r3 = 11 ∧ ((((C + 1) + 1) + 1 ≤ 600104 ∧ ((S + 6) + 6) + 6 ≤ 7301314) ∧ (w_X10_like m78 r3 i14 (fun x82 m84 => (gK m84 r3 = 11 ∧ (((((C + 1) + 1) + 1) + 1 ≤ 600104 ∧ (((S + 6) + 6) + 6) + 6 ≤ 7301314) ∧ (w_X10_stateOf m84 r3 x82 (fun x87 => ((x87 = 2 → (b_L_law_536 g m84 ((((C + 1) + 1) + 1) + 1) ((((S + 6) + 6) + 6) + 6) i1 r2 r3 i4 i6 j10 i12 i13 i14 i15 b L xs k2 k80 k453)) ∧ (¬ x87 = 2 → (b_L_law_534 g m84 ((((C + 1) + 1) + 1) + 1) ((((S + 6) + 6) + 6) + 6) b L xs k2 k80 k453)))) (fun _ => False))))) (fun _ _ => False))))))) (fun _ _ => False))))))) (fun _ _ => False)))))))
def l_L_law_453 (g : gS) (i1 : Int32) (r2 : Nat) (r3 : Nat) (i4 : Int32) (i6 : Int32) (j10 : Int64) (i12 : Int32) (b L : Nat) (xs : Nat → Int32) (k2 : gS → gS → Nat → Nat → Int32 → Prop) (k80 : gS → gS → Nat → Nat → Int32 → Prop) (gm : gS) (C : Nat) (S : Nat) (i13 : Int32) (i14 : Int32) (k453 : gS → Nat → Nat → Int32 → Int32 → Prop) : Prop :=
  gK g r2 = 12 ∧ (((gI g r2 3) ≤ i14 → ((i13 = i12 → (gK gm r3 = 11 ∧ ((C + 1 ≤ 600104 ∧ S + 6 ≤ 7301314) ∧ (w_X10_byAlias gm r3 i6 (fun x96 m98 => ((x96 = 0 → (gK m98 r3 = 11 ∧ (((C + 1) + 1 ≤ 600104 ∧ (S + 6) + 6 ≤ 7301314) ∧ (w_X10_cost m98 r3 i6 (fun x102 m104 => ((x102 < 0 → (b_L_law_612 g m104 ((C + 1) + 1) ((S + 6) + 6) b L xs k2 k80)) ∧ (¬ x102 < 0 → (gK m104 r3 = 11 ∧ (w_X10_digest m104 r3 (fun z107 m109 => (((lg_cmp z107 j10) = 0 → (gK m109 r3 = 11 ∧ ((((C + 1) + 1) + 1 ≤ 600104 ∧ ((S + 6) + 6) + 6 ≤ 7301314) ∧ (w_X10_search m109 r3 i6 (fun x113 m115 => ((x113 = i12 → (gK m115 r3 = 11 ∧ (w_X10_results m115 r3 (fun x118 => ((x118 = i12 → (lpx4 (l_L_law_620 g m115 i1 r2 r3 i4 i6 i12 b L xs k2 k80) (((C + 1) + 1) + 1) (((S + 6) + 6) + 6) 0 0)) ∧ (¬ x118 = i12 → (b_L_law_612 g m115 (((C + 1) + 1) + 1) (((S + 6) + 6) + 6) b L xs k2 k80))))))) ∧ (¬ x113 = i12 → (b_L_law_612 g m115 (((C + 1) + 1) + 1) (((S + 6) + 6) + 6) b L xs k2 k80)))) (fun _ _ => False))))) ∧ (¬ (lg_cmp z107 j10) = 0 → (b_L_law_612 g m109 ((C + 1) + 1) ((S + 6) + 6) b L xs k2 k80))))))))) (fun _ _ => False))))) ∧ (¬ x96 = 0 → (b_L_law_612 g m98 (C + 1) (S + 6) b L xs k2 k80)))) (fun _ _ => False))))) ∧ (¬ i13 = i12 → (b_L_law_612 g gm C S b L xs k2 k80)))) ∧ (¬ (gI g r2 3) ≤ i14 → (gK gm r3 = 11 ∧ ((C + 1 ≤ 600104 ∧ S + 6 ≤ 7301314) ∧ (w_X10_score gm r3 i6 i14 (fun x124 m126 => ((x124 < 0 → (b_L_law_487 g m126 (C + 1) (S + 6) i1 r2 r3 i4 i6 j10 i12 i13 i14 x124 b L xs k2 k80 k453)) ∧ (¬ x124 < 0 → (gK m126 r3 = 11 ∧ (((C + 1) + 1 ≤ 600104 ∧ (S + 6) + 6 ≤ 7301314) ∧ (w_X10_stateOf m126 r3 i14 (fun x130 => ((x130 = 2 → (b_L_law_487 g m126 ((C + 1) + 1) ((S + 6) + 6) i1 r2 r3 i4 i6 j10 i12 i13 i14 x124 b L xs k2 k80 k453)) ∧ (¬ x130 = 2 → (b_L_law_534 g m126 ((C + 1) + 1) ((S + 6) + 6) b L xs k2 k80 k453)))) (fun _ => False))))))) (fun _ _ => False))))))
def b_L_law_431 (g : gS) (gm : gS) (C : Nat) (S : Nat) (b L : Nat) (xs : Nat → Int32) (k2 : gS → gS → Nat → Nat → Int32 → Prop) (k80 : gS → gS → Nat → Nat → Int32 → Prop) : Prop :=
  False
def b_L_law_427 (g : gS) (gm : gS) (C : Nat) (S : Nat) (i1 : Int32) (r2 : Nat) (r3 : Nat) (i4 : Int32) (i6 : Int32) (ds0 : UInt64) (ds1 : UInt64) (b L : Nat) (xs : Nat → Int32) (k2 : gS → gS → Nat → Nat → Int32 → Prop) (k80 : gS → gS → Nat → Nat → Int32 → Prop) : Prop :=
  ((Op.cmpValue (FP.dcmp ds0 ds1) .l) = 0 → (gK gm r3 = 11 ∧ (w_X10_digest gm r3 (fun z136 m138 => (gK m138 r3 = 11 ∧ ((C + 1 ≤ 600104 ∧ S + 6 ≤ 7301314) ∧ (w_X10_found m138 r3 i6 (fun x141 m143 => (lpx5 (l_L_law_453 g i1 r2 r3 i4 i6 z136 x141 b L xs k2 k80) m143 (C + 1) (S + 6) 0 0)) (fun _ _ => False)))))))) ∧ (¬ (Op.cmpValue (FP.dcmp ds0 ds1) .l) = 0 → (b_L_law_431 g gm C S b L xs k2 k80))
def b_L_law_388 (g : gS) (gm : gS) (C : Nat) (S : Nat) (i1 : Int32) (r2 : Nat) (r3 : Nat) (i4 : Int32) (i6 : Int32) (i8 : Int32) (i10 : Int32) (is0 : Int32) (is1 : Int32) (b L : Nat) (xs : Nat → Int32) (k2 : gS → gS → Nat → Nat → Int32 → Prop) (k80 : gS → gS → Nat → Nat → Int32 → Prop) (k362 : Nat → Nat → Int32 → Int32 → Prop) : Prop :=
  k362 C S (is0 + is1) (i10 + 1)
def l_L_law_362 (g : gS) (gm : gS) (i1 : Int32) (r2 : Nat) (r3 : Nat) (i4 : Int32) (i6 : Int32) (i8 : Int32) (b L : Nat) (xs : Nat → Int32) (k2 : gS → gS → Nat → Nat → Int32 → Prop) (k80 : gS → gS → Nat → Nat → Int32 → Prop) (C : Nat) (S : Nat) (i9 : Int32) (i10 : Int32) (k362 : Nat → Nat → Int32 → Int32 → Prop) : Prop :=
  gK g r2 = 12 ∧ (((gI g r2 3) ≤ i10 → ((i8 < i9 → (b_L_law_431 g gm C S b L xs k2 k80)) ∧ (¬ i8 < i9 → (gK gm r3 = 11 ∧ (w_X10_waste gm r3 (fun u148 => ((i8 = 0 → (b_L_law_427 g gm C S i1 r2 r3 i4 i6 u148 (0 : UInt64) b L xs k2 k80)) ∧ (¬ i8 = 0 → (vf_n64 (FP.ddiv (FP.i2d (i8 - i9)) (FP.i2d i8)) ∧ (b_L_law_427 g gm C S i1 r2 r3 i4 i6 u148 (FP.ddiv (FP.i2d (i8 - i9)) (FP.i2d i8)) b L xs k2 k80)))))))))) ∧ (¬ (gI g r2 3) ≤ i10 → (gK gm r3 = 11 ∧ ((C + 1 ≤ 600104 ∧ S + 6 ≤ 7301314) ∧ (w_X10_stateOf gm r3 i10 (fun x155 => ((x155 = 2 → (b_L_law_388 g gm (C + 1) (S + 6) i1 r2 r3 i4 i6 i8 i10 i9 1 b L xs k2 k80 k362)) ∧ (¬ x155 = 2 → (b_L_law_388 g gm (C + 1) (S + 6) i1 r2 r3 i4 i6 i8 i10 i9 0 b L xs k2 k80 k362)))) (fun _ => False))))))
def l_L_law_332 (g : gS) (gm : gS) (i1 : Int32) (r2 : Nat) (r3 : Nat) (i4 : Int32) (i6 : Int32) (i7 : Int32) (b L : Nat) (xs : Nat → Int32) (k2 : gS → gS → Nat → Nat → Int32 → Prop) (k80 : gS → gS → Nat → Nat → Int32 → Prop) (C : Nat) (S : Nat) (i8 : Int32) (i9 : Int32) (k332 : Nat → Nat → Int32 → Int32 → Prop) : Prop :=
  (i7 ≤ i9 → (lpx4 (l_L_law_362 g gm i1 r2 r3 i4 i6 i8 b L xs k2 k80) C S 0 0)) ∧ (¬ i7 ≤ i9 → (gK gm r3 = 11 ∧ ((C + 1 ≤ 600104 ∧ S + 6 ≤ 7301314) ∧ (w_X10_sizeOf gm r3 i9 (fun x162 => (k332 (C + 1) (S + 6) (i8 + x162) (i9 + 1))) (fun _ => False)))))
def b_L_law_326 (g : gS) (gm : gS) (C : Nat) (S : Nat) (i1 : Int32) (r2 : Nat) (r3 : Nat) (i4 : Int32) (i6 : Int32) (i7 : Int32) (b L : Nat) (xs : Nat → Int32) (k2 : gS → gS → Nat → Nat → Int32 → Prop) (k80 : gS → gS → Nat → Nat → Int32 → Prop) : Prop :=
  lpx4 (l_L_law_332 g gm i1 r2 r3 i4 i6 i7 b L xs k2 k80) C S 0 0
def b_L_law_268 (g : gS) (gm : gS) (C : Nat) (S : Nat) (i1 : Int32) (r2 : Nat) (r3 : Nat) (i4 : Int32) (i5 : Int32) (i6 : Int32) (b L : Nat) (xs : Nat → Int32) (k2 : gS → gS → Nat → Nat → Int32 → Prop) (k80 : gS → gS → Nat → Nat → Int32 → Prop) : Prop :=
  gK gm r3 = 11 ∧ (w_X10_segments gm r3 (fun x166 => ((4 ≤ i5 → (b_L_law_326 g gm C S i1 r2 r3 i4 i6 x166 b L xs k2 k80)) ∧ (¬ 4 ≤ i5 → ((x166 ≤ 2 → (b_L_law_326 g gm C S i1 r2 r3 i4 i6 x166 b L xs k2 k80)) ∧ (¬ x166 ≤ 2 → ((C + 1 ≤ 600104 ∧ S + 6 ≤ 7301314) ∧ (w_X10_tierOf gm r3 (x166 - 1) (fun x172 => (((C + 1) + 1 ≤ 600104 ∧ (S + 6) + 6 ≤ 7301314) ∧ (w_X10_tierOf gm r3 (x166 - 2) (fun x176 => ((x172 = x176 → ((((C + 1) + 1) + 1 ≤ 600104 ∧ ((S + 6) + 6) + 6 ≤ 7301314) ∧ (w_X10_tierOf gm r3 (x166 - 2) (fun x181 => (((((C + 1) + 1) + 1) + 1 ≤ 600104 ∧ (((S + 6) + 6) + 6) + 6 ≤ 7301314) ∧ (w_X10_tierOf gm r3 (x166 - 3) (fun x185 => ((x181 = x185 → (False)) ∧ (¬ x181 = x185 → (b_L_law_326 g gm ((((C + 1) + 1) + 1) + 1) ((((S + 6) + 6) + 6) + 6) i1 r2 r3 i4 i6 x166 b L xs k2 k80)))) (fun _ => False)))) (fun _ => False)))) ∧ (¬ x172 = x176 → (b_L_law_326 g gm ((C + 1) + 1) ((S + 6) + 6) i1 r2 r3 i4 i6 x166 b L xs k2 k80)))) (fun _ => False)))) (fun _ => False)))))))))
def l_L_law_235 (g : gS) (i1 : Int32) (r2 : Nat) (r3 : Nat) (i4 : Int32) (i5 : Int32) (i6 : Int32) (r7 : Nat) (b L : Nat) (xs : Nat → Int32) (k2 : gS → gS → Nat → Nat → Int32 → Prop) (k80 : gS → gS → Nat → Nat → Int32 → Prop) (gm : gS) (C : Nat) (S : Nat) (i9 : Int32) (k235 : gS → Nat → Nat → Int32 → Prop) : Prop :=
  gK g r2 = 12 ∧ (((gI g r2 3) ≤ i9 → (b_L_law_268 g gm C S i1 r2 r3 i4 i5 i6 b L xs k2 k80)) ∧ (¬ (gI g r2 3) ≤ i9 → (gK gm r3 = 11 ∧ ((C + 1 ≤ 600104 ∧ S + 6 ≤ 7301314) ∧ (w_X10_score gm r3 i6 i9 (fun x193 m195 => (gK g r7 = 21 ∧ (vp_in i9 (gN g r7) ∧ ((x193 = (gI g r7 (Int32.toNatClampNeg i9)) → (k235 m195 (C + 1) (S + 6) (i9 + 1))) ∧ (¬ x193 = (gI g r7 (Int32.toNatClampNeg i9)) → (False)))))) (fun _ _ => False))))))
def b_L_law_230 (g : gS) (gm : gS) (C : Nat) (S : Nat) (b L : Nat) (xs : Nat → Int32) (k2 : gS → gS → Nat → Nat → Int32 → Prop) (k80 : gS → gS → Nat → Nat → Int32 → Prop) : Prop :=
  False
def l_L_law_169 (i1 : Int32) (r2 : Nat) (r3 : Nat) (i4 : Int32) (i5 : Int32) (i6 : Int32) (r7 : Nat) (b L : Nat) (xs : Nat → Int32) (k2 : gS → gS → Nat → Nat → Int32 → Prop) (k80 : gS → gS → Nat → Nat → Int32 → Prop) (g : gS) (gm : gS) (C : Nat) (S : Nat) (i8 : Int32) (k169 : gS → gS → Nat → Nat → Int32 → Prop) : Prop :=
  gK g r2 = 12 ∧ (((gI g r2 3) ≤ i8 → (gK gm r3 = 11 ∧ ((C + 1 ≤ 600104 ∧ S + 6 ≤ 7301314) ∧ (w_X10_found gm r3 i6 (fun x203 m205 => (((C + 1) + 220 ≤ 600104 ∧ (S + 6) + 14000 ≤ 7301314) ∧ (w_X11_flush g m205 r2 b L xs 220 14000 (fun x207 g208 m209 => ((x207 = 0 → (b_L_law_230 g208 m209 ((C + 1) + 220) ((S + 6) + 14000) b L xs k2 k80)) ∧ (¬ x207 = 0 → (gK g208 r2 = 12 ∧ ((((C + 1) + 220) + 20 ≤ 600104 ∧ ((S + 6) + 14000) + 1300 ≤ 7301314) ∧ (w_X11_compact g208 m209 r2 b L xs 20 1300 (fun x213 g214 m215 => ((x213 = 0 → (b_L_law_230 g214 m215 (((C + 1) + 220) + 20) (((S + 6) + 14000) + 1300) b L xs k2 k80)) ∧ (¬ x213 = 0 → (gK m215 r3 = 11 ∧ (((((C + 1) + 220) + 20) + 1 ≤ 600104 ∧ (((S + 6) + 14000) + 1300) + 6 ≤ 7301314) ∧ (w_X10_found m215 r3 i6 (fun x219 m221 => ((x203 ≤ x219 → (lpx4 (l_L_law_235 g214 i1 r2 r3 i4 i5 i6 r7 b L xs k2 k80) m221 ((((C + 1) + 220) + 20) + 1) ((((S + 6) + 14000) + 1300) + 6) 0)) ∧ (¬ x203 ≤ x219 → (b_L_law_230 g214 m221 ((((C + 1) + 220) + 20) + 1) ((((S + 6) + 14000) + 1300) + 6) b L xs k2 k80)))) (fun _ _ => False)))))))))))))))) (fun _ _ => False))))) ∧ (¬ (gI g r2 3) ≤ i8 → (gK gm r3 = 11 ∧ ((C + 1 ≤ 600104 ∧ S + 6 ≤ 7301314) ∧ (w_X10_wouldScore gm r3 i6 i8 (fun x225 m227 => (gK g r7 = 21 ∧ (vp_in i8 (gN g r7) ∧ (∀ g230, g230 = sU g r7 (Int32.toNatClampNeg i8) x225 → (k169 g230 m227 (C + 1) (S + 6) (i8 + 1)))))) (fun _ _ => False))))))
def b_L_law_152 (g : gS) (gm : gS) (C : Nat) (S : Nat) (i1 : Int32) (r2 : Nat) (r3 : Nat) (i4 : Int32) (i5 : Int32) (i6 : Int32) (b L : Nat) (xs : Nat → Int32) (k2 : gS → gS → Nat → Nat → Int32 → Prop) (k80 : gS → gS → Nat → Nat → Int32 → Prop) : Prop :=
  (i5 = 5 → (gK g r2 = 12 ∧ ((¬ (gI g r2 3) < 0 ∧ (Int32.toNatClampNeg (gI g r2 3)) ≤ 100000) ∧ ((C + 1 ≤ 600104 ∧ S + (Int32.toNatClampNeg (gI g r2 3)) ≤ 7301314) ∧ (∀ q234, gK g q234 = 0 → (∀ g239, g239 = sNew g q234 21 (Int32.toNatClampNeg (gI g r2 3)) → (lpx5 (l_L_law_169 i1 r2 r3 i4 i5 i6 q234 b L xs k2 k80) g239 gm (C + 1) (S + (Int32.toNatClampNeg (gI g r2 3))) 0))))))) ∧ (¬ i5 = 5 → (b_L_law_268 g gm C S i1 r2 r3 i4 i5 i6 b L xs k2 k80))
def b_L_law_150 (g : gS) (gm : gS) (C : Nat) (S : Nat) (b L : Nat) (xs : Nat → Int32) (k2 : gS → gS → Nat → Nat → Int32 → Prop) (k80 : gS → gS → Nat → Nat → Int32 → Prop) : Prop :=
  False
def b_L_law_137 (g : gS) (gm : gS) (C : Nat) (S : Nat) (i1 : Int32) (r2 : Nat) (r3 : Nat) (i4 : Int32) (i5 : Int32) (i6 : Int32) (b L : Nat) (xs : Nat → Int32) (k2 : gS → gS → Nat → Nat → Int32 → Prop) (k80 : gS → gS → Nat → Nat → Int32 → Prop) : Prop :=
  (i5 = 4 → (gK g r2 = 12 ∧ ((C + 2 ≤ 600104 ∧ S + 12 ≤ 7301314) ∧ (w_X11_remove g gm r2 b L xs 2 12 (fun x244 g245 m246 => ((x244 = 0 → (b_L_law_150 g245 m246 (C + 2) (S + 12) b L xs k2 k80)) ∧ (¬ x244 = 0 → (b_L_law_152 g245 m246 (C + 2) (S + 12) i1 r2 r3 i4 i5 i6 b L xs k2 k80)))))))) ∧ (¬ i5 = 4 → (b_L_law_152 g gm C S i1 r2 r3 i4 i5 i6 b L xs k2 k80))
def b_L_law_118 (g : gS) (gm : gS) (C : Nat) (S : Nat) (i1 : Int32) (r2 : Nat) (r3 : Nat) (i4 : Int32) (i5 : Int32) (i6 : Int32) (b L : Nat) (xs : Nat → Int32) (k2 : gS → gS → Nat → Nat → Int32 → Prop) (k80 : gS → gS → Nat → Nat → Int32 → Prop) : Prop :=
  (i5 ≤ 1 → (b_L_law_137 g gm C S i1 r2 r3 i4 i5 i6 b L xs k2 k80)) ∧ (¬ i5 ≤ 1 → ((4 ≤ i5 → (b_L_law_137 g gm C S i1 r2 r3 i4 i5 i6 b L xs k2 k80)) ∧ (¬ 4 ≤ i5 → (gK g r2 = 12 ∧ ((C + 220 ≤ 600104 ∧ S + 14000 ≤ 7301314) ∧ (w_X11_flush g gm r2 b L xs 220 14000 (fun x252 g253 m254 => ((x252 = 0 → (b_L_law_150 g253 m254 (C + 220) (S + 14000) b L xs k2 k80)) ∧ (¬ x252 = 0 → (b_L_law_137 g253 m254 (C + 220) (S + 14000) i1 r2 r3 i4 i5 i6 b L xs k2 k80))))))))))
def l_L_law_80 (i1 : Int32) (r2 : Nat) (r3 : Nat) (b L : Nat) (xs : Nat → Int32) (k2 : gS → gS → Nat → Nat → Int32 → Prop) (g : gS) (gm : gS) (C : Nat) (S : Nat) (i4 : Int32) (k80 : gS → gS → Nat → Nat → Int32 → Prop) : Prop :=
  (10 ≤ i4 → (k2 g gm C S (i1 + 1))) ∧ (¬ 10 ≤ i4 → (gK g r2 = 12 ∧ (w_X11_draw g gm r2 6 b L xs (fun x258 g259 m260 => (gK g259 r2 = 12 ∧ (w_X11_draw g259 gm r2 (gI g259 r2 13) b L xs (fun x262 g263 m264 => ((2 ≤ x258 → (b_L_law_118 g263 gm C S i1 r2 r3 i4 x258 x262 b L xs k2 k80)) ∧ (¬ 2 ≤ x258 → (gK g263 r2 = 12 ∧ ((C + 60 ≤ 600104 ∧ S + 3000 ≤ 7301314) ∧ (w_X11_add g263 gm r2 b L xs 60 3000 (fun x268 g269 m270 => ((x268 = 0 → (b_L_law_150 g269 m270 (C + 60) (S + 3000) b L xs k2 k80)) ∧ (¬ x268 = 0 → (b_L_law_118 g269 m270 (C + 60) (S + 3000) i1 r2 r3 i4 x258 x262 b L xs k2 k80))))))))))))))))
def l_L_law_55 (i1 : Int32) (r2 : Nat) (r3 : Nat) (b L : Nat) (xs : Nat → Int32) (k2 : gS → gS → Nat → Nat → Int32 → Prop) (g : gS) (gm : gS) (C : Nat) (S : Nat) (i4 : Int32) (k55 : gS → gS → Nat → Nat → Int32 → Prop) : Prop :=
  (8 ≤ i4 → (lpx5 (l_L_law_80 i1 r2 r3 b L xs k2) g gm C S 0)) ∧ (¬ 8 ≤ i4 → (gK g r2 = 12 ∧ ((C + 4 ≤ 600104 ∧ S + 60 ≤ 7301314) ∧ (w_X11_query g gm r2 b L xs 4 60 (fun x275 g276 m277 => ((x275 = 0 → (False)) ∧ (¬ x275 = 0 → (k55 g276 m277 (C + 4) (S + 60) (i4 + 1)))))))))
def l_L_law_31 (i1 : Int32) (r2 : Nat) (r3 : Nat) (b L : Nat) (xs : Nat → Int32) (k2 : gS → gS → Nat → Nat → Int32 → Prop) (g : gS) (gm : gS) (C : Nat) (S : Nat) (i4 : Int32) (k31 : gS → gS → Nat → Nat → Int32 → Prop) : Prop :=
  (3 ≤ i4 → (lpx5 (l_L_law_55 i1 r2 r3 b L xs k2) g gm C S 0)) ∧ (¬ 3 ≤ i4 → (gK g r2 = 12 ∧ ((C + 60 ≤ 600104 ∧ S + 3000 ≤ 7301314) ∧ (w_X11_add g gm r2 b L xs 60 3000 (fun x282 g283 m284 => ((x282 = 0 → (False)) ∧ (¬ x282 = 0 → (k31 g283 m284 (C + 60) (S + 3000) (i4 + 1)))))))))
def l_L_law_2 (b L : Nat) (xs : Nat → Int32) (g : gS) (gm : gS) (C : Nat) (S : Nat) (i1 : Int32) (k2 : gS → gS → Nat → Nat → Int32 → Prop) : Prop :=
  (3 ≤ i1 → (True)) ∧ (¬ 3 ≤ i1 → ((C + 1 ≤ 600104 ∧ S + 15 ≤ 7301314) ∧ (∀ q287, gK g q287 = 0 → (∀ g291, g291 = sNew g q287 12 0 → (((C + 1) + 500 ≤ 600104 ∧ (S + 15) + 16000 ≤ 7301314) ∧ (w_X11_init g291 gm q287 ((31 * i1) + 7) b L xs 500 16000 (fun g295 m296 => (gK g295 q287 = 12 ∧ (∃ y298, gR g295 q287 0 = some y298 ∧ (lpx5 (l_L_law_31 i1 q287 y298 b L xs k2) g295 m296 ((C + 1) + 500) ((S + 15) + 16000) 0))))))))))
def w_L_law (b L : Nat) (xs : Nat → Int32) : Prop :=
  lpx5 (l_L_law_2 b L xs) gE0 gE0 0 0 0
set_option maxHeartbeats 8000000 in
set_option maxRecDepth 100000 in
theorem c_L_law {p : Program} {l : Launch} {e : Env} {s : State} {m : MethodId} {below : List Frame} {meth : Method} {c : Code} {b L : Nat} {xs : Nat → Int32} {D : va_G} {cA : Nat → ClassId} (hflags : l.stackTraces = false) (C0 : lw_At p s m meth c b L xs) (hc : hC D cA (fun q => s.heap.size ≤ q) s b L xs gE0 gE0 s.heap []) {ls : Array Slot} (hl : lv_has ls 19 [(0, .ref b)]) (h : w_L_law b L xs) : W p l e room_1 s m #[Value.ref b] below meth c s.heap [] 0 0 (lw_Z below #[Value.ref b] s) (F0 m 0 ls []) := by
  obtain ⟨hx, hb, hr, hml, hown, hts0, hX9, hbl, hlk, hgv⟩ := id C0
  have hts : ∀ w ∈ wsL_law, w.before #[Value.ref b] s = true := fun w h => hts0 w (wsL_law_in w h)
  have CF : CallFix p m c cL_law 19 s #[Value.ref b] wsL_law RL := ⟨hx, hb, hml, hown, hts⟩
  have hts2 : ∀ w ∈ wsL_law2, w.before #[Value.ref b] s = true := fun w h => (List.mem_append.mp h).elim (hts w) (fun h => by rw [List.mem_singleton.mp h]; exact hts0 _ lw_cube)
  have hroom : 0 ≤ 600104 ∧ 0 ≤ 7301314 := ⟨Nat.zero_le _, Nat.zero_le _⟩
  have hb_2 : ∀ (g : gS) (gm : gS) (C : Nat) (S : Nat) (i1 : Int32), lpx5 (l_L_law_2 b L xs) g gm C S i1 → (C ≤ 600104 ∧ S ≤ 7301314) → ∀ (H : Heap) (locs : List Loc) (ls : Array Slot), hC D cA (fun q => s.heap.size ≤ q) s b L xs g gm H locs → lv_has ls 19 [(0, .ref b), (1, .int i1)] → W p l e room_1 s m #[Value.ref b] below meth c H locs C S (lw_Z below #[Value.ref b] s) (F0 m 2 ls []) := by
    refine lpx5_run (P := fun (g : gS) (gm : gS) (C : Nat) (S : Nat) (i1 : Int32) => (C ≤ 600104 ∧ S ≤ 7301314) → ∀ (H : Heap) (locs : List Loc) (ls : Array Slot), hC D cA (fun q => s.heap.size ≤ q) s b L xs g gm H locs → lv_has ls 19 [(0, .ref b), (1, .int i1)] → W p l e room_1 s m #[Value.ref b] below meth c H locs C S (lw_Z below #[Value.ref b] s) (F0 m 2 ls [])) ?_
    intro k2 hk_2 g gm C S i1 h hroom H locs ls hc hl
    have hb_80 : ∀ (i1 : Int32) (r2 : Nat) (r3 : Nat), ∀ (g : gS) (gm : gS) (C : Nat) (S : Nat) (i4 : Int32), lpx5 (l_L_law_80 i1 r2 r3 b L xs k2) g gm C S i4 → (C ≤ 600104 ∧ S ≤ 7301314) → ∀ (H : Heap) (locs : List Loc) (ls : Array Slot), hC D cA (fun q => s.heap.size ≤ q) s b L xs g gm H locs → lv_has ls 19 [(0, .ref b), (1, .int i1), (2, .ref r2), (3, .ref r3), (4, .int i4)] → W p l e room_1 s m #[Value.ref b] below meth c H locs C S (lw_Z below #[Value.ref b] s) (F0 m 80 ls []) := by
      intro i1 r2 r3
      refine lpx5_run (P := fun (g : gS) (gm : gS) (C : Nat) (S : Nat) (i4 : Int32) => (C ≤ 600104 ∧ S ≤ 7301314) → ∀ (H : Heap) (locs : List Loc) (ls : Array Slot), hC D cA (fun q => s.heap.size ≤ q) s b L xs g gm H locs → lv_has ls 19 [(0, .ref b), (1, .int i1), (2, .ref r2), (3, .ref r3), (4, .int i4)] → W p l e room_1 s m #[Value.ref b] below meth c H locs C S (lw_Z below #[Value.ref b] s) (F0 m 80 ls [])) ?_
      intro k80 hk_80 g gm C S i4 h hroom H locs ls hc hl
      have hb_669 : ∀ (g : gS) (i4 : Int32) (i6 : Int32) (i12 : Int32), ∀ (gm : gS) (C : Nat) (S : Nat) (i15 : Int32), lpx4 (l_L_law_669 g i1 r2 r3 i4 i6 i12 b L xs k2 k80) gm C S i15 → (C ≤ 600104 ∧ S ≤ 7301314) → ∀ (H : Heap) (locs : List Loc) (ls : Array Slot), hC D cA (fun q => s.heap.size ≤ q) s b L xs g gm H locs → lv_has ls 19 [(0, .ref b), (1, .int i1), (2, .ref r2), (3, .ref r3), (4, .int i4), (6, .int i6), (12, .int i12), (15, .int i15)] → W p l e room_1 s m #[Value.ref b] below meth c H locs C S (lw_Z below #[Value.ref b] s) (F0 m 669 ls []) := by
        intro g i4 i6 i12
        refine lpx4_run (P := fun (gm : gS) (C : Nat) (S : Nat) (i15 : Int32) => (C ≤ 600104 ∧ S ≤ 7301314) → ∀ (H : Heap) (locs : List Loc) (ls : Array Slot), hC D cA (fun q => s.heap.size ≤ q) s b L xs g gm H locs → lv_has ls 19 [(0, .ref b), (1, .int i1), (2, .ref r2), (3, .ref r3), (4, .int i4), (6, .int i6), (12, .int i12), (15, .int i15)] → W p l e room_1 s m #[Value.ref b] below meth c H locs C S (lw_Z below #[Value.ref b] s) (F0 m 669 ls [])) ?_
        intro k669 hk_669 gm C S i15 h hroom H locs ls hc hl
        have hb_791 : ∀ (gm : gS) (C : Nat) (S : Nat) (i15 : Int32), b_L_law_791 g gm C S i1 r2 r3 i4 i6 i12 i15 b L xs k2 k80 k669 → (C ≤ 600104 ∧ S ≤ 7301314) → ∀ (H : Heap) (locs : List Loc) (ls : Array Slot), hC D cA (fun q => s.heap.size ≤ q) s b L xs g gm H locs → lv_has ls 19 [(0, .ref b), (1, .int i1), (2, .ref r2), (3, .ref r3), (4, .int i4), (6, .int i6), (12, .int i12), (15, .int i15)] → W p l e room_1 s m #[Value.ref b] below meth c H locs C S (lw_Z below #[Value.ref b] s) (F0 m 791 ls []) := by
          intro gm C S i15 h hroom H locs ls hc hl
          unfold b_L_law_791 at h
          refine lv_iinc (v := (i15 + 1)) (lv' := [(15, .int (i15 + 1)), (0, .ref b), (1, .int i1), (2, .ref r2), (3, .ref r3), (4, .int i4), (6, .int i6), (12, .int i12)]) hx hb dL_law_791 hl (k := 7) rfl rfl (by decide) rfl (fun ls hl => ?_)
          refine lv_goto (tgt := 669) hx hb dL_law_794 (by decide) ?_
          exact hk_669 gm C S (i15 + 1) h hroom _ _ _ hc (lv_sub hl [1, 2, 3, 4, 5, 6, 7, 0] rfl)
        have hb_789 : ∀ (gm : gS) (C : Nat) (S : Nat), b_L_law_789 g gm C S b L xs k2 k80 k669 → (C ≤ 600104 ∧ S ≤ 7301314) → ∀ (H : Heap) (locs : List Loc) (ls : Array Slot), hC D cA (fun q => s.heap.size ≤ q) s b L xs g gm H locs → lv_has ls 19 [] → W p l e room_1 s m #[Value.ref b] below meth c H locs C S (lw_Z below #[Value.ref b] s) (F0 m 789 ls []) := by
          intro gm C S h hroom H locs ls hc hl
          unfold b_L_law_789 at h
          refine lv_iconst (v := 0) hx hb dL_law_789 (by decide) ?_
          exact h.elim
        unfold l_L_law_669 at h
        refine lv_iload hx hb dL_law_669 (lv_at hl 7 rfl) ?_
        refine lv_iload hx hb dL_law_671 (lv_at hl 6 rfl) ?_
        refine lv_icmp_ge (tgt := 797) hx hb dL_law_673 (by decide) (fun c1 => ?_) (fun c1 => ?_)
        · have h := h.1 c1
          refine lv_iinc (v := (i4 + 1)) (lv' := [(4, .int (i4 + 1)), (0, .ref b), (1, .int i1), (2, .ref r2), (3, .ref r3), (6, .int i6), (12, .int i12), (15, .int i15)]) hx hb dL_law_797 hl (k := 4) rfl rfl (by decide) rfl (fun ls hl => ?_)
          refine lv_goto (tgt := 80) hx hb dL_law_800 (by decide) ?_
          exact hk_80 g gm C S (i4 + 1) h hroom _ _ _ hc (lv_sub hl [1, 2, 3, 4, 0] rfl)
        · have h := h.2 c1
          refine lv_aload_n hx hb dL_law_676 rfl (lv_at hl 3 rfl) ?_
          refine lv_iload hx hb dL_law_677 (lv_at hl 7 rfl) ?_
          obtain ⟨hk2, h⟩ := h
          obtain ⟨hroom3, h⟩ := h
          refine h_xcalli (vx_runV (As := [.int i15]) (rest := []) CF (c_X10_resultAt hflags h) (cwV 1 hts gL_law_X10_resultAt rfl rfl rfl (by decide +kernel) ⟨Nat.le_of_ble_eq_true rfl, Nat.le_of_ble_eq_true rfl⟩) (hc.swap.1.preV hk2 rfl (by decide)) rfl rfl hl.1 rfl (lv_room (Nat.le_of_ble_eq_true rfl)) dL_law_679 hroom3) (fun _ _ z => z.2) hc (fun x4 m6 H locs hq hc => ?_)
          obtain ⟨rfl, h⟩ := hq
          have hroom := hroom3
          refine lv_istore (lv' := [(16, .int x4), (0, .ref b), (1, .int i1), (2, .ref r2), (3, .ref r3), (4, .int i4), (6, .int i6), (12, .int i12), (15, .int i15)]) hx hb dL_law_682 hl (by decide) rfl (fun ls hl => ?_)
          refine lv_aload_n hx hb dL_law_684 rfl (lv_at hl 4 rfl) ?_
          refine lv_iload hx hb dL_law_685 (lv_at hl 8 rfl) ?_
          obtain ⟨hroom7, h⟩ := h
          refine h_xcalli (vx_runV (As := [.int i15]) (rest := []) CF (c_X10_scoreAt hflags h) (cwV 1 hts gL_law_X10_scoreAt rfl rfl rfl (by decide +kernel) ⟨Nat.le_of_ble_eq_true rfl, Nat.le_of_ble_eq_true rfl⟩) (hc.swap.1.preV hk2 rfl (by decide)) rfl rfl hl.1 rfl (lv_room (Nat.le_of_ble_eq_true rfl)) dL_law_687 hroom7) (fun _ _ z => z.2) hc (fun x8 m10 H locs hq hc => ?_)
          obtain ⟨rfl, h⟩ := hq
          have hroom := hroom7
          refine lv_aload_n hx hb dL_law_690 rfl (lv_at hl 4 rfl) ?_
          refine lv_iload hx hb dL_law_691 (lv_at hl 6 rfl) ?_
          refine lv_iload hx hb dL_law_693 (lv_at hl 0 rfl) ?_
          obtain ⟨hroom11, h⟩ := h
          refine h_xcalli (vx_runV (As := [.int i6, .int x4]) (rest := [.int x8]) CF (c_X10_score hflags h) (cwV 2 hts gL_law_X10_score rfl rfl rfl (by decide +kernel) ⟨Nat.le_of_ble_eq_true rfl, Nat.le_of_ble_eq_true rfl⟩) (hc.swap.1.preV hk2 rfl (by decide)) rfl rfl hl.1 rfl (lv_room (Nat.le_of_ble_eq_true rfl)) dL_law_695 hroom11) (fun _ _ z => z) hc (fun x12 m14 H locs hq hc => ?_)
          replace h := hq
          have hroom := hroom11
          refine lv_icmp_eq (tgt := 703) hx hb dL_law_698 (by decide) (fun c15 => ?_) (fun c15 => ?_)
          · have h := h.1 c15
            refine lv_iload hx hb dL_law_703 (lv_at hl 8 rfl) ?_
            refine lv_if_ne (tgt := 711) hx hb dL_law_705 (by decide) (fun c16 => ?_) (fun c16 => ?_)
            · have h := h.2 c16
              refine lv_aload_n hx hb dL_law_711 rfl (lv_at hl 4 rfl) ?_
              refine lv_iload hx hb dL_law_712 (lv_at hl 8 rfl) ?_
              refine lv_iconst (v := 1) hx hb dL_law_714 (by decide) ?_
              refine lv_isub hx hb dL_law_715 ?_
              obtain ⟨hk17, h⟩ := h
              obtain ⟨hroom18, h⟩ := h
              refine h_xcalli (vx_runV (As := [.int (i15 - 1)]) (rest := []) CF (c_X10_resultAt hflags h) (cwV 1 hts gL_law_X10_resultAt rfl rfl rfl (by decide +kernel) ⟨Nat.le_of_ble_eq_true rfl, Nat.le_of_ble_eq_true rfl⟩) (hc.swap.1.preV hk17 rfl (by decide)) rfl rfl hl.1 rfl (lv_room (Nat.le_of_ble_eq_true rfl)) dL_law_716 hroom18) (fun _ _ z => z.2) hc (fun x19 m21 H locs hq hc => ?_)
              obtain ⟨rfl, h⟩ := hq
              have hroom := hroom18
              refine lv_istore (lv' := [(17, .int x19), (16, .int x4), (0, .ref b), (1, .int i1), (2, .ref r2), (3, .ref r3), (4, .int i4), (6, .int i6), (12, .int i12), (15, .int i15)]) hx hb dL_law_719 hl (by decide) rfl (fun ls hl => ?_)
              refine lv_aload_n hx hb dL_law_721 rfl (lv_at hl 5 rfl) ?_
              refine lv_iload hx hb dL_law_722 (lv_at hl 9 rfl) ?_
              refine lv_iconst (v := 1) hx hb dL_law_724 (by decide) ?_
              refine lv_isub hx hb dL_law_725 ?_
              obtain ⟨hroom22, h⟩ := h
              refine h_xcalli (vx_runV (As := [.int (i15 - 1)]) (rest := []) CF (c_X10_scoreAt hflags h) (cwV 1 hts gL_law_X10_scoreAt rfl rfl rfl (by decide +kernel) ⟨Nat.le_of_ble_eq_true rfl, Nat.le_of_ble_eq_true rfl⟩) (hc.swap.1.preV hk17 rfl (by decide)) rfl rfl hl.1 rfl (lv_room (Nat.le_of_ble_eq_true rfl)) dL_law_726 hroom22) (fun _ _ z => z.2) hc (fun x23 m25 H locs hq hc => ?_)
              obtain ⟨rfl, h⟩ := hq
              have hroom := hroom22
              refine lv_aload_n hx hb dL_law_729 rfl (lv_at hl 5 rfl) ?_
              refine lv_iload hx hb dL_law_730 (lv_at hl 9 rfl) ?_
              obtain ⟨hroom26, h⟩ := h
              refine h_xcalli (vx_runV (As := [.int i15]) (rest := [.int x23]) CF (c_X10_scoreAt hflags h) (cwV 1 hts gL_law_X10_scoreAt rfl rfl rfl (by decide +kernel) ⟨Nat.le_of_ble_eq_true rfl, Nat.le_of_ble_eq_true rfl⟩) (hc.swap.1.preV hk17 rfl (by decide)) rfl rfl hl.1 rfl (lv_room (Nat.le_of_ble_eq_true rfl)) dL_law_732 hroom26) (fun _ _ z => z.2) hc (fun x27 m29 H locs hq hc => ?_)
              obtain ⟨rfl, h⟩ := hq
              have hroom := hroom26
              refine lv_isub hx hb dL_law_735 ?_
              refine lv_istore (lv' := [(18, .int (x23 - x27)), (17, .int x19), (16, .int x4), (0, .ref b), (1, .int i1), (2, .ref r2), (3, .ref r3), (4, .int i4), (6, .int i6), (12, .int i12), (15, .int i15)]) hx hb dL_law_736 hl (by decide) rfl (fun ls hl => ?_)
              refine lv_iload hx hb dL_law_738 (lv_at hl 0 rfl) ?_
              refine lv_if_lt (tgt := 789) hx hb dL_law_740 (by decide) (fun c30 => ?_) (fun c30 => ?_)
              · have h := h.1 c30
                exact hb_789 m14 ((((((C + 1) + 1) + 1) + 1) + 1) + 1) ((((((S + 6) + 6) + 6) + 6) + 6) + 6) h hroom _ _ _ hc (lv_sub hl [] rfl)
              · have h := h.2 c30
                refine lv_iload hx hb dL_law_743 (lv_at hl 0 rfl) ?_
                refine lv_if_ne (tgt := 791) hx hb dL_law_745 (by decide) (fun c31 => ?_) (fun c31 => ?_)
                · have h := h.2 c31
                  exact hb_791 m14 ((((((C + 1) + 1) + 1) + 1) + 1) + 1) ((((((S + 6) + 6) + 6) + 6) + 6) + 6) i15 h hroom _ _ _ hc (lv_sub hl [3, 4, 5, 6, 7, 8, 9, 10] rfl)
                · have h := h.1 c31
                  refine lv_aload_n hx hb dL_law_748 rfl (lv_at hl 5 rfl) ?_
                  obtain ⟨hk32, h⟩ := h
                  obtain ⟨y33, e34, h⟩ := h
                  refine g_getr CF hc.1 hk32 rfl (by decide) (fun _ h9 => List.mem_append_left _ (List.mem_append_left _ (List.mem_append_left _ (List.mem_append_left _ (List.mem_append_left _ (List.mem_append_left _ (List.mem_append_left _ (List.mem_append_left _ (List.mem_append_left _ (List.mem_append_left _ (List.mem_append_left _ (List.mem_append_left _ (List.mem_append_left _ (List.mem_append_left _ (List.mem_append_left _ (List.mem_append_right _ (h9))))))))))))))))) (k := 5) (by decide) (List.mem_append_left _ (List.mem_append_left _ (List.mem_append_left _ (List.mem_append_left _ (List.mem_append_left _ (List.mem_append_left _ (List.mem_append_left _ (List.mem_append_left _ (List.mem_append_left _ (List.mem_append_left _ (List.mem_append_left _ (List.mem_append_left _ (List.mem_append_left _ (List.mem_append_left _ (List.mem_append_left _ (List.mem_append_left _ (List.mem_append_left _ (List.mem_of_getElem? (i := 8) rfl)))))))))))))))))) e34 rfl dL_law_749 ?_
                  refine lv_iload hx hb dL_law_752 (lv_at hl 1 rfl) ?_
                  obtain ⟨hk36, h⟩ := h
                  obtain ⟨hi35, h⟩ := h
                  refine g_iald CF hc.1 hk36 hi35 dL_law_754 ?_
                  refine lv_aload_n hx hb dL_law_755 rfl (lv_at hl 5 rfl) ?_
                  obtain ⟨y37, e38, h⟩ := h
                  refine g_getr CF hc.1 hk32 rfl (by decide) (fun _ h9 => List.mem_append_left _ (List.mem_append_left _ (List.mem_append_left _ (List.mem_append_left _ (List.mem_append_left _ (List.mem_append_left _ (List.mem_append_left _ (List.mem_append_left _ (List.mem_append_left _ (List.mem_append_left _ (List.mem_append_left _ (List.mem_append_left _ (List.mem_append_left _ (List.mem_append_left _ (List.mem_append_left _ (List.mem_append_right _ (h9))))))))))))))))) (k := 5) (by decide) (List.mem_append_left _ (List.mem_append_left _ (List.mem_append_left _ (List.mem_append_left _ (List.mem_append_left _ (List.mem_append_left _ (List.mem_append_left _ (List.mem_append_left _ (List.mem_append_left _ (List.mem_append_left _ (List.mem_append_left _ (List.mem_append_left _ (List.mem_append_left _ (List.mem_append_left _ (List.mem_append_left _ (List.mem_append_left _ (List.mem_append_left _ (List.mem_of_getElem? (i := 8) rfl)))))))))))))))))) e38 rfl dL_law_756 ?_
                  refine lv_iload hx hb dL_law_759 (lv_at hl 2 rfl) ?_
                  obtain ⟨hk40, h⟩ := h
                  obtain ⟨hi39, h⟩ := h
                  refine g_iald CF hc.1 hk40 hi39 dL_law_761 ?_
                  refine lv_icmp_lt (tgt := 789) hx hb dL_law_762 (by decide) (fun c41 => ?_) (fun c41 => ?_)
                  · have h := h.1 c41
                    exact hb_789 m14 ((((((C + 1) + 1) + 1) + 1) + 1) + 1) ((((((S + 6) + 6) + 6) + 6) + 6) + 6) h hroom _ _ _ hc (lv_sub hl [] rfl)
                  · have h := h.2 c41
                    refine lv_aload_n hx hb dL_law_765 rfl (lv_at hl 5 rfl) ?_
                    obtain ⟨y42, e43, h⟩ := h
                    refine g_getr CF hc.1 hk32 rfl (by decide) (fun _ h9 => List.mem_append_left _ (List.mem_append_left _ (List.mem_append_left _ (List.mem_append_left _ (List.mem_append_left _ (List.mem_append_left _ (List.mem_append_left _ (List.mem_append_left _ (List.mem_append_left _ (List.mem_append_left _ (List.mem_append_left _ (List.mem_append_left _ (List.mem_append_left _ (List.mem_append_left _ (List.mem_append_left _ (List.mem_append_right _ (h9))))))))))))))))) (k := 5) (by decide) (List.mem_append_left _ (List.mem_append_left _ (List.mem_append_left _ (List.mem_append_left _ (List.mem_append_left _ (List.mem_append_left _ (List.mem_append_left _ (List.mem_append_left _ (List.mem_append_left _ (List.mem_append_left _ (List.mem_append_left _ (List.mem_append_left _ (List.mem_append_left _ (List.mem_append_left _ (List.mem_append_left _ (List.mem_append_left _ (List.mem_append_left _ (List.mem_of_getElem? (i := 8) rfl)))))))))))))))))) e43 rfl dL_law_766 ?_
                    refine lv_iload hx hb dL_law_769 (lv_at hl 1 rfl) ?_
                    obtain ⟨hk45, h⟩ := h
                    obtain ⟨hi44, h⟩ := h
                    refine g_iald CF hc.1 hk45 hi44 dL_law_771 ?_
                    refine lv_aload_n hx hb dL_law_772 rfl (lv_at hl 5 rfl) ?_
                    obtain ⟨y46, e47, h⟩ := h
                    refine g_getr CF hc.1 hk32 rfl (by decide) (fun _ h9 => List.mem_append_left _ (List.mem_append_left _ (List.mem_append_left _ (List.mem_append_left _ (List.mem_append_left _ (List.mem_append_left _ (List.mem_append_left _ (List.mem_append_left _ (List.mem_append_left _ (List.mem_append_left _ (List.mem_append_left _ (List.mem_append_left _ (List.mem_append_left _ (List.mem_append_left _ (List.mem_append_left _ (List.mem_append_right _ (h9))))))))))))))))) (k := 5) (by decide) (List.mem_append_left _ (List.mem_append_left _ (List.mem_append_left _ (List.mem_append_left _ (List.mem_append_left _ (List.mem_append_left _ (List.mem_append_left _ (List.mem_append_left _ (List.mem_append_left _ (List.mem_append_left _ (List.mem_append_left _ (List.mem_append_left _ (List.mem_append_left _ (List.mem_append_left _ (List.mem_append_left _ (List.mem_append_left _ (List.mem_append_left _ (List.mem_of_getElem? (i := 8) rfl)))))))))))))))))) e47 rfl dL_law_773 ?_
                    refine lv_iload hx hb dL_law_776 (lv_at hl 2 rfl) ?_
                    obtain ⟨hk49, h⟩ := h
                    obtain ⟨hi48, h⟩ := h
                    refine g_iald CF hc.1 hk49 hi48 dL_law_778 ?_
                    refine lv_icmp_ne (tgt := 791) hx hb dL_law_779 (by decide) (fun c50 => ?_) (fun c50 => ?_)
                    · have h := h.2 c50
                      exact hb_791 m14 ((((((C + 1) + 1) + 1) + 1) + 1) + 1) ((((((S + 6) + 6) + 6) + 6) + 6) + 6) i15 h hroom _ _ _ hc (lv_sub hl [3, 4, 5, 6, 7, 8, 9, 10] rfl)
                    · have h := h.1 c50
                      refine lv_iload hx hb dL_law_782 (lv_at hl 1 rfl) ?_
                      refine lv_iload hx hb dL_law_784 (lv_at hl 2 rfl) ?_
                      refine lv_icmp_lt (tgt := 791) hx hb dL_law_786 (by decide) (fun c51 => ?_) (fun c51 => ?_)
                      · have h := h.1 c51
                        exact hb_791 m14 ((((((C + 1) + 1) + 1) + 1) + 1) + 1) ((((((S + 6) + 6) + 6) + 6) + 6) + 6) i15 h hroom _ _ _ hc (lv_sub hl [3, 4, 5, 6, 7, 8, 9, 10] rfl)
                      · have h := h.2 c51
                        exact hb_789 m14 ((((((C + 1) + 1) + 1) + 1) + 1) + 1) ((((((S + 6) + 6) + 6) + 6) + 6) + 6) h hroom _ _ _ hc (lv_sub hl [] rfl)
            · have h := h.1 c16
              refine lv_goto (tgt := 791) hx hb dL_law_708 (by decide) ?_
              exact hb_791 m14 (((C + 1) + 1) + 1) (((S + 6) + 6) + 6) i15 h hroom _ _ _ hc (lv_sub hl [1, 2, 3, 4, 5, 6, 7, 8] rfl)
          · have h := h.2 c15
            refine lv_iconst (v := 0) hx hb dL_law_701 (by decide) ?_
            exact h.elim
      have hb_664 : ∀ (g : gS) (gm : gS) (C : Nat) (S : Nat), b_L_law_664 g gm C S b L xs k2 k80 → (C ≤ 600104 ∧ S ≤ 7301314) → ∀ (H : Heap) (locs : List Loc) (ls : Array Slot), hC D cA (fun q => s.heap.size ≤ q) s b L xs g gm H locs → lv_has ls 19 [] → W p l e room_1 s m #[Value.ref b] below meth c H locs C S (lw_Z below #[Value.ref b] s) (F0 m 664 ls []) := by
        intro g gm C S h hroom H locs ls hc hl
        unfold b_L_law_664 at h
        refine lv_iconst (v := 0) hx hb dL_law_664 (by decide) ?_
        exact h.elim
      have hb_620 : ∀ (g : gS) (gm : gS) (i4 : Int32) (i6 : Int32) (i12 : Int32), ∀ (C : Nat) (S : Nat) (i14 : Int32) (i15 : Int32), lpx4 (l_L_law_620 g gm i1 r2 r3 i4 i6 i12 b L xs k2 k80) C S i14 i15 → (C ≤ 600104 ∧ S ≤ 7301314) → ∀ (H : Heap) (locs : List Loc) (ls : Array Slot), hC D cA (fun q => s.heap.size ≤ q) s b L xs g gm H locs → lv_has ls 19 [(0, .ref b), (1, .int i1), (2, .ref r2), (3, .ref r3), (4, .int i4), (6, .int i6), (12, .int i12), (14, .int i14), (15, .int i15)] → W p l e room_1 s m #[Value.ref b] below meth c H locs C S (lw_Z below #[Value.ref b] s) (F0 m 620 ls []) := by
        intro g gm i4 i6 i12
        refine lpx4_run (P := fun (C : Nat) (S : Nat) (i14 : Int32) (i15 : Int32) => (C ≤ 600104 ∧ S ≤ 7301314) → ∀ (H : Heap) (locs : List Loc) (ls : Array Slot), hC D cA (fun q => s.heap.size ≤ q) s b L xs g gm H locs → lv_has ls 19 [(0, .ref b), (1, .int i1), (2, .ref r2), (3, .ref r3), (4, .int i4), (6, .int i6), (12, .int i12), (14, .int i14), (15, .int i15)] → W p l e room_1 s m #[Value.ref b] below meth c H locs C S (lw_Z below #[Value.ref b] s) (F0 m 620 ls [])) ?_
        intro k620 hk_620 C S i14 i15 h hroom H locs ls hc hl
        unfold l_L_law_620 at h
        refine lv_iload hx hb dL_law_620 (lv_at hl 8 rfl) ?_
        refine lv_bipush (v := 8) hx hb dL_law_622 (by decide) ?_
        refine lv_icmp_ge (tgt := 644) hx hb dL_law_624 (by decide) (fun c52 => ?_) (fun c52 => ?_)
        · have h := h.1 c52
          refine lv_iload hx hb dL_law_644 (lv_at hl 7 rfl) ?_
          refine lv_iload hx hb dL_law_646 (lv_at hl 6 rfl) ?_
          refine lv_icmp_ne (tgt := 664) hx hb dL_law_648 (by decide) (fun c53 => ?_) (fun c53 => ?_)
          · have h := h.2 c53
            exact hb_664 g gm C S h hroom _ _ _ hc (lv_sub hl [] rfl)
          · have h := h.1 c53
            refine lv_aload_n hx hb dL_law_651 rfl (lv_at hl 3 rfl) ?_
            refine lv_iconst (v := 0) hx hb dL_law_652 (by decide) ?_
            refine lv_sipush (v := 10000) hx hb dL_law_653 (by decide) ?_
            obtain ⟨hk54, h⟩ := h
            obtain ⟨hroom55, h⟩ := h
            refine h_xcalli (vx_runV (As := [.int 0, .int 10000]) (rest := []) CF (c_X10_ofDates hflags h) (cwV 2 hts gL_law_X10_ofDates rfl rfl rfl (by decide +kernel) ⟨Nat.le_of_ble_eq_true rfl, Nat.le_of_ble_eq_true rfl⟩) (hc.swap.1.preV hk54 rfl (by decide)) rfl rfl hl.1 rfl (lv_room (Nat.le_of_ble_eq_true rfl)) dL_law_656 hroom55) (fun _ _ z => z.2) hc (fun x56 m58 H locs hq hc => ?_)
            obtain ⟨rfl, h⟩ := hq
            have hroom := hroom55
            refine lv_iload hx hb dL_law_659 (lv_at hl 6 rfl) ?_
            refine lv_icmp_eq (tgt := 666) hx hb dL_law_661 (by decide) (fun c59 => ?_) (fun c59 => ?_)
            · have h := h.1 c59
              refine lv_iconst (v := 0) hx hb dL_law_666 (by decide) ?_
              refine lv_istore (lv' := [(15, .int 0), (0, .ref b), (1, .int i1), (2, .ref r2), (3, .ref r3), (4, .int i4), (6, .int i6), (12, .int i12), (14, .int i14)]) hx hb dL_law_667 hl (by decide) rfl (fun ls hl => ?_)
              exact hb_669 g i4 i6 i12 gm (C + 1) (S + 6) 0 h hroom _ _ _ hc (lv_sub hl [1, 2, 3, 4, 5, 6, 7, 0] rfl)
            · have h := h.2 c59
              exact hb_664 g gm (C + 1) (S + 6) h hroom _ _ _ hc (lv_sub hl [] rfl)
        · have h := h.2 c52
          refine lv_iload hx hb dL_law_627 (lv_at hl 7 rfl) ?_
          refine lv_aload_n hx hb dL_law_629 rfl (lv_at hl 3 rfl) ?_
          refine lv_iload hx hb dL_law_630 (lv_at hl 8 rfl) ?_
          obtain ⟨hk60, h⟩ := h
          obtain ⟨hroom61, h⟩ := h
          refine h_xcalli (vx_runV (As := [.int i15]) (rest := [.int i14]) CF (c_X10_ofKind hflags h) (cwV 1 hts gL_law_X10_ofKind rfl rfl rfl (by decide +kernel) ⟨Nat.le_of_ble_eq_true rfl, Nat.le_of_ble_eq_true rfl⟩) (hc.swap.1.preV hk60 rfl (by decide)) rfl rfl hl.1 rfl (lv_room (Nat.le_of_ble_eq_true rfl)) dL_law_632 hroom61) (fun _ _ z => z.2) hc (fun x62 m64 H locs hq hc => ?_)
          obtain ⟨rfl, h⟩ := hq
          have hroom := hroom61
          refine lv_iadd hx hb dL_law_635 ?_
          refine lv_istore (lv' := [(14, .int (i14 + x62)), (0, .ref b), (1, .int i1), (2, .ref r2), (3, .ref r3), (4, .int i4), (6, .int i6), (12, .int i12), (15, .int i15)]) hx hb dL_law_636 hl (by decide) rfl (fun ls hl => ?_)
          refine lv_iinc (v := (i15 + 1)) (lv' := [(15, .int (i15 + 1)), (14, .int (i14 + x62)), (0, .ref b), (1, .int i1), (2, .ref r2), (3, .ref r3), (4, .int i4), (6, .int i6), (12, .int i12)]) hx hb dL_law_638 hl (k := 8) rfl rfl (by decide) rfl (fun ls hl => ?_)
          refine lv_goto (tgt := 620) hx hb dL_law_641 (by decide) ?_
          exact hk_620 (C + 1) (S + 6) (i14 + x62) (i15 + 1) h hroom _ _ _ hc (lv_sub hl [2, 3, 4, 5, 6, 7, 8, 1, 0] rfl)
      have hb_612 : ∀ (g : gS) (gm : gS) (C : Nat) (S : Nat), b_L_law_612 g gm C S b L xs k2 k80 → (C ≤ 600104 ∧ S ≤ 7301314) → ∀ (H : Heap) (locs : List Loc) (ls : Array Slot), hC D cA (fun q => s.heap.size ≤ q) s b L xs g gm H locs → lv_has ls 19 [] → W p l e room_1 s m #[Value.ref b] below meth c H locs C S (lw_Z below #[Value.ref b] s) (F0 m 612 ls []) := by
        intro g gm C S h hroom H locs ls hc hl
        unfold b_L_law_612 at h
        refine lv_iconst (v := 0) hx hb dL_law_612 (by decide) ?_
        exact h.elim
      have hb_453 : ∀ (g : gS) (i4 : Int32) (i6 : Int32) (j10 : Int64) (i12 : Int32), ∀ (gm : gS) (C : Nat) (S : Nat) (i13 : Int32) (i14 : Int32), lpx5 (l_L_law_453 g i1 r2 r3 i4 i6 j10 i12 b L xs k2 k80) gm C S i13 i14 → (C ≤ 600104 ∧ S ≤ 7301314) → ∀ (H : Heap) (locs : List Loc) (ls : Array Slot), hC D cA (fun q => s.heap.size ≤ q) s b L xs g gm H locs → lv_has ls 19 [(0, .ref b), (1, .int i1), (2, .ref r2), (3, .ref r3), (4, .int i4), (6, .int i6), (10, .long j10), (12, .int i12), (13, .int i13), (14, .int i14)] → W p l e room_1 s m #[Value.ref b] below meth c H locs C S (lw_Z below #[Value.ref b] s) (F0 m 453 ls []) := by
        intro g i4 i6 j10 i12
        refine lpx5_run (P := fun (gm : gS) (C : Nat) (S : Nat) (i13 : Int32) (i14 : Int32) => (C ≤ 600104 ∧ S ≤ 7301314) → ∀ (H : Heap) (locs : List Loc) (ls : Array Slot), hC D cA (fun q => s.heap.size ≤ q) s b L xs g gm H locs → lv_has ls 19 [(0, .ref b), (1, .int i1), (2, .ref r2), (3, .ref r3), (4, .int i4), (6, .int i6), (10, .long j10), (12, .int i12), (13, .int i13), (14, .int i14)] → W p l e room_1 s m #[Value.ref b] below meth c H locs C S (lw_Z below #[Value.ref b] s) (F0 m 453 ls [])) ?_
        intro k453 hk_453 gm C S i13 i14 h hroom H locs ls hc hl
        have hb_548 : ∀ (gm : gS) (C : Nat) (S : Nat) (i14 : Int32) (is0 : Int32) (is1 : Int32), b_L_law_548 g gm C S i1 r2 r3 i4 i6 j10 i12 i14 is0 is1 b L xs k2 k80 k453 → (C ≤ 600104 ∧ S ≤ 7301314) → ∀ (H : Heap) (locs : List Loc) (ls : Array Slot), hC D cA (fun q => s.heap.size ≤ q) s b L xs g gm H locs → lv_has ls 19 [(0, .ref b), (1, .int i1), (2, .ref r2), (3, .ref r3), (4, .int i4), (6, .int i6), (10, .long j10), (12, .int i12), (14, .int i14)] → W p l e room_1 s m #[Value.ref b] below meth c H locs C S (lw_Z below #[Value.ref b] s) (F0 m 548 ls [.int is1, .int is0]) := by
          intro gm C S i14 is0 is1 h hroom H locs ls hc hl
          unfold b_L_law_548 at h
          refine lv_iadd hx hb dL_law_548 ?_
          refine lv_istore (lv' := [(13, .int (is0 + is1)), (0, .ref b), (1, .int i1), (2, .ref r2), (3, .ref r3), (4, .int i4), (6, .int i6), (10, .long j10), (12, .int i12), (14, .int i14)]) hx hb dL_law_549 hl (by decide) rfl (fun ls hl => ?_)
          refine lv_iinc (v := (i14 + 1)) (lv' := [(14, .int (i14 + 1)), (13, .int (is0 + is1)), (0, .ref b), (1, .int i1), (2, .ref r2), (3, .ref r3), (4, .int i4), (6, .int i6), (10, .long j10), (12, .int i12)]) hx hb dL_law_551 hl (k := 9) rfl rfl (by decide) rfl (fun ls hl => ?_)
          refine lv_goto (tgt := 453) hx hb dL_law_554 (by decide) ?_
          exact hk_453 gm C S (is0 + is1) (i14 + 1) h hroom _ _ _ hc (lv_sub hl [2, 3, 4, 5, 6, 7, 8, 9, 1, 0] rfl)
        have hb_536 : ∀ (gm : gS) (C : Nat) (S : Nat) (i13 : Int32) (i14 : Int32) (i15 : Int32), b_L_law_536 g gm C S i1 r2 r3 i4 i6 j10 i12 i13 i14 i15 b L xs k2 k80 k453 → (C ≤ 600104 ∧ S ≤ 7301314) → ∀ (H : Heap) (locs : List Loc) (ls : Array Slot), hC D cA (fun q => s.heap.size ≤ q) s b L xs g gm H locs → lv_has ls 19 [(0, .ref b), (1, .int i1), (2, .ref r2), (3, .ref r3), (4, .int i4), (6, .int i6), (10, .long j10), (12, .int i12), (13, .int i13), (14, .int i14), (15, .int i15)] → W p l e room_1 s m #[Value.ref b] below meth c H locs C S (lw_Z below #[Value.ref b] s) (F0 m 536 ls []) := by
          intro gm C S i13 i14 i15 h hroom H locs ls hc hl
          unfold b_L_law_536 at h
          refine lv_iload hx hb dL_law_536 (lv_at hl 8 rfl) ?_
          refine lv_iload hx hb dL_law_538 (lv_at hl 10 rfl) ?_
          refine lv_if_ge (tgt := 547) hx hb dL_law_540 (by decide) (fun c65 => ?_) (fun c65 => ?_)
          · have h := h.1 c65
            refine lv_iconst (v := 1) hx hb dL_law_547 (by decide) ?_
            exact hb_548 gm C S i14 i13 1 h hroom _ _ _ hc (lv_sub hl [0, 1, 2, 3, 4, 5, 6, 7, 9] rfl)
          · have h := h.2 c65
            refine lv_iconst (v := 0) hx hb dL_law_543 (by decide) ?_
            refine lv_goto (tgt := 548) hx hb dL_law_544 (by decide) ?_
            exact hb_548 gm C S i14 i13 0 h hroom _ _ _ hc (lv_sub hl [0, 1, 2, 3, 4, 5, 6, 7, 9] rfl)
        have hb_534 : ∀ (gm : gS) (C : Nat) (S : Nat), b_L_law_534 g gm C S b L xs k2 k80 k453 → (C ≤ 600104 ∧ S ≤ 7301314) → ∀ (H : Heap) (locs : List Loc) (ls : Array Slot), hC D cA (fun q => s.heap.size ≤ q) s b L xs g gm H locs → lv_has ls 19 [] → W p l e room_1 s m #[Value.ref b] below meth c H locs C S (lw_Z below #[Value.ref b] s) (F0 m 534 ls []) := by
          intro gm C S h hroom H locs ls hc hl
          unfold b_L_law_534 at h
          refine lv_iconst (v := 0) hx hb dL_law_534 (by decide) ?_
          exact h.elim
        have hb_487 : ∀ (gm : gS) (C : Nat) (S : Nat) (i13 : Int32) (i14 : Int32) (i15 : Int32), b_L_law_487 g gm C S i1 r2 r3 i4 i6 j10 i12 i13 i14 i15 b L xs k2 k80 k453 → (C ≤ 600104 ∧ S ≤ 7301314) → ∀ (H : Heap) (locs : List Loc) (ls : Array Slot), hC D cA (fun q => s.heap.size ≤ q) s b L xs g gm H locs → lv_has ls 19 [(0, .ref b), (1, .int i1), (2, .ref r2), (3, .ref r3), (4, .int i4), (6, .int i6), (10, .long j10), (12, .int i12), (13, .int i13), (14, .int i14), (15, .int i15)] → W p l e room_1 s m #[Value.ref b] below meth c H locs C S (lw_Z below #[Value.ref b] s) (F0 m 487 ls []) := by
          intro gm C S i13 i14 i15 h hroom H locs ls hc hl
          unfold b_L_law_487 at h
          refine lv_iload hx hb dL_law_487 (lv_at hl 10 rfl) ?_
          refine lv_iconst (v := (-1)) hx hb dL_law_489 (by decide) ?_
          refine lv_icmp_lt (tgt := 534) hx hb dL_law_490 (by decide) (fun c66 => ?_) (fun c66 => ?_)
          · have h := h.1 c66
            exact hb_534 gm C S h hroom _ _ _ hc (lv_sub hl [] rfl)
          · have h := h.2 c66
            refine lv_iload hx hb dL_law_493 (lv_at hl 10 rfl) ?_
            refine lv_ldc (v := 1000000) hx hb hown (hts _ (List.mem_append_left _ (List.mem_append_left _ (List.mem_append_left _ (List.mem_append_left _ (List.mem_append_left _ (List.mem_append_left _ (List.mem_append_left _ (List.mem_append_left _ (List.mem_append_left _ (List.mem_append_left _ (List.mem_append_left _ (List.mem_append_left _ (List.mem_append_left _ (List.mem_append_left _ (List.mem_append_left _ (List.mem_append_left _ (List.mem_append_left _ (List.mem_of_getElem? (i := 7) rfl))))))))))))))))))) dL_law_495 ?_
            refine lv_icmp_gt (tgt := 534) hx hb dL_law_497 (by decide) (fun c67 => ?_) (fun c67 => ?_)
            · have h := h.1 c67
              exact hb_534 gm C S h hroom _ _ _ hc (lv_sub hl [] rfl)
            · have h := h.2 c67
              refine lv_aload_n hx hb dL_law_500 rfl (lv_at hl 3 rfl) ?_
              refine lv_iload hx hb dL_law_501 (lv_at hl 9 rfl) ?_
              obtain ⟨hk68, h⟩ := h
              obtain ⟨hroom69, h⟩ := h
              refine h_xcalli (vx_runV (As := [.int i14]) (rest := []) CF (c_X10_like hflags h) (cwV 1 hts gL_law_X10_like rfl rfl rfl (by decide +kernel) ⟨Nat.le_of_ble_eq_true rfl, Nat.le_of_ble_eq_true rfl⟩) (hc.swap.1.preV hk68 rfl (by decide)) rfl rfl hl.1 rfl (lv_room (Nat.le_of_ble_eq_true rfl)) dL_law_503 hroom69) (fun _ _ z => z) hc (fun x70 m72 H locs hq hc => ?_)
              replace h := hq
              have hroom := hroom69
              refine lv_iload hx hb dL_law_506 (lv_at hl 9 rfl) ?_
              refine lv_icmp_eq (tgt := 534) hx hb dL_law_508 (by decide) (fun c73 => ?_) (fun c73 => ?_)
              · have h := h.1 c73
                exact hb_534 m72 (C + 1) (S + 6) h hroom _ _ _ hc (lv_sub hl [] rfl)
              · have h := h.2 c73
                refine lv_aload_n hx hb dL_law_511 rfl (lv_at hl 3 rfl) ?_
                refine lv_iload hx hb dL_law_512 (lv_at hl 9 rfl) ?_
                obtain ⟨hk74, h⟩ := h
                obtain ⟨hroom75, h⟩ := h
                refine h_xcalli (vx_runV (As := [.int i14]) (rest := []) CF (c_X10_like hflags h) (cwV 1 hts gL_law_X10_like rfl rfl rfl (by decide +kernel) ⟨Nat.le_of_ble_eq_true rfl, Nat.le_of_ble_eq_true rfl⟩) (hc.swap.1.preV hk74 rfl (by decide)) rfl rfl hl.1 rfl (lv_room (Nat.le_of_ble_eq_true rfl)) dL_law_514 hroom75) (fun _ _ z => z) hc (fun x76 m78 H locs hq hc => ?_)
                replace h := hq
                have hroom := hroom75
                refine lv_if_lt (tgt := 536) hx hb dL_law_517 (by decide) (fun c79 => ?_) (fun c79 => ?_)
                · have h := h.1 c79
                  exact hb_536 m78 ((C + 1) + 1) ((S + 6) + 6) i13 i14 i15 h hroom _ _ _ hc (lv_sub hl [0, 1, 2, 3, 4, 5, 6, 7, 8, 9, 10] rfl)
                · have h := h.2 c79
                  refine lv_aload_n hx hb dL_law_520 rfl (lv_at hl 3 rfl) ?_
                  refine lv_aload_n hx hb dL_law_521 rfl (lv_at hl 3 rfl) ?_
                  refine lv_iload hx hb dL_law_522 (lv_at hl 9 rfl) ?_
                  obtain ⟨hk80, h⟩ := h
                  obtain ⟨hroom81, h⟩ := h
                  refine h_xcalli (vx_runV (As := [.int i14]) (rest := [.ref r3]) CF (c_X10_like hflags h) (cwV 1 hts gL_law_X10_like rfl rfl rfl (by decide +kernel) ⟨Nat.le_of_ble_eq_true rfl, Nat.le_of_ble_eq_true rfl⟩) (hc.swap.1.preV hk80 rfl (by decide)) rfl rfl hl.1 rfl (lv_room (Nat.le_of_ble_eq_true rfl)) dL_law_524 hroom81) (fun _ _ z => z) hc (fun x82 m84 H locs hq hc => ?_)
                  replace h := hq
                  have hroom := hroom81
                  obtain ⟨hk85, h⟩ := h
                  obtain ⟨hroom86, h⟩ := h
                  refine h_xcalli (vx_runV (As := [.int x82]) (rest := []) CF (c_X10_stateOf hflags h) (cwV 1 hts gL_law_X10_stateOf rfl rfl rfl (by decide +kernel) ⟨Nat.le_of_ble_eq_true rfl, Nat.le_of_ble_eq_true rfl⟩) (hc.swap.1.preV hk85 rfl (by decide)) rfl rfl hl.1 rfl (lv_room (Nat.le_of_ble_eq_true rfl)) dL_law_527 hroom86) (fun _ _ z => z.2) hc (fun x87 m89 H locs hq hc => ?_)
                  obtain ⟨rfl, h⟩ := hq
                  have hroom := hroom86
                  refine lv_iconst (v := 2) hx hb dL_law_530 (by decide) ?_
                  refine lv_icmp_eq (tgt := 536) hx hb dL_law_531 (by decide) (fun c90 => ?_) (fun c90 => ?_)
                  · have h := h.1 c90
                    exact hb_536 m84 ((((C + 1) + 1) + 1) + 1) ((((S + 6) + 6) + 6) + 6) i13 i14 i15 h hroom _ _ _ hc (lv_sub hl [0, 1, 2, 3, 4, 5, 6, 7, 8, 9, 10] rfl)
                  · have h := h.2 c90
                    exact hb_534 m84 ((((C + 1) + 1) + 1) + 1) ((((S + 6) + 6) + 6) + 6) h hroom _ _ _ hc (lv_sub hl [] rfl)
        unfold l_L_law_453 at h
        refine lv_iload hx hb dL_law_453 (lv_at hl 9 rfl) ?_
        refine lv_aload_n hx hb dL_law_455 rfl (lv_at hl 2 rfl) ?_
        obtain ⟨hk91, h⟩ := h
        refine g_get CF hc.1 hk91 rfl (by decide) (fun _ h9 => List.mem_append_left _ (List.mem_append_left _ (List.mem_append_left _ (List.mem_append_left _ (List.mem_append_left _ (List.mem_append_left _ (List.mem_append_left _ (List.mem_append_left _ (List.mem_append_left _ (List.mem_append_left _ (List.mem_append_left _ (List.mem_append_left _ (List.mem_append_left _ (List.mem_append_left _ (List.mem_append_left _ (List.mem_append_right _ (h9))))))))))))))))) (k := 3) (by decide) (List.mem_append_left _ (List.mem_append_left _ (List.mem_append_left _ (List.mem_append_left _ (List.mem_append_left _ (List.mem_append_left _ (List.mem_append_left _ (List.mem_append_left _ (List.mem_append_left _ (List.mem_append_left _ (List.mem_append_left _ (List.mem_append_left _ (List.mem_append_left _ (List.mem_append_left _ (List.mem_append_left _ (List.mem_append_left _ (List.mem_append_left _ (List.mem_of_getElem? (i := 5) rfl)))))))))))))))))) rfl dL_law_456 ?_
        refine lv_icmp_ge (tgt := 557) hx hb dL_law_459 (by decide) (fun c92 => ?_) (fun c92 => ?_)
        · have h := h.1 c92
          refine lv_iload hx hb dL_law_557 (lv_at hl 8 rfl) ?_
          refine lv_iload hx hb dL_law_559 (lv_at hl 7 rfl) ?_
          refine lv_icmp_ne (tgt := 612) hx hb dL_law_561 (by decide) (fun c93 => ?_) (fun c93 => ?_)
          · have h := h.2 c93
            exact hb_612 g gm C S h hroom _ _ _ hc (lv_sub hl [] rfl)
          · have h := h.1 c93
            refine lv_aload_n hx hb dL_law_564 rfl (lv_at hl 3 rfl) ?_
            refine lv_iload hx hb dL_law_565 (lv_at hl 5 rfl) ?_
            obtain ⟨hk94, h⟩ := h
            obtain ⟨hroom95, h⟩ := h
            refine h_xcalli (vx_runV (As := [.int i6]) (rest := []) CF (c_X10_byAlias hflags h) (cwV 1 hts gL_law_X10_byAlias rfl rfl rfl (by decide +kernel) ⟨Nat.le_of_ble_eq_true rfl, Nat.le_of_ble_eq_true rfl⟩) (hc.swap.1.preV hk94 rfl (by decide)) rfl rfl hl.1 rfl (lv_room (Nat.le_of_ble_eq_true rfl)) dL_law_567 hroom95) (fun _ _ z => z) hc (fun x96 m98 H locs hq hc => ?_)
            replace h := hq
            have hroom := hroom95
            refine lv_if_ne (tgt := 612) hx hb dL_law_570 (by decide) (fun c99 => ?_) (fun c99 => ?_)
            · have h := h.2 c99
              exact hb_612 g m98 (C + 1) (S + 6) h hroom _ _ _ hc (lv_sub hl [] rfl)
            · have h := h.1 c99
              refine lv_aload_n hx hb dL_law_573 rfl (lv_at hl 3 rfl) ?_
              refine lv_iload hx hb dL_law_574 (lv_at hl 5 rfl) ?_
              obtain ⟨hk100, h⟩ := h
              obtain ⟨hroom101, h⟩ := h
              refine h_xcalli (vx_runV (As := [.int i6]) (rest := []) CF (c_X10_cost hflags h) (cwV 1 hts gL_law_X10_cost rfl rfl rfl (by decide +kernel) ⟨Nat.le_of_ble_eq_true rfl, Nat.le_of_ble_eq_true rfl⟩) (hc.swap.1.preV hk100 rfl (by decide)) rfl rfl hl.1 rfl (lv_room (Nat.le_of_ble_eq_true rfl)) dL_law_576 hroom101) (fun _ _ z => z) hc (fun x102 m104 H locs hq hc => ?_)
              replace h := hq
              have hroom := hroom101
              refine lv_if_lt (tgt := 612) hx hb dL_law_579 (by decide) (fun c105 => ?_) (fun c105 => ?_)
              · have h := h.1 c105
                exact hb_612 g m104 ((C + 1) + 1) ((S + 6) + 6) h hroom _ _ _ hc (lv_sub hl [] rfl)
              · have h := h.2 c105
                refine lv_aload_n hx hb dL_law_582 rfl (lv_at hl 3 rfl) ?_
                obtain ⟨hk106, h⟩ := h
                refine h_calll (va_runV (As := []) (rest := []) CF (c_X10_digest h) (cwV 0 hts gL_law_X10_digest rfl rfl rfl (by decide +kernel) ⟨Nat.le_of_ble_eq_true rfl, Nat.le_of_ble_eq_true rfl⟩) (hc.swap.1.preV hk106 rfl (by decide)) rfl rfl hl.1 rfl (lv_room (Nat.le_of_ble_eq_true rfl)) dL_law_583 hroom) hc (fun z107 m109 H locs hq hc => ?_)
                replace h := hq
                refine lv_lload hx hb dL_law_586 (lv_at hl 6 rfl) ?_
                refine W.lcmp hx hb dL_law_588 ?_
                refine lv_if_ne (tgt := 612) hx hb dL_law_589 (by decide) (fun c110 => ?_) (fun c110 => ?_)
                · have h := h.2 c110
                  exact hb_612 g m109 ((C + 1) + 1) ((S + 6) + 6) h hroom _ _ _ hc (lv_sub hl [] rfl)
                · have h := h.1 c110
                  refine lv_aload_n hx hb dL_law_592 rfl (lv_at hl 3 rfl) ?_
                  refine lv_iload hx hb dL_law_593 (lv_at hl 5 rfl) ?_
                  obtain ⟨hk111, h⟩ := h
                  obtain ⟨hroom112, h⟩ := h
                  refine h_xcalli (vx_runV (As := [.int i6]) (rest := []) CF (c_X10_search hflags h) (cwV 1 hts gL_law_X10_search rfl rfl rfl (by decide +kernel) ⟨Nat.le_of_ble_eq_true rfl, Nat.le_of_ble_eq_true rfl⟩) (hc.swap.1.preV hk111 rfl (by decide)) rfl rfl hl.1 rfl (lv_room (Nat.le_of_ble_eq_true rfl)) dL_law_595 hroom112) (fun _ _ z => z) hc (fun x113 m115 H locs hq hc => ?_)
                  replace h := hq
                  have hroom := hroom112
                  refine lv_iload hx hb dL_law_598 (lv_at hl 7 rfl) ?_
                  refine lv_icmp_ne (tgt := 612) hx hb dL_law_600 (by decide) (fun c116 => ?_) (fun c116 => ?_)
                  · have h := h.2 c116
                    exact hb_612 g m115 (((C + 1) + 1) + 1) (((S + 6) + 6) + 6) h hroom _ _ _ hc (lv_sub hl [] rfl)
                  · have h := h.1 c116
                    refine lv_aload_n hx hb dL_law_603 rfl (lv_at hl 3 rfl) ?_
                    obtain ⟨hk117, h⟩ := h
                    refine h_calli (va_runV (As := []) (rest := []) CF (c_X10_results h) (cwV 0 hts gL_law_X10_results rfl rfl rfl (by decide +kernel) ⟨Nat.le_of_ble_eq_true rfl, Nat.le_of_ble_eq_true rfl⟩) (hc.swap.1.preV hk117 rfl (by decide)) rfl rfl hl.1 rfl (lv_room (Nat.le_of_ble_eq_true rfl)) dL_law_604 hroom) hc (fun x118 m120 H locs hq hc => ?_)
                    obtain ⟨rfl, h⟩ := hq
                    refine lv_iload hx hb dL_law_607 (lv_at hl 7 rfl) ?_
                    refine lv_icmp_eq (tgt := 614) hx hb dL_law_609 (by decide) (fun c121 => ?_) (fun c121 => ?_)
                    · have h := h.1 c121
                      refine lv_iconst (v := 0) hx hb dL_law_614 (by decide) ?_
                      refine lv_istore (lv' := [(14, .int 0), (0, .ref b), (1, .int i1), (2, .ref r2), (3, .ref r3), (4, .int i4), (6, .int i6), (10, .long j10), (12, .int i12), (13, .int i13)]) hx hb dL_law_615 hl (by decide) rfl (fun ls hl => ?_)
                      refine lv_iconst (v := 0) hx hb dL_law_617 (by decide) ?_
                      refine lv_istore (lv' := [(15, .int 0), (14, .int 0), (0, .ref b), (1, .int i1), (2, .ref r2), (3, .ref r3), (4, .int i4), (6, .int i6), (10, .long j10), (12, .int i12), (13, .int i13)]) hx hb dL_law_618 hl (by decide) rfl (fun ls hl => ?_)
                      exact hb_620 g m115 i4 i6 i12 (((C + 1) + 1) + 1) (((S + 6) + 6) + 6) 0 0 h hroom _ _ _ hc (lv_sub hl [2, 3, 4, 5, 6, 7, 9, 1, 0] rfl)
                    · have h := h.2 c121
                      exact hb_612 g m115 (((C + 1) + 1) + 1) (((S + 6) + 6) + 6) h hroom _ _ _ hc (lv_sub hl [] rfl)
        · have h := h.2 c92
          refine lv_aload_n hx hb dL_law_462 rfl (lv_at hl 3 rfl) ?_
          refine lv_iload hx hb dL_law_463 (lv_at hl 5 rfl) ?_
          refine lv_iload hx hb dL_law_465 (lv_at hl 9 rfl) ?_
          obtain ⟨hk122, h⟩ := h
          obtain ⟨hroom123, h⟩ := h
          refine h_xcalli (vx_runV (As := [.int i6, .int i14]) (rest := []) CF (c_X10_score hflags h) (cwV 2 hts gL_law_X10_score rfl rfl rfl (by decide +kernel) ⟨Nat.le_of_ble_eq_true rfl, Nat.le_of_ble_eq_true rfl⟩) (hc.swap.1.preV hk122 rfl (by decide)) rfl rfl hl.1 rfl (lv_room (Nat.le_of_ble_eq_true rfl)) dL_law_467 hroom123) (fun _ _ z => z) hc (fun x124 m126 H locs hq hc => ?_)
          replace h := hq
          have hroom := hroom123
          refine lv_istore (lv' := [(15, .int x124), (0, .ref b), (1, .int i1), (2, .ref r2), (3, .ref r3), (4, .int i4), (6, .int i6), (10, .long j10), (12, .int i12), (13, .int i13), (14, .int i14)]) hx hb dL_law_470 hl (by decide) rfl (fun ls hl => ?_)
          refine lv_iload hx hb dL_law_472 (lv_at hl 0 rfl) ?_
          refine lv_if_lt (tgt := 487) hx hb dL_law_474 (by decide) (fun c127 => ?_) (fun c127 => ?_)
          · have h := h.1 c127
            exact hb_487 m126 (C + 1) (S + 6) i13 i14 x124 h hroom _ _ _ hc (lv_sub hl [1, 2, 3, 4, 5, 6, 7, 8, 9, 10, 0] rfl)
          · have h := h.2 c127
            refine lv_aload_n hx hb dL_law_477 rfl (lv_at hl 4 rfl) ?_
            refine lv_iload hx hb dL_law_478 (lv_at hl 10 rfl) ?_
            obtain ⟨hk128, h⟩ := h
            obtain ⟨hroom129, h⟩ := h
            refine h_xcalli (vx_runV (As := [.int i14]) (rest := []) CF (c_X10_stateOf hflags h) (cwV 1 hts gL_law_X10_stateOf rfl rfl rfl (by decide +kernel) ⟨Nat.le_of_ble_eq_true rfl, Nat.le_of_ble_eq_true rfl⟩) (hc.swap.1.preV hk128 rfl (by decide)) rfl rfl hl.1 rfl (lv_room (Nat.le_of_ble_eq_true rfl)) dL_law_480 hroom129) (fun _ _ z => z.2) hc (fun x130 m132 H locs hq hc => ?_)
            obtain ⟨rfl, h⟩ := hq
            have hroom := hroom129
            refine lv_iconst (v := 2) hx hb dL_law_483 (by decide) ?_
            refine lv_icmp_ne (tgt := 534) hx hb dL_law_484 (by decide) (fun c133 => ?_) (fun c133 => ?_)
            · have h := h.2 c133
              exact hb_534 m126 ((C + 1) + 1) ((S + 6) + 6) h hroom _ _ _ hc (lv_sub hl [] rfl)
            · have h := h.1 c133
              exact hb_487 m126 ((C + 1) + 1) ((S + 6) + 6) i13 i14 x124 h hroom _ _ _ hc (lv_sub hl [1, 2, 3, 4, 5, 6, 7, 8, 9, 10, 0] rfl)
      have hb_431 : ∀ (g : gS) (gm : gS) (C : Nat) (S : Nat), b_L_law_431 g gm C S b L xs k2 k80 → (C ≤ 600104 ∧ S ≤ 7301314) → ∀ (H : Heap) (locs : List Loc) (ls : Array Slot), hC D cA (fun q => s.heap.size ≤ q) s b L xs g gm H locs → lv_has ls 19 [] → W p l e room_1 s m #[Value.ref b] below meth c H locs C S (lw_Z below #[Value.ref b] s) (F0 m 431 ls []) := by
        intro g gm C S h hroom H locs ls hc hl
        unfold b_L_law_431 at h
        refine lv_iconst (v := 0) hx hb dL_law_431 (by decide) ?_
        exact h.elim
      have hb_427 : ∀ (g : gS) (gm : gS) (C : Nat) (S : Nat) (i4 : Int32) (i6 : Int32) (ds0 : UInt64) (ds1 : UInt64), b_L_law_427 g gm C S i1 r2 r3 i4 i6 ds0 ds1 b L xs k2 k80 → (C ≤ 600104 ∧ S ≤ 7301314) → ∀ (H : Heap) (locs : List Loc) (ls : Array Slot), hC D cA (fun q => s.heap.size ≤ q) s b L xs g gm H locs → lv_has ls 19 [(0, .ref b), (1, .int i1), (2, .ref r2), (3, .ref r3), (4, .int i4), (6, .int i6)] → W p l e room_1 s m #[Value.ref b] below meth c H locs C S (lw_Z below #[Value.ref b] s) (F0 m 427 ls [.double ds1, .double ds0]) := by
        intro g gm C S i4 i6 ds0 ds1 h hroom H locs ls hc hl
        unfold b_L_law_427 at h
        refine lv_dcmp hx hb dL_law_427 ?_
        refine lv_if_eq (tgt := 433) hx hb dL_law_428 (by decide) (fun c134 => ?_) (fun c134 => ?_)
        · have h := h.1 c134
          refine lv_aload_n hx hb dL_law_433 rfl (lv_at hl 3 rfl) ?_
          obtain ⟨hk135, h⟩ := h
          refine h_calll (va_runV (As := []) (rest := []) CF (c_X10_digest h) (cwV 0 hts gL_law_X10_digest rfl rfl rfl (by decide +kernel) ⟨Nat.le_of_ble_eq_true rfl, Nat.le_of_ble_eq_true rfl⟩) (hc.swap.1.preV hk135 rfl (by decide)) rfl rfl hl.1 rfl (lv_room (Nat.le_of_ble_eq_true rfl)) dL_law_434 hroom) hc (fun z136 m138 H locs hq hc => ?_)
          replace h := hq
          refine lv_lstore (lv' := [(10, .long z136), (0, .ref b), (1, .int i1), (2, .ref r2), (3, .ref r3), (4, .int i4), (6, .int i6)]) hx hb dL_law_437 hl (by decide) rfl (fun ls hl => ?_)
          refine lv_aload_n hx hb dL_law_439 rfl (lv_at hl 4 rfl) ?_
          refine lv_iload hx hb dL_law_440 (lv_at hl 6 rfl) ?_
          obtain ⟨hk139, h⟩ := h
          obtain ⟨hroom140, h⟩ := h
          refine h_xcalli (vx_runV (As := [.int i6]) (rest := []) CF (c_X10_found hflags h) (cwV 1 hts gL_law_X10_found rfl rfl rfl (by decide +kernel) ⟨Nat.le_of_ble_eq_true rfl, Nat.le_of_ble_eq_true rfl⟩) (hc.swap.1.preV hk139 rfl (by decide)) rfl rfl hl.1 rfl (lv_room (Nat.le_of_ble_eq_true rfl)) dL_law_442 hroom140) (fun _ _ z => z) hc (fun x141 m143 H locs hq hc => ?_)
          replace h := hq
          have hroom := hroom140
          refine lv_istore (lv' := [(12, .int x141), (10, .long z136), (0, .ref b), (1, .int i1), (2, .ref r2), (3, .ref r3), (4, .int i4), (6, .int i6)]) hx hb dL_law_445 hl (by decide) rfl (fun ls hl => ?_)
          refine lv_iconst (v := 0) hx hb dL_law_447 (by decide) ?_
          refine lv_istore (lv' := [(13, .int 0), (12, .int x141), (10, .long z136), (0, .ref b), (1, .int i1), (2, .ref r2), (3, .ref r3), (4, .int i4), (6, .int i6)]) hx hb dL_law_448 hl (by decide) rfl (fun ls hl => ?_)
          refine lv_iconst (v := 0) hx hb dL_law_450 (by decide) ?_
          refine lv_istore (lv' := [(14, .int 0), (13, .int 0), (12, .int x141), (10, .long z136), (0, .ref b), (1, .int i1), (2, .ref r2), (3, .ref r3), (4, .int i4), (6, .int i6)]) hx hb dL_law_451 hl (by decide) rfl (fun ls hl => ?_)
          exact hb_453 g i4 i6 z136 x141 m143 (C + 1) (S + 6) 0 0 h hroom _ _ _ hc (lv_sub hl [4, 5, 6, 7, 8, 9, 3, 2, 1, 0] rfl)
        · have h := h.2 c134
          exact hb_431 g gm C S h hroom _ _ _ hc (lv_sub hl [] rfl)
      have hb_362 : ∀ (g : gS) (gm : gS) (i4 : Int32) (i6 : Int32) (i8 : Int32), ∀ (C : Nat) (S : Nat) (i9 : Int32) (i10 : Int32), lpx4 (l_L_law_362 g gm i1 r2 r3 i4 i6 i8 b L xs k2 k80) C S i9 i10 → (C ≤ 600104 ∧ S ≤ 7301314) → ∀ (H : Heap) (locs : List Loc) (ls : Array Slot), hC D cA (fun q => s.heap.size ≤ q) s b L xs g gm H locs → lv_has ls 19 [(0, .ref b), (1, .int i1), (2, .ref r2), (3, .ref r3), (4, .int i4), (6, .int i6), (8, .int i8), (9, .int i9), (10, .int i10)] → W p l e room_1 s m #[Value.ref b] below meth c H locs C S (lw_Z below #[Value.ref b] s) (F0 m 362 ls []) := by
        intro g gm i4 i6 i8
        refine lpx4_run (P := fun (C : Nat) (S : Nat) (i9 : Int32) (i10 : Int32) => (C ≤ 600104 ∧ S ≤ 7301314) → ∀ (H : Heap) (locs : List Loc) (ls : Array Slot), hC D cA (fun q => s.heap.size ≤ q) s b L xs g gm H locs → lv_has ls 19 [(0, .ref b), (1, .int i1), (2, .ref r2), (3, .ref r3), (4, .int i4), (6, .int i6), (8, .int i8), (9, .int i9), (10, .int i10)] → W p l e room_1 s m #[Value.ref b] below meth c H locs C S (lw_Z below #[Value.ref b] s) (F0 m 362 ls [])) ?_
        intro k362 hk_362 C S i9 i10 h hroom H locs ls hc hl
        have hb_388 : ∀ (C : Nat) (S : Nat) (i10 : Int32) (is0 : Int32) (is1 : Int32), b_L_law_388 g gm C S i1 r2 r3 i4 i6 i8 i10 is0 is1 b L xs k2 k80 k362 → (C ≤ 600104 ∧ S ≤ 7301314) → ∀ (H : Heap) (locs : List Loc) (ls : Array Slot), hC D cA (fun q => s.heap.size ≤ q) s b L xs g gm H locs → lv_has ls 19 [(0, .ref b), (1, .int i1), (2, .ref r2), (3, .ref r3), (4, .int i4), (6, .int i6), (8, .int i8), (10, .int i10)] → W p l e room_1 s m #[Value.ref b] below meth c H locs C S (lw_Z below #[Value.ref b] s) (F0 m 388 ls [.int is1, .int is0]) := by
          intro C S i10 is0 is1 h hroom H locs ls hc hl
          unfold b_L_law_388 at h
          refine lv_iadd hx hb dL_law_388 ?_
          refine lv_istore (lv' := [(9, .int (is0 + is1)), (0, .ref b), (1, .int i1), (2, .ref r2), (3, .ref r3), (4, .int i4), (6, .int i6), (8, .int i8), (10, .int i10)]) hx hb dL_law_389 hl (by decide) rfl (fun ls hl => ?_)
          refine lv_iinc (v := (i10 + 1)) (lv' := [(10, .int (i10 + 1)), (9, .int (is0 + is1)), (0, .ref b), (1, .int i1), (2, .ref r2), (3, .ref r3), (4, .int i4), (6, .int i6), (8, .int i8)]) hx hb dL_law_391 hl (k := 8) rfl rfl (by decide) rfl (fun ls hl => ?_)
          refine lv_goto (tgt := 362) hx hb dL_law_394 (by decide) ?_
          exact hk_362 C S (is0 + is1) (i10 + 1) h hroom _ _ _ hc (lv_sub hl [2, 3, 4, 5, 6, 7, 8, 1, 0] rfl)
        unfold l_L_law_362 at h
        refine lv_iload hx hb dL_law_362 (lv_at hl 8 rfl) ?_
        refine lv_aload_n hx hb dL_law_364 rfl (lv_at hl 2 rfl) ?_
        obtain ⟨hk144, h⟩ := h
        refine g_get CF hc.1 hk144 rfl (by decide) (fun _ h9 => List.mem_append_left _ (List.mem_append_left _ (List.mem_append_left _ (List.mem_append_left _ (List.mem_append_left _ (List.mem_append_left _ (List.mem_append_left _ (List.mem_append_left _ (List.mem_append_left _ (List.mem_append_left _ (List.mem_append_left _ (List.mem_append_left _ (List.mem_append_left _ (List.mem_append_left _ (List.mem_append_left _ (List.mem_append_right _ (h9))))))))))))))))) (k := 3) (by decide) (List.mem_append_left _ (List.mem_append_left _ (List.mem_append_left _ (List.mem_append_left _ (List.mem_append_left _ (List.mem_append_left _ (List.mem_append_left _ (List.mem_append_left _ (List.mem_append_left _ (List.mem_append_left _ (List.mem_append_left _ (List.mem_append_left _ (List.mem_append_left _ (List.mem_append_left _ (List.mem_append_left _ (List.mem_append_left _ (List.mem_append_left _ (List.mem_of_getElem? (i := 5) rfl)))))))))))))))))) rfl dL_law_365 ?_
        refine lv_icmp_ge (tgt := 397) hx hb dL_law_368 (by decide) (fun c145 => ?_) (fun c145 => ?_)
        · have h := h.1 c145
          refine lv_iload hx hb dL_law_397 (lv_at hl 7 rfl) ?_
          refine lv_iload hx hb dL_law_399 (lv_at hl 6 rfl) ?_
          refine lv_icmp_gt (tgt := 431) hx hb dL_law_401 (by decide) (fun c146 => ?_) (fun c146 => ?_)
          · have h := h.1 c146
            exact hb_431 g gm C S h hroom _ _ _ hc (lv_sub hl [] rfl)
          · have h := h.2 c146
            refine lv_aload_n hx hb dL_law_404 rfl (lv_at hl 3 rfl) ?_
            obtain ⟨hk147, h⟩ := h
            refine h_calld (va_runV (As := []) (rest := []) CF (c_X10_waste h) (cwV 0 hts gL_law_X10_waste rfl rfl rfl (by decide +kernel) ⟨Nat.le_of_ble_eq_true rfl, Nat.le_of_ble_eq_true rfl⟩) (hc.swap.1.preV hk147 rfl (by decide)) rfl rfl hl.1 rfl (lv_room (Nat.le_of_ble_eq_true rfl)) dL_law_405 hroom) hc (fun u148 m150 H locs hq hc => ?_)
            obtain ⟨rfl, h⟩ := hq
            refine lv_iload hx hb dL_law_408 (lv_at hl 6 rfl) ?_
            refine lv_if_ne (tgt := 417) hx hb dL_law_410 (by decide) (fun c151 => ?_) (fun c151 => ?_)
            · have h := h.2 c151
              refine lv_iload hx hb dL_law_417 (lv_at hl 6 rfl) ?_
              refine lv_iload hx hb dL_law_419 (lv_at hl 7 rfl) ?_
              refine lv_isub hx hb dL_law_421 ?_
              refine lv_i2d hx hb dL_law_422 ?_
              refine lv_iload hx hb dL_law_423 (lv_at hl 6 rfl) ?_
              refine lv_i2d hx hb dL_law_425 ?_
              obtain ⟨hz152, h⟩ := h
              refine lv_ddiv hx hb dL_law_426 hz152 ?_
              exact hb_427 g gm C S i4 i6 u148 (FP.ddiv (FP.i2d (i8 - i9)) (FP.i2d i8)) h hroom _ _ _ hc (lv_sub hl [0, 1, 2, 3, 4, 5] rfl)
            · have h := h.1 c151
              refine lv_dconst0 hx hb dL_law_413 ?_
              refine lv_goto (tgt := 427) hx hb dL_law_414 (by decide) ?_
              exact hb_427 g gm C S i4 i6 u148 (0 : UInt64) h hroom _ _ _ hc (lv_sub hl [0, 1, 2, 3, 4, 5] rfl)
        · have h := h.2 c145
          refine lv_iload hx hb dL_law_371 (lv_at hl 7 rfl) ?_
          refine lv_aload_n hx hb dL_law_373 rfl (lv_at hl 3 rfl) ?_
          refine lv_iload hx hb dL_law_374 (lv_at hl 8 rfl) ?_
          obtain ⟨hk153, h⟩ := h
          obtain ⟨hroom154, h⟩ := h
          refine h_xcalli (vx_runV (As := [.int i10]) (rest := [.int i9]) CF (c_X10_stateOf hflags h) (cwV 1 hts gL_law_X10_stateOf rfl rfl rfl (by decide +kernel) ⟨Nat.le_of_ble_eq_true rfl, Nat.le_of_ble_eq_true rfl⟩) (hc.swap.1.preV hk153 rfl (by decide)) rfl rfl hl.1 rfl (lv_room (Nat.le_of_ble_eq_true rfl)) dL_law_376 hroom154) (fun _ _ z => z.2) hc (fun x155 m157 H locs hq hc => ?_)
          obtain ⟨rfl, h⟩ := hq
          have hroom := hroom154
          refine lv_iconst (v := 2) hx hb dL_law_379 (by decide) ?_
          refine lv_icmp_ne (tgt := 387) hx hb dL_law_380 (by decide) (fun c158 => ?_) (fun c158 => ?_)
          · have h := h.2 c158
            refine lv_iconst (v := 0) hx hb dL_law_387 (by decide) ?_
            exact hb_388 (C + 1) (S + 6) i10 i9 0 h hroom _ _ _ hc (lv_sub hl [0, 1, 2, 3, 4, 5, 6, 8] rfl)
          · have h := h.1 c158
            refine lv_iconst (v := 1) hx hb dL_law_383 (by decide) ?_
            refine lv_goto (tgt := 388) hx hb dL_law_384 (by decide) ?_
            exact hb_388 (C + 1) (S + 6) i10 i9 1 h hroom _ _ _ hc (lv_sub hl [0, 1, 2, 3, 4, 5, 6, 8] rfl)
      have hb_332 : ∀ (g : gS) (gm : gS) (i4 : Int32) (i6 : Int32) (i7 : Int32), ∀ (C : Nat) (S : Nat) (i8 : Int32) (i9 : Int32), lpx4 (l_L_law_332 g gm i1 r2 r3 i4 i6 i7 b L xs k2 k80) C S i8 i9 → (C ≤ 600104 ∧ S ≤ 7301314) → ∀ (H : Heap) (locs : List Loc) (ls : Array Slot), hC D cA (fun q => s.heap.size ≤ q) s b L xs g gm H locs → lv_has ls 19 [(0, .ref b), (1, .int i1), (2, .ref r2), (3, .ref r3), (4, .int i4), (6, .int i6), (7, .int i7), (8, .int i8), (9, .int i9)] → W p l e room_1 s m #[Value.ref b] below meth c H locs C S (lw_Z below #[Value.ref b] s) (F0 m 332 ls []) := by
        intro g gm i4 i6 i7
        refine lpx4_run (P := fun (C : Nat) (S : Nat) (i8 : Int32) (i9 : Int32) => (C ≤ 600104 ∧ S ≤ 7301314) → ∀ (H : Heap) (locs : List Loc) (ls : Array Slot), hC D cA (fun q => s.heap.size ≤ q) s b L xs g gm H locs → lv_has ls 19 [(0, .ref b), (1, .int i1), (2, .ref r2), (3, .ref r3), (4, .int i4), (6, .int i6), (7, .int i7), (8, .int i8), (9, .int i9)] → W p l e room_1 s m #[Value.ref b] below meth c H locs C S (lw_Z below #[Value.ref b] s) (F0 m 332 ls [])) ?_
        intro k332 hk_332 C S i8 i9 h hroom H locs ls hc hl
        unfold l_L_law_332 at h
        refine lv_iload hx hb dL_law_332 (lv_at hl 8 rfl) ?_
        refine lv_iload hx hb dL_law_334 (lv_at hl 6 rfl) ?_
        refine lv_icmp_ge (tgt := 356) hx hb dL_law_336 (by decide) (fun c159 => ?_) (fun c159 => ?_)
        · have h := h.1 c159
          refine lv_iconst (v := 0) hx hb dL_law_356 (by decide) ?_
          refine lv_istore (lv' := [(9, .int 0), (0, .ref b), (1, .int i1), (2, .ref r2), (3, .ref r3), (4, .int i4), (6, .int i6), (7, .int i7), (8, .int i8)]) hx hb dL_law_357 hl (by decide) rfl (fun ls hl => ?_)
          refine lv_iconst (v := 0) hx hb dL_law_359 (by decide) ?_
          refine lv_istore (lv' := [(10, .int 0), (9, .int 0), (0, .ref b), (1, .int i1), (2, .ref r2), (3, .ref r3), (4, .int i4), (6, .int i6), (7, .int i7), (8, .int i8)]) hx hb dL_law_360 hl (by decide) rfl (fun ls hl => ?_)
          exact hb_362 g gm i4 i6 i8 C S 0 0 h hroom _ _ _ hc (lv_sub hl [2, 3, 4, 5, 6, 7, 9, 1, 0] rfl)
        · have h := h.2 c159
          refine lv_iload hx hb dL_law_339 (lv_at hl 7 rfl) ?_
          refine lv_aload_n hx hb dL_law_341 rfl (lv_at hl 3 rfl) ?_
          refine lv_iload hx hb dL_law_342 (lv_at hl 8 rfl) ?_
          obtain ⟨hk160, h⟩ := h
          obtain ⟨hroom161, h⟩ := h
          refine h_xcalli (vx_runV (As := [.int i9]) (rest := [.int i8]) CF (c_X10_sizeOf hflags h) (cwV 1 hts gL_law_X10_sizeOf rfl rfl rfl (by decide +kernel) ⟨Nat.le_of_ble_eq_true rfl, Nat.le_of_ble_eq_true rfl⟩) (hc.swap.1.preV hk160 rfl (by decide)) rfl rfl hl.1 rfl (lv_room (Nat.le_of_ble_eq_true rfl)) dL_law_344 hroom161) (fun _ _ z => z.2) hc (fun x162 m164 H locs hq hc => ?_)
          obtain ⟨rfl, h⟩ := hq
          have hroom := hroom161
          refine lv_iadd hx hb dL_law_347 ?_
          refine lv_istore (lv' := [(8, .int (i8 + x162)), (0, .ref b), (1, .int i1), (2, .ref r2), (3, .ref r3), (4, .int i4), (6, .int i6), (7, .int i7), (9, .int i9)]) hx hb dL_law_348 hl (by decide) rfl (fun ls hl => ?_)
          refine lv_iinc (v := (i9 + 1)) (lv' := [(9, .int (i9 + 1)), (8, .int (i8 + x162)), (0, .ref b), (1, .int i1), (2, .ref r2), (3, .ref r3), (4, .int i4), (6, .int i6), (7, .int i7)]) hx hb dL_law_350 hl (k := 8) rfl rfl (by decide) rfl (fun ls hl => ?_)
          refine lv_goto (tgt := 332) hx hb dL_law_353 (by decide) ?_
          exact hk_332 (C + 1) (S + 6) (i8 + x162) (i9 + 1) h hroom _ _ _ hc (lv_sub hl [2, 3, 4, 5, 6, 7, 8, 1, 0] rfl)
      have hb_326 : ∀ (g : gS) (gm : gS) (C : Nat) (S : Nat) (i4 : Int32) (i6 : Int32) (i7 : Int32), b_L_law_326 g gm C S i1 r2 r3 i4 i6 i7 b L xs k2 k80 → (C ≤ 600104 ∧ S ≤ 7301314) → ∀ (H : Heap) (locs : List Loc) (ls : Array Slot), hC D cA (fun q => s.heap.size ≤ q) s b L xs g gm H locs → lv_has ls 19 [(0, .ref b), (1, .int i1), (2, .ref r2), (3, .ref r3), (4, .int i4), (6, .int i6), (7, .int i7)] → W p l e room_1 s m #[Value.ref b] below meth c H locs C S (lw_Z below #[Value.ref b] s) (F0 m 326 ls []) := by
        intro g gm C S i4 i6 i7 h hroom H locs ls hc hl
        unfold b_L_law_326 at h
        refine lv_iconst (v := 0) hx hb dL_law_326 (by decide) ?_
        refine lv_istore (lv' := [(8, .int 0), (0, .ref b), (1, .int i1), (2, .ref r2), (3, .ref r3), (4, .int i4), (6, .int i6), (7, .int i7)]) hx hb dL_law_327 hl (by decide) rfl (fun ls hl => ?_)
        refine lv_iconst (v := 0) hx hb dL_law_329 (by decide) ?_
        refine lv_istore (lv' := [(9, .int 0), (8, .int 0), (0, .ref b), (1, .int i1), (2, .ref r2), (3, .ref r3), (4, .int i4), (6, .int i6), (7, .int i7)]) hx hb dL_law_330 hl (by decide) rfl (fun ls hl => ?_)
        exact hb_332 g gm i4 i6 i7 C S 0 0 h hroom _ _ _ hc (lv_sub hl [2, 3, 4, 5, 6, 7, 8, 1, 0] rfl)
      have hb_268 : ∀ (g : gS) (gm : gS) (C : Nat) (S : Nat) (i4 : Int32) (i5 : Int32) (i6 : Int32), b_L_law_268 g gm C S i1 r2 r3 i4 i5 i6 b L xs k2 k80 → (C ≤ 600104 ∧ S ≤ 7301314) → ∀ (H : Heap) (locs : List Loc) (ls : Array Slot), hC D cA (fun q => s.heap.size ≤ q) s b L xs g gm H locs → lv_has ls 19 [(0, .ref b), (1, .int i1), (2, .ref r2), (3, .ref r3), (4, .int i4), (5, .int i5), (6, .int i6)] → W p l e room_1 s m #[Value.ref b] below meth c H locs C S (lw_Z below #[Value.ref b] s) (F0 m 268 ls []) := by
        intro g gm C S i4 i5 i6 h hroom H locs ls hc hl
        unfold b_L_law_268 at h
        refine lv_aload_n hx hb dL_law_268 rfl (lv_at hl 3 rfl) ?_
        obtain ⟨hk165, h⟩ := h
        refine h_calli (va_runV (As := []) (rest := []) CF (c_X10_segments h) (cwV 0 hts gL_law_X10_segments rfl rfl rfl (by decide +kernel) ⟨Nat.le_of_ble_eq_true rfl, Nat.le_of_ble_eq_true rfl⟩) (hc.swap.1.preV hk165 rfl (by decide)) rfl rfl hl.1 rfl (lv_room (Nat.le_of_ble_eq_true rfl)) dL_law_269 hroom) hc (fun x166 m168 H locs hq hc => ?_)
        obtain ⟨rfl, h⟩ := hq
        refine lv_istore (lv' := [(7, .int x166), (0, .ref b), (1, .int i1), (2, .ref r2), (3, .ref r3), (4, .int i4), (5, .int i5), (6, .int i6)]) hx hb dL_law_272 hl (by decide) rfl (fun ls hl => ?_)
        refine lv_iload hx hb dL_law_274 (lv_at hl 6 rfl) ?_
        refine lv_iconst (v := 4) hx hb dL_law_276 (by decide) ?_
        refine lv_icmp_ge (tgt := 326) hx hb dL_law_277 (by decide) (fun c169 => ?_) (fun c169 => ?_)
        · have h := h.1 c169
          exact hb_326 g gm C S i4 i6 x166 h hroom _ _ _ hc (lv_sub hl [1, 2, 3, 4, 5, 7, 0] rfl)
        · have h := h.2 c169
          refine lv_iload hx hb dL_law_280 (lv_at hl 0 rfl) ?_
          refine lv_iconst (v := 2) hx hb dL_law_282 (by decide) ?_
          refine lv_icmp_le (tgt := 326) hx hb dL_law_283 (by decide) (fun c170 => ?_) (fun c170 => ?_)
          · have h := h.1 c170
            exact hb_326 g gm C S i4 i6 x166 h hroom _ _ _ hc (lv_sub hl [1, 2, 3, 4, 5, 7, 0] rfl)
          · have h := h.2 c170
            refine lv_aload_n hx hb dL_law_286 rfl (lv_at hl 4 rfl) ?_
            refine lv_iload hx hb dL_law_287 (lv_at hl 0 rfl) ?_
            refine lv_iconst (v := 1) hx hb dL_law_289 (by decide) ?_
            refine lv_isub hx hb dL_law_290 ?_
            obtain ⟨hroom171, h⟩ := h
            refine h_xcalli (vx_runV (As := [.int (x166 - 1)]) (rest := []) CF (c_X10_tierOf hflags h) (cwV 1 hts gL_law_X10_tierOf rfl rfl rfl (by decide +kernel) ⟨Nat.le_of_ble_eq_true rfl, Nat.le_of_ble_eq_true rfl⟩) (hc.swap.1.preV hk165 rfl (by decide)) rfl rfl hl.1 rfl (lv_room (Nat.le_of_ble_eq_true rfl)) dL_law_291 hroom171) (fun _ _ z => z.2) hc (fun x172 m174 H locs hq hc => ?_)
            obtain ⟨rfl, h⟩ := hq
            have hroom := hroom171
            refine lv_aload_n hx hb dL_law_294 rfl (lv_at hl 4 rfl) ?_
            refine lv_iload hx hb dL_law_295 (lv_at hl 0 rfl) ?_
            refine lv_iconst (v := 2) hx hb dL_law_297 (by decide) ?_
            refine lv_isub hx hb dL_law_298 ?_
            obtain ⟨hroom175, h⟩ := h
            refine h_xcalli (vx_runV (As := [.int (x166 - 2)]) (rest := [.int x172]) CF (c_X10_tierOf hflags h) (cwV 1 hts gL_law_X10_tierOf rfl rfl rfl (by decide +kernel) ⟨Nat.le_of_ble_eq_true rfl, Nat.le_of_ble_eq_true rfl⟩) (hc.swap.1.preV hk165 rfl (by decide)) rfl rfl hl.1 rfl (lv_room (Nat.le_of_ble_eq_true rfl)) dL_law_299 hroom175) (fun _ _ z => z.2) hc (fun x176 m178 H locs hq hc => ?_)
            obtain ⟨rfl, h⟩ := hq
            have hroom := hroom175
            refine lv_icmp_ne (tgt := 326) hx hb dL_law_302 (by decide) (fun c179 => ?_) (fun c179 => ?_)
            · have h := h.2 c179
              exact hb_326 g gm ((C + 1) + 1) ((S + 6) + 6) i4 i6 x166 h hroom _ _ _ hc (lv_sub hl [1, 2, 3, 4, 5, 7, 0] rfl)
            · have h := h.1 c179
              refine lv_aload_n hx hb dL_law_305 rfl (lv_at hl 4 rfl) ?_
              refine lv_iload hx hb dL_law_306 (lv_at hl 0 rfl) ?_
              refine lv_iconst (v := 2) hx hb dL_law_308 (by decide) ?_
              refine lv_isub hx hb dL_law_309 ?_
              obtain ⟨hroom180, h⟩ := h
              refine h_xcalli (vx_runV (As := [.int (x166 - 2)]) (rest := []) CF (c_X10_tierOf hflags h) (cwV 1 hts gL_law_X10_tierOf rfl rfl rfl (by decide +kernel) ⟨Nat.le_of_ble_eq_true rfl, Nat.le_of_ble_eq_true rfl⟩) (hc.swap.1.preV hk165 rfl (by decide)) rfl rfl hl.1 rfl (lv_room (Nat.le_of_ble_eq_true rfl)) dL_law_310 hroom180) (fun _ _ z => z.2) hc (fun x181 m183 H locs hq hc => ?_)
              obtain ⟨rfl, h⟩ := hq
              have hroom := hroom180
              refine lv_aload_n hx hb dL_law_313 rfl (lv_at hl 4 rfl) ?_
              refine lv_iload hx hb dL_law_314 (lv_at hl 0 rfl) ?_
              refine lv_iconst (v := 3) hx hb dL_law_316 (by decide) ?_
              refine lv_isub hx hb dL_law_317 ?_
              obtain ⟨hroom184, h⟩ := h
              refine h_xcalli (vx_runV (As := [.int (x166 - 3)]) (rest := [.int x181]) CF (c_X10_tierOf hflags h) (cwV 1 hts gL_law_X10_tierOf rfl rfl rfl (by decide +kernel) ⟨Nat.le_of_ble_eq_true rfl, Nat.le_of_ble_eq_true rfl⟩) (hc.swap.1.preV hk165 rfl (by decide)) rfl rfl hl.1 rfl (lv_room (Nat.le_of_ble_eq_true rfl)) dL_law_318 hroom184) (fun _ _ z => z.2) hc (fun x185 m187 H locs hq hc => ?_)
              obtain ⟨rfl, h⟩ := hq
              have hroom := hroom184
              refine lv_icmp_ne (tgt := 326) hx hb dL_law_321 (by decide) (fun c188 => ?_) (fun c188 => ?_)
              · have h := h.2 c188
                exact hb_326 g gm ((((C + 1) + 1) + 1) + 1) ((((S + 6) + 6) + 6) + 6) i4 i6 x166 h hroom _ _ _ hc (lv_sub hl [1, 2, 3, 4, 5, 7, 0] rfl)
              · have h := h.1 c188
                refine lv_iconst (v := 0) hx hb dL_law_324 (by decide) ?_
                exact h.elim
      have hb_235 : ∀ (g : gS) (i4 : Int32) (i5 : Int32) (i6 : Int32) (r7 : Nat), ∀ (gm : gS) (C : Nat) (S : Nat) (i9 : Int32), lpx4 (l_L_law_235 g i1 r2 r3 i4 i5 i6 r7 b L xs k2 k80) gm C S i9 → (C ≤ 600104 ∧ S ≤ 7301314) → ∀ (H : Heap) (locs : List Loc) (ls : Array Slot), hC D cA (fun q => s.heap.size ≤ q) s b L xs g gm H locs → lv_has ls 19 [(0, .ref b), (1, .int i1), (2, .ref r2), (3, .ref r3), (4, .int i4), (5, .int i5), (6, .int i6), (7, .ref r7), (9, .int i9)] → W p l e room_1 s m #[Value.ref b] below meth c H locs C S (lw_Z below #[Value.ref b] s) (F0 m 235 ls []) := by
        intro g i4 i5 i6 r7
        refine lpx4_run (P := fun (gm : gS) (C : Nat) (S : Nat) (i9 : Int32) => (C ≤ 600104 ∧ S ≤ 7301314) → ∀ (H : Heap) (locs : List Loc) (ls : Array Slot), hC D cA (fun q => s.heap.size ≤ q) s b L xs g gm H locs → lv_has ls 19 [(0, .ref b), (1, .int i1), (2, .ref r2), (3, .ref r3), (4, .int i4), (5, .int i5), (6, .int i6), (7, .ref r7), (9, .int i9)] → W p l e room_1 s m #[Value.ref b] below meth c H locs C S (lw_Z below #[Value.ref b] s) (F0 m 235 ls [])) ?_
        intro k235 hk_235 gm C S i9 h hroom H locs ls hc hl
        unfold l_L_law_235 at h
        refine lv_iload hx hb dL_law_235 (lv_at hl 8 rfl) ?_
        refine lv_aload_n hx hb dL_law_237 rfl (lv_at hl 2 rfl) ?_
        obtain ⟨hk189, h⟩ := h
        refine g_get CF hc.1 hk189 rfl (by decide) (fun _ h9 => List.mem_append_left _ (List.mem_append_left _ (List.mem_append_left _ (List.mem_append_left _ (List.mem_append_left _ (List.mem_append_left _ (List.mem_append_left _ (List.mem_append_left _ (List.mem_append_left _ (List.mem_append_left _ (List.mem_append_left _ (List.mem_append_left _ (List.mem_append_left _ (List.mem_append_left _ (List.mem_append_left _ (List.mem_append_right _ (h9))))))))))))))))) (k := 3) (by decide) (List.mem_append_left _ (List.mem_append_left _ (List.mem_append_left _ (List.mem_append_left _ (List.mem_append_left _ (List.mem_append_left _ (List.mem_append_left _ (List.mem_append_left _ (List.mem_append_left _ (List.mem_append_left _ (List.mem_append_left _ (List.mem_append_left _ (List.mem_append_left _ (List.mem_append_left _ (List.mem_append_left _ (List.mem_append_left _ (List.mem_append_left _ (List.mem_of_getElem? (i := 5) rfl)))))))))))))))))) rfl dL_law_238 ?_
        refine lv_icmp_ge (tgt := 268) hx hb dL_law_241 (by decide) (fun c190 => ?_) (fun c190 => ?_)
        · have h := h.1 c190
          exact hb_268 g gm C S i4 i5 i6 h hroom _ _ _ hc (lv_sub hl [0, 1, 2, 3, 4, 5, 6] rfl)
        · have h := h.2 c190
          refine lv_aload_n hx hb dL_law_244 rfl (lv_at hl 3 rfl) ?_
          refine lv_iload hx hb dL_law_245 (lv_at hl 6 rfl) ?_
          refine lv_iload hx hb dL_law_247 (lv_at hl 8 rfl) ?_
          obtain ⟨hk191, h⟩ := h
          obtain ⟨hroom192, h⟩ := h
          refine h_xcalli (vx_runV (As := [.int i6, .int i9]) (rest := []) CF (c_X10_score hflags h) (cwV 2 hts gL_law_X10_score rfl rfl rfl (by decide +kernel) ⟨Nat.le_of_ble_eq_true rfl, Nat.le_of_ble_eq_true rfl⟩) (hc.swap.1.preV hk191 rfl (by decide)) rfl rfl hl.1 rfl (lv_room (Nat.le_of_ble_eq_true rfl)) dL_law_249 hroom192) (fun _ _ z => z) hc (fun x193 m195 H locs hq hc => ?_)
          replace h := hq
          have hroom := hroom192
          refine lv_aload hx hb dL_law_252 (lv_at hl 7 rfl) ?_
          refine lv_iload hx hb dL_law_254 (lv_at hl 8 rfl) ?_
          obtain ⟨hk197, h⟩ := h
          obtain ⟨hi196, h⟩ := h
          refine g_iald CF hc.1 hk197 hi196 dL_law_256 ?_
          refine lv_icmp_eq (tgt := 262) hx hb dL_law_257 (by decide) (fun c198 => ?_) (fun c198 => ?_)
          · have h := h.1 c198
            refine lv_iinc (v := (i9 + 1)) (lv' := [(9, .int (i9 + 1)), (0, .ref b), (1, .int i1), (2, .ref r2), (3, .ref r3), (4, .int i4), (5, .int i5), (6, .int i6), (7, .ref r7)]) hx hb dL_law_262 hl (k := 8) rfl rfl (by decide) rfl (fun ls hl => ?_)
            refine lv_goto (tgt := 235) hx hb dL_law_265 (by decide) ?_
            exact hk_235 m195 (C + 1) (S + 6) (i9 + 1) h hroom _ _ _ hc (lv_sub hl [1, 2, 3, 4, 5, 6, 7, 8, 0] rfl)
          · have h := h.2 c198
            refine lv_iconst (v := 0) hx hb dL_law_260 (by decide) ?_
            exact h.elim
      have hb_230 : ∀ (g : gS) (gm : gS) (C : Nat) (S : Nat), b_L_law_230 g gm C S b L xs k2 k80 → (C ≤ 600104 ∧ S ≤ 7301314) → ∀ (H : Heap) (locs : List Loc) (ls : Array Slot), hC D cA (fun q => s.heap.size ≤ q) s b L xs g gm H locs → lv_has ls 19 [] → W p l e room_1 s m #[Value.ref b] below meth c H locs C S (lw_Z below #[Value.ref b] s) (F0 m 230 ls []) := by
        intro g gm C S h hroom H locs ls hc hl
        unfold b_L_law_230 at h
        refine lv_iconst (v := 0) hx hb dL_law_230 (by decide) ?_
        exact h.elim
      have hb_169 : ∀ (i4 : Int32) (i5 : Int32) (i6 : Int32) (r7 : Nat), ∀ (g : gS) (gm : gS) (C : Nat) (S : Nat) (i8 : Int32), lpx5 (l_L_law_169 i1 r2 r3 i4 i5 i6 r7 b L xs k2 k80) g gm C S i8 → (C ≤ 600104 ∧ S ≤ 7301314) → ∀ (H : Heap) (locs : List Loc) (ls : Array Slot), hC D cA (fun q => s.heap.size ≤ q) s b L xs g gm H locs → lv_has ls 19 [(0, .ref b), (1, .int i1), (2, .ref r2), (3, .ref r3), (4, .int i4), (5, .int i5), (6, .int i6), (7, .ref r7), (8, .int i8)] → W p l e room_1 s m #[Value.ref b] below meth c H locs C S (lw_Z below #[Value.ref b] s) (F0 m 169 ls []) := by
        intro i4 i5 i6 r7
        refine lpx5_run (P := fun (g : gS) (gm : gS) (C : Nat) (S : Nat) (i8 : Int32) => (C ≤ 600104 ∧ S ≤ 7301314) → ∀ (H : Heap) (locs : List Loc) (ls : Array Slot), hC D cA (fun q => s.heap.size ≤ q) s b L xs g gm H locs → lv_has ls 19 [(0, .ref b), (1, .int i1), (2, .ref r2), (3, .ref r3), (4, .int i4), (5, .int i5), (6, .int i6), (7, .ref r7), (8, .int i8)] → W p l e room_1 s m #[Value.ref b] below meth c H locs C S (lw_Z below #[Value.ref b] s) (F0 m 169 ls [])) ?_
        intro k169 hk_169 g gm C S i8 h hroom H locs ls hc hl
        unfold l_L_law_169 at h
        refine lv_iload hx hb dL_law_169 (lv_at hl 8 rfl) ?_
        refine lv_aload_n hx hb dL_law_171 rfl (lv_at hl 2 rfl) ?_
        obtain ⟨hk199, h⟩ := h
        refine g_get CF hc.1 hk199 rfl (by decide) (fun _ h9 => List.mem_append_left _ (List.mem_append_left _ (List.mem_append_left _ (List.mem_append_left _ (List.mem_append_left _ (List.mem_append_left _ (List.mem_append_left _ (List.mem_append_left _ (List.mem_append_left _ (List.mem_append_left _ (List.mem_append_left _ (List.mem_append_left _ (List.mem_append_left _ (List.mem_append_left _ (List.mem_append_left _ (List.mem_append_right _ (h9))))))))))))))))) (k := 3) (by decide) (List.mem_append_left _ (List.mem_append_left _ (List.mem_append_left _ (List.mem_append_left _ (List.mem_append_left _ (List.mem_append_left _ (List.mem_append_left _ (List.mem_append_left _ (List.mem_append_left _ (List.mem_append_left _ (List.mem_append_left _ (List.mem_append_left _ (List.mem_append_left _ (List.mem_append_left _ (List.mem_append_left _ (List.mem_append_left _ (List.mem_append_left _ (List.mem_of_getElem? (i := 5) rfl)))))))))))))))))) rfl dL_law_172 ?_
        refine lv_icmp_ge (tgt := 197) hx hb dL_law_175 (by decide) (fun c200 => ?_) (fun c200 => ?_)
        · have h := h.1 c200
          refine lv_aload_n hx hb dL_law_197 rfl (lv_at hl 3 rfl) ?_
          refine lv_iload hx hb dL_law_198 (lv_at hl 6 rfl) ?_
          obtain ⟨hk201, h⟩ := h
          obtain ⟨hroom202, h⟩ := h
          refine h_xcalli (vx_runV (As := [.int i6]) (rest := []) CF (c_X10_found hflags h) (cwV 1 hts gL_law_X10_found rfl rfl rfl (by decide +kernel) ⟨Nat.le_of_ble_eq_true rfl, Nat.le_of_ble_eq_true rfl⟩) (hc.swap.1.preV hk201 rfl (by decide)) rfl rfl hl.1 rfl (lv_room (Nat.le_of_ble_eq_true rfl)) dL_law_200 hroom202) (fun _ _ z => z) hc (fun x203 m205 H locs hq hc => ?_)
          replace h := hq
          have hroom := hroom202
          refine lv_istore (lv' := [(8, .int x203), (0, .ref b), (1, .int i1), (2, .ref r2), (3, .ref r3), (4, .int i4), (5, .int i5), (6, .int i6), (7, .ref r7)]) hx hb dL_law_203 hl (by decide) rfl (fun ls hl => ?_)
          refine lv_aload_n hx hb dL_law_205 rfl (lv_at hl 3 rfl) ?_
          obtain ⟨hroom206, h⟩ := h
          refine hh_calli (va_runV (As := []) (rest := []) CF (c_X11_flush (mc := 220) (ms := 14000) h) (cwV 0 hts gL_law_X11_flush rfl rfl rfl (by decide +kernel) ⟨Nat.le_of_ble_eq_true rfl, Nat.le_of_ble_eq_true rfl⟩) (hc.preV hk199 rfl (by decide)) rfl rfl hl.1 rfl (lv_room (Nat.le_of_ble_eq_true rfl)) dL_law_206 hroom206) hc (fun x207 g208 m209 H locs hq hc => ?_)
          replace h := hq
          have hroom := hroom206
          refine lv_if_eq (tgt := 230) hx hb dL_law_209 (by decide) (fun c210 => ?_) (fun c210 => ?_)
          · have h := h.1 c210
            exact hb_230 g208 m209 ((C + 1) + 220) ((S + 6) + 14000) h hroom _ _ _ hc (lv_sub hl [] rfl)
          · have h := h.2 c210
            refine lv_aload_n hx hb dL_law_212 rfl (lv_at hl 3 rfl) ?_
            obtain ⟨hk211, h⟩ := h
            obtain ⟨hroom212, h⟩ := h
            refine hh_calli (va_runV (As := []) (rest := []) CF (c_X11_compact (mc := 20) (ms := 1300) h) (cwV 0 hts gL_law_X11_compact rfl rfl rfl (by decide +kernel) ⟨Nat.le_of_ble_eq_true rfl, Nat.le_of_ble_eq_true rfl⟩) (hc.preV hk211 rfl (by decide)) rfl rfl hl.1 rfl (lv_room (Nat.le_of_ble_eq_true rfl)) dL_law_213 hroom212) hc (fun x213 g214 m215 H locs hq hc => ?_)
            replace h := hq
            have hroom := hroom212
            refine lv_if_eq (tgt := 230) hx hb dL_law_216 (by decide) (fun c216 => ?_) (fun c216 => ?_)
            · have h := h.1 c216
              exact hb_230 g214 m215 (((C + 1) + 220) + 20) (((S + 6) + 14000) + 1300) h hroom _ _ _ hc (lv_sub hl [] rfl)
            · have h := h.2 c216
              refine lv_aload_n hx hb dL_law_219 rfl (lv_at hl 4 rfl) ?_
              refine lv_iload hx hb dL_law_220 (lv_at hl 7 rfl) ?_
              obtain ⟨hk217, h⟩ := h
              obtain ⟨hroom218, h⟩ := h
              refine h_xcalli (vx_runV (As := [.int i6]) (rest := []) CF (c_X10_found hflags h) (cwV 1 hts gL_law_X10_found rfl rfl rfl (by decide +kernel) ⟨Nat.le_of_ble_eq_true rfl, Nat.le_of_ble_eq_true rfl⟩) (hc.swap.1.preV hk217 rfl (by decide)) rfl rfl hl.1 rfl (lv_room (Nat.le_of_ble_eq_true rfl)) dL_law_222 hroom218) (fun _ _ z => z) hc (fun x219 m221 H locs hq hc => ?_)
              replace h := hq
              have hroom := hroom218
              refine lv_iload hx hb dL_law_225 (lv_at hl 0 rfl) ?_
              refine lv_icmp_ge (tgt := 232) hx hb dL_law_227 (by decide) (fun c222 => ?_) (fun c222 => ?_)
              · have h := h.1 c222
                refine lv_iconst (v := 0) hx hb dL_law_232 (by decide) ?_
                refine lv_istore (lv' := [(9, .int 0), (8, .int x203), (0, .ref b), (1, .int i1), (2, .ref r2), (3, .ref r3), (4, .int i4), (5, .int i5), (6, .int i6), (7, .ref r7)]) hx hb dL_law_233 hl (by decide) rfl (fun ls hl => ?_)
                exact hb_235 g214 i4 i5 i6 r7 m221 ((((C + 1) + 220) + 20) + 1) ((((S + 6) + 14000) + 1300) + 6) 0 h hroom _ _ _ hc (lv_sub hl [2, 3, 4, 5, 6, 7, 8, 9, 0] rfl)
              · have h := h.2 c222
                exact hb_230 g214 m221 ((((C + 1) + 220) + 20) + 1) ((((S + 6) + 14000) + 1300) + 6) h hroom _ _ _ hc (lv_sub hl [] rfl)
        · have h := h.2 c200
          refine lv_aload hx hb dL_law_178 (lv_at hl 7 rfl) ?_
          refine lv_iload hx hb dL_law_180 (lv_at hl 8 rfl) ?_
          refine lv_aload_n hx hb dL_law_182 rfl (lv_at hl 3 rfl) ?_
          refine lv_iload hx hb dL_law_183 (lv_at hl 6 rfl) ?_
          refine lv_iload hx hb dL_law_185 (lv_at hl 8 rfl) ?_
          obtain ⟨hk223, h⟩ := h
          obtain ⟨hroom224, h⟩ := h
          refine h_xcalli (vx_runV (As := [.int i6, .int i8]) (rest := [.int i8, .ref r7]) CF (c_X10_wouldScore hflags h) (cwV 2 hts gL_law_X10_wouldScore rfl rfl rfl (by decide +kernel) ⟨Nat.le_of_ble_eq_true rfl, Nat.le_of_ble_eq_true rfl⟩) (hc.swap.1.preV hk223 rfl (by decide)) rfl rfl hl.1 rfl (lv_room (Nat.le_of_ble_eq_true rfl)) dL_law_187 hroom224) (fun _ _ z => z) hc (fun x225 m227 H locs hq hc => ?_)
          replace h := hq
          have hroom := hroom224
          obtain ⟨hk228, h⟩ := h
          obtain ⟨hi229, h⟩ := h
          refine g_iast CF hc.join (hc.jk hk228 (by decide)) (x := x225) (by rw [hc.jn (by rw [hk228]; decide)]; exact hi229) dL_law_190 (fun H locs hc1 => ?_)
          have hc := hc.putU (by rw [hk228]; decide) hc1
          obtain ⟨g230, eg231⟩ : ∃ z, z = sU g r7 (Int32.toNatClampNeg i8) x225 := ⟨_, rfl⟩
          have hc : hC D cA (fun q => s.heap.size ≤ q) s b L xs g230 m227 H locs := by rw [eg231]; exact hc
          replace h := h g230 eg231
          refine lv_iinc (v := (i8 + 1)) (lv' := [(8, .int (i8 + 1)), (0, .ref b), (1, .int i1), (2, .ref r2), (3, .ref r3), (4, .int i4), (5, .int i5), (6, .int i6), (7, .ref r7)]) hx hb dL_law_191 hl (k := 8) rfl rfl (by decide) rfl (fun ls hl => ?_)
          refine lv_goto (tgt := 169) hx hb dL_law_194 (by decide) ?_
          exact hk_169 g230 m227 (C + 1) (S + 6) (i8 + 1) h hroom _ _ _ hc (lv_sub hl [1, 2, 3, 4, 5, 6, 7, 8, 0] rfl)
      have hb_152 : ∀ (g : gS) (gm : gS) (C : Nat) (S : Nat) (i4 : Int32) (i5 : Int32) (i6 : Int32), b_L_law_152 g gm C S i1 r2 r3 i4 i5 i6 b L xs k2 k80 → (C ≤ 600104 ∧ S ≤ 7301314) → ∀ (H : Heap) (locs : List Loc) (ls : Array Slot), hC D cA (fun q => s.heap.size ≤ q) s b L xs g gm H locs → lv_has ls 19 [(0, .ref b), (1, .int i1), (2, .ref r2), (3, .ref r3), (4, .int i4), (5, .int i5), (6, .int i6)] → W p l e room_1 s m #[Value.ref b] below meth c H locs C S (lw_Z below #[Value.ref b] s) (F0 m 152 ls []) := by
        intro g gm C S i4 i5 i6 h hroom H locs ls hc hl
        unfold b_L_law_152 at h
        refine lv_iload hx hb dL_law_152 (lv_at hl 5 rfl) ?_
        refine lv_iconst (v := 5) hx hb dL_law_154 (by decide) ?_
        refine lv_icmp_ne (tgt := 268) hx hb dL_law_155 (by decide) (fun c232 => ?_) (fun c232 => ?_)
        · have h := h.2 c232
          exact hb_268 g gm C S i4 i5 i6 h hroom _ _ _ hc (lv_sub hl [0, 1, 2, 3, 4, 5, 6] rfl)
        · have h := h.1 c232
          refine lv_aload_n hx hb dL_law_158 rfl (lv_at hl 2 rfl) ?_
          obtain ⟨hk233, h⟩ := h
          refine g_get CF hc.1 hk233 rfl (by decide) (fun _ h9 => List.mem_append_left _ (List.mem_append_left _ (List.mem_append_left _ (List.mem_append_left _ (List.mem_append_left _ (List.mem_append_left _ (List.mem_append_left _ (List.mem_append_left _ (List.mem_append_left _ (List.mem_append_left _ (List.mem_append_left _ (List.mem_append_left _ (List.mem_append_left _ (List.mem_append_left _ (List.mem_append_left _ (List.mem_append_right _ (h9))))))))))))))))) (k := 3) (by decide) (List.mem_append_left _ (List.mem_append_left _ (List.mem_append_left _ (List.mem_append_left _ (List.mem_append_left _ (List.mem_append_left _ (List.mem_append_left _ (List.mem_append_left _ (List.mem_append_left _ (List.mem_append_left _ (List.mem_append_left _ (List.mem_append_left _ (List.mem_append_left _ (List.mem_append_left _ (List.mem_append_left _ (List.mem_append_left _ (List.mem_append_left _ (List.mem_of_getElem? (i := 5) rfl)))))))))))))))))) rfl dL_law_159 ?_
          obtain ⟨hn236, h⟩ := h
          obtain ⟨hroom237, h⟩ := h
          refine g_newi CF hc.join (List.mem_append_left _ (List.mem_append_left _ (List.mem_append_left _ (List.mem_append_left _ (List.mem_append_left _ (List.mem_append_left _ (List.mem_append_left _ (List.mem_append_left _ (List.mem_append_left _ (List.mem_append_left _ (List.mem_append_left _ (List.mem_append_left _ (List.mem_append_left _ (List.mem_append_left _ (List.mem_append_left _ (List.mem_append_left _ (List.mem_append_left _ (List.mem_of_getElem? (i := 6) rfl)))))))))))))))))) (n := (gI g r2 3)) (N := (Int32.toNatClampNeg (gI g r2 3))) hn236.1 rfl (by have := hn236.2; omega) hroom237.1 hroom237.2 dL_law_162 (fun q234 H locs hq235 hc1 => ?_)
          obtain ⟨hf238, hf238m, hc⟩ := hc.made hq235 (by decide) hc1
          replace h := h q234 hf238
          have hroom := hroom237
          have hc := hc
          obtain ⟨g239, eg240⟩ : ∃ z, z = sNew g q234 21 (Int32.toNatClampNeg (gI g r2 3)) := ⟨_, rfl⟩
          have hc : hC D cA (fun q => s.heap.size ≤ q) s b L xs g239 gm H locs := by rw [eg240]; exact hc
          replace h := h g239 eg240
          refine lv_astore (lv' := [(7, .ref q234), (0, .ref b), (1, .int i1), (2, .ref r2), (3, .ref r3), (4, .int i4), (5, .int i5), (6, .int i6)]) hx hb dL_law_164 hl (by decide) rfl (fun ls hl => ?_)
          refine lv_iconst (v := 0) hx hb dL_law_166 (by decide) ?_
          refine lv_istore (lv' := [(8, .int 0), (7, .ref q234), (0, .ref b), (1, .int i1), (2, .ref r2), (3, .ref r3), (4, .int i4), (5, .int i5), (6, .int i6)]) hx hb dL_law_167 hl (by decide) rfl (fun ls hl => ?_)
          exact hb_169 i4 i5 i6 q234 g239 gm (C + 1) (S + (Int32.toNatClampNeg (gI g r2 3))) 0 h hroom _ _ _ hc (lv_sub hl [2, 3, 4, 5, 6, 7, 8, 1, 0] rfl)
      have hb_150 : ∀ (g : gS) (gm : gS) (C : Nat) (S : Nat), b_L_law_150 g gm C S b L xs k2 k80 → (C ≤ 600104 ∧ S ≤ 7301314) → ∀ (H : Heap) (locs : List Loc) (ls : Array Slot), hC D cA (fun q => s.heap.size ≤ q) s b L xs g gm H locs → lv_has ls 19 [] → W p l e room_1 s m #[Value.ref b] below meth c H locs C S (lw_Z below #[Value.ref b] s) (F0 m 150 ls []) := by
        intro g gm C S h hroom H locs ls hc hl
        unfold b_L_law_150 at h
        refine lv_iconst (v := 0) hx hb dL_law_150 (by decide) ?_
        exact h.elim
      have hb_137 : ∀ (g : gS) (gm : gS) (C : Nat) (S : Nat) (i4 : Int32) (i5 : Int32) (i6 : Int32), b_L_law_137 g gm C S i1 r2 r3 i4 i5 i6 b L xs k2 k80 → (C ≤ 600104 ∧ S ≤ 7301314) → ∀ (H : Heap) (locs : List Loc) (ls : Array Slot), hC D cA (fun q => s.heap.size ≤ q) s b L xs g gm H locs → lv_has ls 19 [(0, .ref b), (1, .int i1), (2, .ref r2), (3, .ref r3), (4, .int i4), (5, .int i5), (6, .int i6)] → W p l e room_1 s m #[Value.ref b] below meth c H locs C S (lw_Z below #[Value.ref b] s) (F0 m 137 ls []) := by
        intro g gm C S i4 i5 i6 h hroom H locs ls hc hl
        unfold b_L_law_137 at h
        refine lv_iload hx hb dL_law_137 (lv_at hl 5 rfl) ?_
        refine lv_iconst (v := 4) hx hb dL_law_139 (by decide) ?_
        refine lv_icmp_ne (tgt := 152) hx hb dL_law_140 (by decide) (fun c241 => ?_) (fun c241 => ?_)
        · have h := h.2 c241
          exact hb_152 g gm C S i4 i5 i6 h hroom _ _ _ hc (lv_sub hl [0, 1, 2, 3, 4, 5, 6] rfl)
        · have h := h.1 c241
          refine lv_aload_n hx hb dL_law_143 rfl (lv_at hl 2 rfl) ?_
          obtain ⟨hk242, h⟩ := h
          obtain ⟨hroom243, h⟩ := h
          refine hh_calli (va_runV (As := []) (rest := []) CF (c_X11_remove (mc := 2) (ms := 12) hflags h) (cwV 0 hts gL_law_X11_remove rfl rfl rfl (by decide +kernel) ⟨Nat.le_of_ble_eq_true rfl, Nat.le_of_ble_eq_true rfl⟩) (hc.preV hk242 rfl (by decide)) rfl rfl hl.1 rfl (lv_room (Nat.le_of_ble_eq_true rfl)) dL_law_144 hroom243) hc (fun x244 g245 m246 H locs hq hc => ?_)
          replace h := hq
          have hroom := hroom243
          refine lv_if_ne (tgt := 152) hx hb dL_law_147 (by decide) (fun c247 => ?_) (fun c247 => ?_)
          · have h := h.2 c247
            exact hb_152 g245 m246 (C + 2) (S + 12) i4 i5 i6 h hroom _ _ _ hc (lv_sub hl [0, 1, 2, 3, 4, 5, 6] rfl)
          · have h := h.1 c247
            exact hb_150 g245 m246 (C + 2) (S + 12) h hroom _ _ _ hc (lv_sub hl [] rfl)
      have hb_118 : ∀ (g : gS) (gm : gS) (C : Nat) (S : Nat) (i4 : Int32) (i5 : Int32) (i6 : Int32), b_L_law_118 g gm C S i1 r2 r3 i4 i5 i6 b L xs k2 k80 → (C ≤ 600104 ∧ S ≤ 7301314) → ∀ (H : Heap) (locs : List Loc) (ls : Array Slot), hC D cA (fun q => s.heap.size ≤ q) s b L xs g gm H locs → lv_has ls 19 [(0, .ref b), (1, .int i1), (2, .ref r2), (3, .ref r3), (4, .int i4), (5, .int i5), (6, .int i6)] → W p l e room_1 s m #[Value.ref b] below meth c H locs C S (lw_Z below #[Value.ref b] s) (F0 m 118 ls []) := by
        intro g gm C S i4 i5 i6 h hroom H locs ls hc hl
        unfold b_L_law_118 at h
        refine lv_iload hx hb dL_law_118 (lv_at hl 5 rfl) ?_
        refine lv_iconst (v := 1) hx hb dL_law_120 (by decide) ?_
        refine lv_icmp_le (tgt := 137) hx hb dL_law_121 (by decide) (fun c248 => ?_) (fun c248 => ?_)
        · have h := h.1 c248
          exact hb_137 g gm C S i4 i5 i6 h hroom _ _ _ hc (lv_sub hl [0, 1, 2, 3, 4, 5, 6] rfl)
        · have h := h.2 c248
          refine lv_iload hx hb dL_law_124 (lv_at hl 5 rfl) ?_
          refine lv_iconst (v := 4) hx hb dL_law_126 (by decide) ?_
          refine lv_icmp_ge (tgt := 137) hx hb dL_law_127 (by decide) (fun c249 => ?_) (fun c249 => ?_)
          · have h := h.1 c249
            exact hb_137 g gm C S i4 i5 i6 h hroom _ _ _ hc (lv_sub hl [0, 1, 2, 3, 4, 5, 6] rfl)
          · have h := h.2 c249
            refine lv_aload_n hx hb dL_law_130 rfl (lv_at hl 2 rfl) ?_
            obtain ⟨hk250, h⟩ := h
            obtain ⟨hroom251, h⟩ := h
            refine hh_calli (va_runV (As := []) (rest := []) CF (c_X11_flush (mc := 220) (ms := 14000) h) (cwV 0 hts gL_law_X11_flush rfl rfl rfl (by decide +kernel) ⟨Nat.le_of_ble_eq_true rfl, Nat.le_of_ble_eq_true rfl⟩) (hc.preV hk250 rfl (by decide)) rfl rfl hl.1 rfl (lv_room (Nat.le_of_ble_eq_true rfl)) dL_law_131 hroom251) hc (fun x252 g253 m254 H locs hq hc => ?_)
            replace h := hq
            have hroom := hroom251
            refine lv_if_eq (tgt := 150) hx hb dL_law_134 (by decide) (fun c255 => ?_) (fun c255 => ?_)
            · have h := h.1 c255
              exact hb_150 g253 m254 (C + 220) (S + 14000) h hroom _ _ _ hc (lv_sub hl [] rfl)
            · have h := h.2 c255
              exact hb_137 g253 m254 (C + 220) (S + 14000) i4 i5 i6 h hroom _ _ _ hc (lv_sub hl [0, 1, 2, 3, 4, 5, 6] rfl)
      unfold l_L_law_80 at h
      refine lv_iload hx hb dL_law_80 (lv_at hl 4 rfl) ?_
      refine lv_bipush (v := 10) hx hb dL_law_82 (by decide) ?_
      refine lv_icmp_ge (tgt := 803) hx hb dL_law_84 (by decide) (fun c256 => ?_) (fun c256 => ?_)
      · have h := h.1 c256
        refine lv_iinc (v := (i1 + 1)) (lv' := [(1, .int (i1 + 1)), (0, .ref b), (2, .ref r2), (3, .ref r3), (4, .int i4)]) hx hb dL_law_803 hl (k := 1) rfl rfl (by decide) rfl (fun ls hl => ?_)
        refine lv_goto (tgt := 2) hx hb dL_law_806 (by decide) ?_
        exact hk_2 g gm C S (i1 + 1) h hroom _ _ _ hc (lv_sub hl [1, 0] rfl)
      · have h := h.2 c256
        refine lv_aload_n hx hb dL_law_87 rfl (lv_at hl 2 rfl) ?_
        refine lv_bipush (v := 6) hx hb dL_law_88 (by decide) ?_
        obtain ⟨hk257, h⟩ := h
        replace h := wm_X11_draw h
        refine hh_calli (va_runV (As := [.int 6]) (rest := []) CF (c_X11_draw h) (cwV 1 hts gL_law_X11_draw rfl rfl rfl (by decide +kernel) ⟨Nat.le_of_ble_eq_true rfl, Nat.le_of_ble_eq_true rfl⟩) (hc.preV hk257 rfl (by decide)) rfl rfl hl.1 rfl (lv_room (Nat.le_of_ble_eq_true rfl)) dL_law_90 hroom) hc (fun x258 g259 m260 H locs hq hc => ?_)
        obtain ⟨rfl, h⟩ := hq
        refine lv_istore (lv' := [(5, .int x258), (0, .ref b), (1, .int i1), (2, .ref r2), (3, .ref r3), (4, .int i4)]) hx hb dL_law_93 hl (by decide) rfl (fun ls hl => ?_)
        refine lv_aload_n hx hb dL_law_95 rfl (lv_at hl 3 rfl) ?_
        refine lv_aload_n hx hb dL_law_96 rfl (lv_at hl 3 rfl) ?_
        obtain ⟨hk261, h⟩ := h
        refine g_get CF hc.1 hk261 rfl (by decide) (fun _ h9 => List.mem_append_left _ (List.mem_append_left _ (List.mem_append_left _ (List.mem_append_left _ (List.mem_append_left _ (List.mem_append_left _ (List.mem_append_left _ (List.mem_append_left _ (List.mem_append_left _ (List.mem_append_left _ (List.mem_append_left _ (List.mem_append_left _ (List.mem_append_left _ (List.mem_append_left _ (List.mem_append_left _ (List.mem_append_right _ (h9))))))))))))))))) (k := 13) (by decide) (List.mem_append_left _ (List.mem_append_left _ (List.mem_append_left _ (List.mem_append_left _ (List.mem_append_left _ (List.mem_append_left _ (List.mem_append_left _ (List.mem_append_left _ (List.mem_append_left _ (List.mem_append_left _ (List.mem_append_left _ (List.mem_append_left _ (List.mem_append_left _ (List.mem_append_left _ (List.mem_append_left _ (List.mem_append_left _ (List.mem_append_left _ (List.mem_of_getElem? (i := 4) rfl)))))))))))))))))) rfl dL_law_97 ?_
        replace h := wm_X11_draw h
        refine hh_calli (va_runV (As := [.int (gI g259 r2 13)]) (rest := []) CF (c_X11_draw h) (cwV 1 hts gL_law_X11_draw rfl rfl rfl (by decide +kernel) ⟨Nat.le_of_ble_eq_true rfl, Nat.le_of_ble_eq_true rfl⟩) (hc.preV hk261 rfl (by decide)) rfl rfl hl.1 rfl (lv_room (Nat.le_of_ble_eq_true rfl)) dL_law_100 hroom) hc (fun x262 g263 m264 H locs hq hc => ?_)
        obtain ⟨rfl, h⟩ := hq
        refine lv_istore (lv' := [(6, .int x262), (5, .int x258), (0, .ref b), (1, .int i1), (2, .ref r2), (3, .ref r3), (4, .int i4)]) hx hb dL_law_103 hl (by decide) rfl (fun ls hl => ?_)
        refine lv_iload hx hb dL_law_105 (lv_at hl 1 rfl) ?_
        refine lv_iconst (v := 2) hx hb dL_law_107 (by decide) ?_
        refine lv_icmp_ge (tgt := 118) hx hb dL_law_108 (by decide) (fun c265 => ?_) (fun c265 => ?_)
        · have h := h.1 c265
          exact hb_118 g263 gm C S i4 x258 x262 h hroom _ _ _ hc (lv_sub hl [2, 3, 4, 5, 6, 1, 0] rfl)
        · have h := h.2 c265
          refine lv_aload_n hx hb dL_law_111 rfl (lv_at hl 4 rfl) ?_
          obtain ⟨hk266, h⟩ := h
          obtain ⟨hroom267, h⟩ := h
          refine hh_calli (va_runV (As := []) (rest := []) CF (c_X11_add (mc := 60) (ms := 3000) hflags h) (cwV 0 hts gL_law_X11_add rfl rfl rfl (by decide +kernel) ⟨Nat.le_of_ble_eq_true rfl, Nat.le_of_ble_eq_true rfl⟩) (hc.preV hk266 rfl (by decide)) rfl rfl hl.1 rfl (lv_room (Nat.le_of_ble_eq_true rfl)) dL_law_112 hroom267) hc (fun x268 g269 m270 H locs hq hc => ?_)
          replace h := hq
          have hroom := hroom267
          refine lv_if_eq (tgt := 150) hx hb dL_law_115 (by decide) (fun c271 => ?_) (fun c271 => ?_)
          · have h := h.1 c271
            exact hb_150 g269 m270 (C + 60) (S + 3000) h hroom _ _ _ hc (lv_sub hl [] rfl)
          · have h := h.2 c271
            exact hb_118 g269 m270 (C + 60) (S + 3000) i4 x258 x262 h hroom _ _ _ hc (lv_sub hl [2, 3, 4, 5, 6, 1, 0] rfl)
    have hb_55 : ∀ (i1 : Int32) (r2 : Nat) (r3 : Nat), ∀ (g : gS) (gm : gS) (C : Nat) (S : Nat) (i4 : Int32), lpx5 (l_L_law_55 i1 r2 r3 b L xs k2) g gm C S i4 → (C ≤ 600104 ∧ S ≤ 7301314) → ∀ (H : Heap) (locs : List Loc) (ls : Array Slot), hC D cA (fun q => s.heap.size ≤ q) s b L xs g gm H locs → lv_has ls 19 [(0, .ref b), (1, .int i1), (2, .ref r2), (3, .ref r3), (4, .int i4)] → W p l e room_1 s m #[Value.ref b] below meth c H locs C S (lw_Z below #[Value.ref b] s) (F0 m 55 ls []) := by
      intro i1 r2 r3
      refine lpx5_run (P := fun (g : gS) (gm : gS) (C : Nat) (S : Nat) (i4 : Int32) => (C ≤ 600104 ∧ S ≤ 7301314) → ∀ (H : Heap) (locs : List Loc) (ls : Array Slot), hC D cA (fun q => s.heap.size ≤ q) s b L xs g gm H locs → lv_has ls 19 [(0, .ref b), (1, .int i1), (2, .ref r2), (3, .ref r3), (4, .int i4)] → W p l e room_1 s m #[Value.ref b] below meth c H locs C S (lw_Z below #[Value.ref b] s) (F0 m 55 ls [])) ?_
      intro k55 hk_55 g gm C S i4 h hroom H locs ls hc hl
      unfold l_L_law_55 at h
      refine lv_iload hx hb dL_law_55 (lv_at hl 4 rfl) ?_
      refine lv_bipush (v := 8) hx hb dL_law_57 (by decide) ?_
      refine lv_icmp_ge (tgt := 77) hx hb dL_law_59 (by decide) (fun c272 => ?_) (fun c272 => ?_)
      · have h := h.1 c272
        refine lv_iconst (v := 0) hx hb dL_law_77 (by decide) ?_
        refine lv_istore (lv' := [(4, .int 0), (0, .ref b), (1, .int i1), (2, .ref r2), (3, .ref r3)]) hx hb dL_law_78 hl (by decide) rfl (fun ls hl => ?_)
        exact hb_80 i1 r2 r3 g gm C S 0 h hroom _ _ _ hc (lv_sub hl [1, 2, 3, 4, 0] rfl)
      · have h := h.2 c272
        refine lv_aload_n hx hb dL_law_62 rfl (lv_at hl 2 rfl) ?_
        obtain ⟨hk273, h⟩ := h
        obtain ⟨hroom274, h⟩ := h
        refine hh_calli (va_runV (As := []) (rest := []) CF (c_X11_query (mc := 4) (ms := 60) hflags h) (cwV 0 hts gL_law_X11_query rfl rfl rfl (by decide +kernel) ⟨Nat.le_of_ble_eq_true rfl, Nat.le_of_ble_eq_true rfl⟩) (hc.preV hk273 rfl (by decide)) rfl rfl hl.1 rfl (lv_room (Nat.le_of_ble_eq_true rfl)) dL_law_63 hroom274) hc (fun x275 g276 m277 H locs hq hc => ?_)
        replace h := hq
        have hroom := hroom274
        refine lv_if_ne (tgt := 71) hx hb dL_law_66 (by decide) (fun c278 => ?_) (fun c278 => ?_)
        · have h := h.2 c278
          refine lv_iinc (v := (i4 + 1)) (lv' := [(4, .int (i4 + 1)), (0, .ref b), (1, .int i1), (2, .ref r2), (3, .ref r3)]) hx hb dL_law_71 hl (k := 4) rfl rfl (by decide) rfl (fun ls hl => ?_)
          refine lv_goto (tgt := 55) hx hb dL_law_74 (by decide) ?_
          exact hk_55 g276 m277 (C + 4) (S + 60) (i4 + 1) h hroom _ _ _ hc (lv_sub hl [1, 2, 3, 4, 0] rfl)
        · have h := h.1 c278
          refine lv_iconst (v := 0) hx hb dL_law_69 (by decide) ?_
          exact h.elim
    have hb_31 : ∀ (i1 : Int32) (r2 : Nat) (r3 : Nat), ∀ (g : gS) (gm : gS) (C : Nat) (S : Nat) (i4 : Int32), lpx5 (l_L_law_31 i1 r2 r3 b L xs k2) g gm C S i4 → (C ≤ 600104 ∧ S ≤ 7301314) → ∀ (H : Heap) (locs : List Loc) (ls : Array Slot), hC D cA (fun q => s.heap.size ≤ q) s b L xs g gm H locs → lv_has ls 19 [(0, .ref b), (1, .int i1), (2, .ref r2), (3, .ref r3), (4, .int i4)] → W p l e room_1 s m #[Value.ref b] below meth c H locs C S (lw_Z below #[Value.ref b] s) (F0 m 31 ls []) := by
      intro i1 r2 r3
      refine lpx5_run (P := fun (g : gS) (gm : gS) (C : Nat) (S : Nat) (i4 : Int32) => (C ≤ 600104 ∧ S ≤ 7301314) → ∀ (H : Heap) (locs : List Loc) (ls : Array Slot), hC D cA (fun q => s.heap.size ≤ q) s b L xs g gm H locs → lv_has ls 19 [(0, .ref b), (1, .int i1), (2, .ref r2), (3, .ref r3), (4, .int i4)] → W p l e room_1 s m #[Value.ref b] below meth c H locs C S (lw_Z below #[Value.ref b] s) (F0 m 31 ls [])) ?_
      intro k31 hk_31 g gm C S i4 h hroom H locs ls hc hl
      unfold l_L_law_31 at h
      refine lv_iload hx hb dL_law_31 (lv_at hl 4 rfl) ?_
      refine lv_iconst (v := 3) hx hb dL_law_33 (by decide) ?_
      refine lv_icmp_ge (tgt := 52) hx hb dL_law_34 (by decide) (fun c279 => ?_) (fun c279 => ?_)
      · have h := h.1 c279
        refine lv_iconst (v := 0) hx hb dL_law_52 (by decide) ?_
        refine lv_istore (lv' := [(4, .int 0), (0, .ref b), (1, .int i1), (2, .ref r2), (3, .ref r3)]) hx hb dL_law_53 hl (by decide) rfl (fun ls hl => ?_)
        exact hb_55 i1 r2 r3 g gm C S 0 h hroom _ _ _ hc (lv_sub hl [1, 2, 3, 4, 0] rfl)
      · have h := h.2 c279
        refine lv_aload_n hx hb dL_law_37 rfl (lv_at hl 2 rfl) ?_
        obtain ⟨hk280, h⟩ := h
        obtain ⟨hroom281, h⟩ := h
        refine hh_calli (va_runV (As := []) (rest := []) CF (c_X11_add (mc := 60) (ms := 3000) hflags h) (cwV 0 hts gL_law_X11_add rfl rfl rfl (by decide +kernel) ⟨Nat.le_of_ble_eq_true rfl, Nat.le_of_ble_eq_true rfl⟩) (hc.preV hk280 rfl (by decide)) rfl rfl hl.1 rfl (lv_room (Nat.le_of_ble_eq_true rfl)) dL_law_38 hroom281) hc (fun x282 g283 m284 H locs hq hc => ?_)
        replace h := hq
        have hroom := hroom281
        refine lv_if_ne (tgt := 46) hx hb dL_law_41 (by decide) (fun c285 => ?_) (fun c285 => ?_)
        · have h := h.2 c285
          refine lv_iinc (v := (i4 + 1)) (lv' := [(4, .int (i4 + 1)), (0, .ref b), (1, .int i1), (2, .ref r2), (3, .ref r3)]) hx hb dL_law_46 hl (k := 4) rfl rfl (by decide) rfl (fun ls hl => ?_)
          refine lv_goto (tgt := 31) hx hb dL_law_49 (by decide) ?_
          exact hk_31 g283 m284 (C + 60) (S + 3000) (i4 + 1) h hroom _ _ _ hc (lv_sub hl [1, 2, 3, 4, 0] rfl)
        · have h := h.1 c285
          refine lv_iconst (v := 0) hx hb dL_law_44 (by decide) ?_
          exact h.elim
    unfold l_L_law_2 at h
    refine lv_iload_n hx hb dL_law_2 rfl (lv_at hl 1 rfl) ?_
    refine lv_iconst (v := 3) hx hb dL_law_3 (by decide) ?_
    refine lv_icmp_ge (tgt := 809) hx hb dL_law_4 (by decide) (fun c286 => ?_) (fun c286 => ?_)
    · have h := h.1 c286
      refine lv_iconst (v := 1) hx hb dL_law_809 (by decide) ?_
      refine va_forget (fun q hq => hc.1.2.2.2.2.2.2.2 q hq) ?_
      refine W.widen (k := 600104) (n := 7301314) hroom.1 hroom.2 ?_
      exact lw_ret (d0 := s.drawn) (Drawn.sameBut.refl s.drawn lw_cs) hx hb hr hlk dL_law_810
    · have h := h.2 c286
      obtain ⟨hroom290, h⟩ := h
      refine g_new CF hc.join (ci := 11) rfl (by decide) (fun _ h9 => List.mem_append_left _ (List.mem_append_left _ (List.mem_append_left _ (List.mem_append_left _ (List.mem_append_left _ (List.mem_append_left _ (List.mem_append_left _ (List.mem_append_left _ (List.mem_append_left _ (List.mem_append_left _ (List.mem_append_left _ (List.mem_append_left _ (List.mem_append_left _ (List.mem_append_left _ (List.mem_append_left _ (List.mem_append_right _ (h9))))))))))))))))) tyX11 tyX11_ok dfX11 (List.mem_append_left _ (List.mem_append_left _ (List.mem_append_left _ (List.mem_append_left _ (List.mem_append_left _ (List.mem_append_left _ (List.mem_append_left _ (List.mem_append_left _ (List.mem_append_left _ (List.mem_append_left _ (List.mem_append_left _ (List.mem_append_left _ (List.mem_append_left _ (List.mem_append_left _ (List.mem_append_left _ (List.mem_append_left _ (List.mem_append_left _ (List.mem_of_getElem? (i := 0) rfl)))))))))))))))))) (List.mem_append_left _ (List.mem_append_left _ (List.mem_append_left _ (List.mem_append_left _ (List.mem_append_left _ (List.mem_append_left _ (List.mem_append_left _ (List.mem_append_left _ (List.mem_append_left _ (List.mem_append_left _ (List.mem_append_left _ (List.mem_append_left _ (List.mem_append_left _ (List.mem_append_left _ (List.mem_append_left _ (List.mem_append_left _ (List.mem_append_left _ (List.mem_of_getElem? (i := 1) rfl)))))))))))))))))) (List.mem_append_left _ (List.mem_append_left _ (List.mem_append_left _ (List.mem_append_left _ (List.mem_append_left _ (List.mem_append_left _ (List.mem_append_left _ (List.mem_append_left _ (List.mem_append_left _ (List.mem_append_left _ (List.mem_append_left _ (List.mem_append_left _ (List.mem_append_left _ (List.mem_append_left _ (List.mem_append_left _ (List.mem_append_left _ (List.mem_append_left _ (List.mem_of_getElem? (i := 2) rfl)))))))))))))))))) hroom290.1 hroom290.2 dL_law_7 (fun q287 H locs hq288 hc1 => ?_)
      obtain ⟨hf289, hf289m, hc⟩ := hc.made hq288 (by decide) hc1
      replace h := h q287 hf289
      have hroom := hroom290
      have hc := hc
      obtain ⟨g291, eg292⟩ : ∃ z, z = sNew g q287 12 0 := ⟨_, rfl⟩
      have hc : hC D cA (fun q => s.heap.size ≤ q) s b L xs g291 gm H locs := by rw [eg292]; exact hc
      replace h := h g291 eg292
      refine lv_dup hx hb dL_law_10 rfl ?_
      refine lv_aload_n hx hb dL_law_11 rfl (lv_at hl 0 rfl) ?_
      refine lv_bipush (v := 31) hx hb dL_law_12 (by decide) ?_
      refine lv_iload_n hx hb dL_law_14 rfl (lv_at hl 1 rfl) ?_
      refine lv_imul hx hb dL_law_15 ?_
      refine lv_bipush (v := 7) hx hb dL_law_16 (by decide) ?_
      refine lv_iadd hx hb dL_law_18 ?_
      obtain ⟨hroom293, h⟩ := h
      refine hh_callv (va_runI (b := q287) (As := [.ref b, .int ((31 * i1) + 7)]) (rest := [.ref q287]) CF (c_X11_init (mc := 500) (ms := 16000) h) (cwI 2 hts2 gL_law2_X11_init2 rfl rfl rfl (hts _ (List.mem_append_left _ (List.mem_append_left _ (List.mem_append_left _ (List.mem_append_left _ (List.mem_append_left _ (List.mem_append_left _ (List.mem_append_left _ (List.mem_append_left _ (List.mem_append_left _ (List.mem_append_left _ (List.mem_append_left _ (List.mem_append_left _ (List.mem_append_left _ (List.mem_append_left _ (List.mem_append_left _ (List.mem_append_left _ (List.mem_append_left _ (List.mem_of_getElem? (i := 2) rfl))))))))))))))))))) (hts _ (List.mem_append_left _ (List.mem_append_left _ (List.mem_append_left _ (List.mem_append_left _ (List.mem_append_left _ (List.mem_append_left _ (List.mem_append_left _ (List.mem_append_left _ (List.mem_append_left _ (List.mem_append_left _ (List.mem_append_left _ (List.mem_append_left _ (List.mem_append_left _ (List.mem_append_left _ (List.mem_append_left _ (List.mem_append_left _ (List.mem_append_left _ (List.mem_of_getElem? (i := 9) rfl))))))))))))))))))) (hts _ (List.mem_append_left _ (List.mem_append_left _ (List.mem_append_left _ (List.mem_append_left _ (List.mem_append_left _ (List.mem_append_left _ (List.mem_append_left _ (List.mem_append_left _ (List.mem_append_left _ (List.mem_append_left _ (List.mem_append_left _ (List.mem_append_left _ (List.mem_append_left _ (List.mem_append_left _ (List.mem_append_left _ (List.mem_append_left _ (List.mem_append_left _ (List.mem_of_getElem? (i := 10) rfl))))))))))))))))))) rfl (by decide +kernel) ⟨Nat.le_of_ble_eq_true rfl, Nat.le_of_ble_eq_true rfl⟩) (hc.preS (As := .ref q287 :: [.ref b, .int ((31 * i1) + 7)])) rfl rfl hl.1 rfl (lv_room (Nat.le_of_ble_eq_true rfl)) dL_law_19 hroom293) hc (fun g295 m296 H locs hq hc => ?_)
      replace h := hq
      have hroom := hroom293
      refine lv_astore_n (lv' := [(2, .ref q287), (0, .ref b), (1, .int i1)]) hx hb dL_law_22 rfl hl (by decide) rfl (fun ls hl => ?_)
      refine lv_aload_n hx hb dL_law_23 rfl (lv_at hl 0 rfl) ?_
      obtain ⟨hk297, h⟩ := h
      obtain ⟨y298, e299, h⟩ := h
      refine g_getr CF hc.1 hk297 rfl (by decide) (fun _ h9 => List.mem_append_left _ (List.mem_append_left _ (List.mem_append_left _ (List.mem_append_left _ (List.mem_append_left _ (List.mem_append_left _ (List.mem_append_left _ (List.mem_append_left _ (List.mem_append_left _ (List.mem_append_left _ (List.mem_append_left _ (List.mem_append_left _ (List.mem_append_left _ (List.mem_append_left _ (List.mem_append_left _ (List.mem_append_right _ (h9))))))))))))))))) (k := 0) (by decide) (List.mem_append_left _ (List.mem_append_left _ (List.mem_append_left _ (List.mem_append_left _ (List.mem_append_left _ (List.mem_append_left _ (List.mem_append_left _ (List.mem_append_left _ (List.mem_append_left _ (List.mem_append_left _ (List.mem_append_left _ (List.mem_append_left _ (List.mem_append_left _ (List.mem_append_left _ (List.mem_append_left _ (List.mem_append_left _ (List.mem_append_left _ (List.mem_of_getElem? (i := 3) rfl)))))))))))))))))) e299 rfl dL_law_24 ?_
      refine lv_astore_n (lv' := [(3, .ref y298), (2, .ref q287), (0, .ref b), (1, .int i1)]) hx hb dL_law_27 rfl hl (by decide) rfl (fun ls hl => ?_)
      refine lv_iconst (v := 0) hx hb dL_law_28 (by decide) ?_
      refine lv_istore (lv' := [(4, .int 0), (3, .ref y298), (2, .ref q287), (0, .ref b), (1, .int i1)]) hx hb dL_law_29 hl (by decide) rfl (fun ls hl => ?_)
      exact hb_31 i1 q287 y298 g295 m296 ((C + 1) + 500) ((S + 15) + 16000) 0 h hroom _ _ _ hc (lv_sub hl [3, 4, 2, 1, 0] rfl)
  unfold w_L_law at h
  refine lv_iconst (v := 0) hx hb dL_law_0 (by decide) ?_
  refine lv_istore_n (lv' := [(1, .int 0), (0, .ref b)]) hx hb dL_law_1 rfl hl (by decide) rfl (fun ls hl => ?_)
  exact hb_2 gE0 gE0 0 0 0 h hroom _ _ _ hc (lv_sub hl [1, 0] rfl)
