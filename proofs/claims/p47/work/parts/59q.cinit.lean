/-! THE CLASS: its constructor -/
section CINIT
variable {V : Rows}
/-- what a new object's cells hold -/
def V0c : Rows := su (su (su (va_up (va_up (fun _ _ => 0) 12 (fun i => if i < 200 then -1 else 0)) 13 (fun i => if i < 3 then 1 else 0)) 36 3 1) 38 3 0) 40 3 1
set_option maxRecDepth 100000 in
set_option maxHeartbeats 4000000 in
theorem x_init {g0 : gS} {p0 : Nat} (c0 : PB fK fN (fun _ => p0) (fun x => decide (x = 0)) (fun _ _ => none) (fun _ _ => 0) g0) {Q : gS → Prop} (hQ : ∀ A S T g', PB fK fN A S T V0c g' → A 0 = p0 → (∀ l, l < 73 → S l = true) → S 73 = false → (∀ l i u, fR l i = some u → T l i = some u) → T 1 2 = none → (∀ i, T 73 i = none) → Q g') : w_X10_init g0 p0 Q := by
  unfold w_X10_init
  intro q1 hq1 g1 e1
  have c1 := c0.new 1 e1 hq1 rfl rfl (by decide) rfl (fun _ => rfl) rfl
  clear e1 hq1 c0
  try unfold w_X0_init
  intro q2 hq2 g2 e2
  have c2 := c1.new 2 e2 hq2 rfl rfl (by decide) rfl (fun _ => rfl) rfl
  clear e2 hq2 c1
  refine ⟨c2.kk 1 rfl rfl rfl, fun g3 e3 => ?_⟩
  have c3 := c2.ref 1 0 2 e3 rfl rfl rfl rfl
  clear e3 c2
  intro q3 hq3 g4 e4
  have c4 := c3.new 3 e4 hq3 rfl rfl (by decide) rfl (fun _ => rfl) rfl
  clear e4 hq3 c3
  refine ⟨c4.kk 1 rfl rfl rfl, fun g5 e5 => ?_⟩
  have c5 := c4.ref 1 3 3 e5 rfl rfl rfl rfl
  clear e5 c4
  intro q4 hq4 g6 e6
  have c6 := c5.new 4 e6 hq4 rfl rfl (by decide) rfl (fun _ => rfl) rfl
  clear e6 hq4 c5
  try unfold w_X1_init
  intro q5 rr5 hq5 g7 e7
  have c7 := c6.grid (n := 3) (m := 200) 5 6 e7 hq5 (by decide) rfl rfl (by decide) rfl (by decide) rfl (fun i hi => by rcases i with _ | _ | _ | i <;> first | rfl | omega) (fun _ => rfl) (fun j i hj => by rcases j with _ | _ | _ | j <;> first | rfl | omega)
  clear e7 hq5 c6
  refine ⟨c7.kk 4 rfl rfl rfl, fun g8 e8 => ?_⟩
  have c8 := c7.ref 4 0 5 e8 rfl rfl rfl rfl
  clear e8 c7
  intro q9 hq9 g9 e9
  have c9 := c8.new 9 e9 hq9 rfl rfl (by decide) rfl (fun _ => rfl) rfl
  clear e9 hq9 c8
  refine ⟨c9.kk 4 rfl rfl rfl, fun g10 e10 => ?_⟩
  have c10 := c9.ref 4 1 9 e10 rfl rfl rfl rfl
  clear e10 c9
  refine ⟨c10.kk 1 rfl rfl rfl, fun g11 e11 => ?_⟩
  have c11 := c10.ref 1 5 4 e11 rfl rfl rfl rfl
  clear e11 c10
  refine ⟨c11.kk 0 rfl rfl rfl, fun g12 e12 => ?_⟩
  have c12 := c11.ref 0 0 1 e12 rfl rfl rfl rfl
  clear e12 c11
  intro q10 hq10 g13 e13
  have c13 := c12.new 10 e13 hq10 rfl rfl (by decide) rfl (fun _ => rfl) rfl
  clear e13 hq10 c12
  try unfold w_X4_init
  intro q11 hq11 g14 e14
  have c14 := c13.new 11 e14 hq11 rfl rfl (by decide) rfl (fun _ => rfl) rfl
  clear e14 hq11 c13
  refine ⟨c14.kk 10 rfl rfl rfl, fun g15 e15 => ?_⟩
  have c15 := c14.ref 10 0 11 e15 rfl rfl rfl rfl
  clear e15 c14
  intro q12 hq12 g16 e16
  have c16 := c15.new 12 e16 hq12 rfl rfl (by decide) rfl (fun _ => rfl) rfl
  clear e16 hq12 c15
  refine ⟨c16.kk 10 rfl rfl rfl, fun g17 e17 => ?_⟩
  have c17 := c16.ref 10 1 12 e17 rfl rfl rfl rfl
  clear e17 c16
  intro q13 hq13 g18 e18
  have c18 := c17.new 13 e18 hq13 rfl rfl (by decide) rfl (fun _ => rfl) rfl
  clear e18 hq13 c17
  refine ⟨c18.kk 10 rfl rfl rfl, fun g19 e19 => ?_⟩
  have c19 := c18.ref 10 2 13 e19 rfl rfl rfl rfl
  clear e19 c18
  refine ⟨c19.kk 10 rfl rfl rfl, q12, c19.r 10 1 12 rfl rfl rfl, c19.fill (M := 200) 12 rfl rfl rfl rfl (by decide) (fun g20 c20 => ?_)⟩
  clear c19
  refine ⟨c20.kk 10 rfl rfl rfl, q13, c20.r 10 2 13 rfl rfl rfl, c20.fill (M := 3) 13 rfl rfl rfl rfl (by decide) (fun g21 c21 => ?_)⟩
  clear c20
  refine ⟨c21.kk 0 rfl rfl rfl, fun g22 e22 => ?_⟩
  have c22 := c21.ref 0 1 10 e22 rfl rfl rfl rfl
  clear e22 c21
  intro q14 hq14 g23 e23
  have c23 := c22.new 14 e23 hq14 rfl rfl (by decide) rfl (fun _ => rfl) rfl
  clear e23 hq14 c22
  refine ⟨c23.kk 0 rfl rfl rfl, q10, c23.r 0 1 10 rfl rfl rfl, ?_⟩
  try unfold w_X6_init
  intro q15 hq15 g24 e24
  have c24 := c23.new 15 e24 hq15 rfl rfl (by decide) rfl (fun _ => rfl) rfl
  clear e24 hq15 c23
  refine ⟨c24.kk 14 rfl rfl rfl, fun g25 e25 => ?_⟩
  have c25 := c24.ref 14 1 15 e25 rfl rfl rfl rfl
  clear e25 c24
  intro q16 hq16 g26 e26
  have c26 := c25.new 16 e26 hq16 rfl rfl (by decide) rfl (fun _ => rfl) rfl
  clear e26 hq16 c25
  refine ⟨c26.kk 14 rfl rfl rfl, fun g27 e27 => ?_⟩
  have c27 := c26.ref 14 3 16 e27 rfl rfl rfl rfl
  clear e27 c26
  intro q17 hq17 g28 e28
  have c28 := c27.new 17 e28 hq17 rfl rfl (by decide) rfl (fun _ => rfl) rfl
  clear e28 hq17 c27
  refine ⟨c28.kk 14 rfl rfl rfl, fun g29 e29 => ?_⟩
  have c29 := c28.ref 14 4 17 e29 rfl rfl rfl rfl
  clear e29 c28
  refine ⟨c29.kk 14 rfl rfl rfl, fun g30 e30 => ?_⟩
  have c30 := c29.ref 14 0 10 e30 rfl rfl rfl rfl
  clear e30 c29
  refine ⟨c30.kk 0 rfl rfl rfl, fun g31 e31 => ?_⟩
  have c31 := c30.ref 0 2 14 e31 rfl rfl rfl rfl
  clear e31 c30
  intro q18 hq18 g32 e32
  have c32 := c31.new 18 e32 hq18 rfl rfl (by decide) rfl (fun _ => rfl) rfl
  clear e32 hq18 c31
  try unfold w_X7_init
  intro q19 hq19 g33 e33
  have c33 := c32.new 19 e33 hq19 rfl rfl (by decide) rfl (fun _ => rfl) rfl
  clear e33 hq19 c32
  refine ⟨c33.kk 18 rfl rfl rfl, fun g34 e34 => ?_⟩
  have c34 := c33.ref 18 0 19 e34 rfl rfl rfl rfl
  clear e34 c33
  intro q20 hq20 g35 e35
  have c35 := c34.new 20 e35 hq20 rfl rfl (by decide) rfl (fun _ => rfl) rfl
  clear e35 hq20 c34
  refine ⟨c35.kk 18 rfl rfl rfl, fun g36 e36 => ?_⟩
  have c36 := c35.ref 18 1 20 e36 rfl rfl rfl rfl
  clear e36 c35
  intro q21 hq21 g37 e37
  have c37 := c36.new 21 e37 hq21 rfl rfl (by decide) rfl (fun _ => rfl) rfl
  clear e37 hq21 c36
  refine ⟨c37.kk 18 rfl rfl rfl, fun g38 e38 => ?_⟩
  have c38 := c37.ref 18 2 21 e38 rfl rfl rfl rfl
  clear e38 c37
  refine ⟨c38.kk 0 rfl rfl rfl, fun g39 e39 => ?_⟩
  have c39 := c38.ref 0 3 18 e39 rfl rfl rfl rfl
  clear e39 c38
  intro q22 hq22 g40 e40
  have c40 := c39.new 22 e40 hq22 rfl rfl (by decide) rfl (fun _ => rfl) rfl
  clear e40 hq22 c39
  refine ⟨c40.kk 0 rfl rfl rfl, q1, c40.r 0 0 1 rfl rfl rfl, q10, c40.r 0 1 10 rfl rfl rfl, ?_⟩
  try unfold w_X3_init
  intro q23 rr23 hq23 g41 e41
  have c41 := c40.grid (n := 3) (m := 200) 23 24 e41 hq23 (by decide) rfl rfl (by decide) rfl (by decide) rfl (fun i hi => by rcases i with _ | _ | _ | i <;> first | rfl | omega) (fun _ => rfl) (fun j i hj => by rcases j with _ | _ | _ | j <;> first | rfl | omega)
  clear e41 hq23 c40
  refine ⟨c41.kk 22 rfl rfl rfl, fun g42 e42 => ?_⟩
  have c42 := c41.ref 22 2 23 e42 rfl rfl rfl rfl
  clear e42 c41
  intro q27 hq27 g43 e43
  have c43 := c42.new 27 e43 hq27 rfl rfl (by decide) rfl (fun _ => rfl) rfl
  clear e43 hq27 c42
  refine ⟨c43.kk 22 rfl rfl rfl, fun g44 e44 => ?_⟩
  have c44 := c43.ref 22 3 27 e44 rfl rfl rfl rfl
  clear e44 c43
  intro q28 hq28 g45 e45
  have c45 := c44.new 28 e45 hq28 rfl rfl (by decide) rfl (fun _ => rfl) rfl
  clear e45 hq28 c44
  refine ⟨c45.kk 22 rfl rfl rfl, fun g46 e46 => ?_⟩
  have c46 := c45.ref 22 4 28 e46 rfl rfl rfl rfl
  clear e46 c45
  intro q29 hq29 g47 e47
  have c47 := c46.new 29 e47 hq29 rfl rfl (by decide) rfl (fun _ => rfl) rfl
  clear e47 hq29 c46
  refine ⟨c47.kk 22 rfl rfl rfl, fun g48 e48 => ?_⟩
  have c48 := c47.ref 22 5 29 e48 rfl rfl rfl rfl
  clear e48 c47
  refine ⟨c48.kk 22 rfl rfl rfl, fun g49 e49 => ?_⟩
  have c49 := c48.ref 22 0 1 e49 rfl rfl rfl rfl
  clear e49 c48
  refine ⟨c49.kk 22 rfl rfl rfl, fun g50 e50 => ?_⟩
  have c50 := c49.ref 22 1 10 e50 rfl rfl rfl rfl
  clear e50 c49
  refine ⟨c50.kk 0 rfl rfl rfl, fun g51 e51 => ?_⟩
  have c51 := c50.ref 0 4 22 e51 rfl rfl rfl rfl
  clear e51 c50
  intro q30 hq30 g52 e52
  have c52 := c51.new 30 e52 hq30 rfl rfl (by decide) rfl (fun _ => rfl) rfl
  clear e52 hq30 c51
  try unfold w_X1_init
  intro q31 rr31 hq31 g53 e53
  have c53 := c52.grid (n := 3) (m := 200) 31 32 e53 hq31 (by decide) rfl rfl (by decide) rfl (by decide) rfl (fun i hi => by rcases i with _ | _ | _ | i <;> first | rfl | omega) (fun _ => rfl) (fun j i hj => by rcases j with _ | _ | _ | j <;> first | rfl | omega)
  clear e53 hq31 c52
  refine ⟨c53.kk 30 rfl rfl rfl, fun g54 e54 => ?_⟩
  have c54 := c53.ref 30 0 31 e54 rfl rfl rfl rfl
  clear e54 c53
  intro q35 hq35 g55 e55
  have c55 := c54.new 35 e55 hq35 rfl rfl (by decide) rfl (fun _ => rfl) rfl
  clear e55 hq35 c54
  refine ⟨c55.kk 30 rfl rfl rfl, fun g56 e56 => ?_⟩
  have c56 := c55.ref 30 1 35 e56 rfl rfl rfl rfl
  clear e56 c55
  refine ⟨c56.kk 0 rfl rfl rfl, fun g57 e57 => ?_⟩
  have c57 := c56.ref 0 5 30 e57 rfl rfl rfl rfl
  clear e57 c56
  intro q36 hq36 g58 e58
  have c58 := c57.new 36 e58 hq36 rfl rfl (by decide) rfl (fun _ => rfl) rfl
  clear e58 hq36 c57
  refine ⟨c58.kk 0 rfl rfl rfl, q14, c58.r 0 2 14 rfl rfl rfl, q10, c58.r 0 1 10 rfl rfl rfl, q1, c58.r 0 0 1 rfl rfl rfl, c58.kk 1 rfl rfl rfl, q4, c58.r 1 5 4 rfl rfl rfl, ?_⟩
  try unfold w_X8_init
  intro q37 hq37 g59 e59
  have c59 := c58.new 37 e59 hq37 rfl rfl (by decide) rfl (fun _ => rfl) rfl
  clear e59 hq37 c58
  refine ⟨c59.kk 36 rfl rfl rfl, fun g60 e60 => ?_⟩
  have c60 := c59.ref 36 4 37 e60 rfl rfl rfl rfl
  clear e60 c59
  refine ⟨c60.kk 36 rfl rfl rfl, fun g61 e61 => ?_⟩
  have c61 := c60.ref 36 0 14 e61 rfl rfl rfl rfl
  clear e61 c60
  refine ⟨c61.kk 36 rfl rfl rfl, fun g62 e62 => ?_⟩
  have c62 := c61.ref 36 1 10 e62 rfl rfl rfl rfl
  clear e62 c61
  refine ⟨c62.kk 36 rfl rfl rfl, fun g63 e63 => ?_⟩
  have c63 := c62.ref 36 2 4 e63 rfl rfl rfl rfl
  clear e63 c62
  refine ⟨c63.kk 36 rfl rfl rfl, Or.inr rfl, fun g64 e64 => ?_⟩
  have c64 := c63.w 36 e64 rfl rfl
  clear e64 c63
  refine ⟨c64.kk 0 rfl rfl rfl, fun g65 e65 => ?_⟩
  have c65 := c64.ref 0 6 36 e65 rfl rfl rfl rfl
  clear e65 c64
  intro q38 hq38 g66 e66
  have c66 := c65.new 38 e66 hq38 rfl rfl (by decide) rfl (fun _ => rfl) rfl
  clear e66 hq38 c65
  refine ⟨c66.kk 0 rfl rfl rfl, q14, c66.r 0 2 14 rfl rfl rfl, q10, c66.r 0 1 10 rfl rfl rfl, q1, c66.r 0 0 1 rfl rfl rfl, c66.kk 1 rfl rfl rfl, q4, c66.r 1 5 4 rfl rfl rfl, ?_⟩
  try unfold w_X8_init
  intro q39 hq39 g67 e67
  have c67 := c66.new 39 e67 hq39 rfl rfl (by decide) rfl (fun _ => rfl) rfl
  clear e67 hq39 c66
  refine ⟨c67.kk 38 rfl rfl rfl, fun g68 e68 => ?_⟩
  have c68 := c67.ref 38 4 39 e68 rfl rfl rfl rfl
  clear e68 c67
  refine ⟨c68.kk 38 rfl rfl rfl, fun g69 e69 => ?_⟩
  have c69 := c68.ref 38 0 14 e69 rfl rfl rfl rfl
  clear e69 c68
  refine ⟨c69.kk 38 rfl rfl rfl, fun g70 e70 => ?_⟩
  have c70 := c69.ref 38 1 10 e70 rfl rfl rfl rfl
  clear e70 c69
  refine ⟨c70.kk 38 rfl rfl rfl, fun g71 e71 => ?_⟩
  have c71 := c70.ref 38 2 4 e71 rfl rfl rfl rfl
  clear e71 c70
  refine ⟨c71.kk 38 rfl rfl rfl, Or.inl rfl, fun g72 e72 => ?_⟩
  have c72 := c71.w 38 e72 rfl rfl
  clear e72 c71
  refine ⟨c72.kk 0 rfl rfl rfl, fun g73 e73 => ?_⟩
  have c73 := c72.ref 0 7 38 e73 rfl rfl rfl rfl
  clear e73 c72
  intro q40 hq40 g74 e74
  have c74 := c73.new 40 e74 hq40 rfl rfl (by decide) rfl (fun _ => rfl) rfl
  clear e74 hq40 c73
  refine ⟨c74.kk 0 rfl rfl rfl, q14, c74.r 0 2 14 rfl rfl rfl, q10, c74.r 0 1 10 rfl rfl rfl, q30, c74.r 0 5 30 rfl rfl rfl, ?_⟩
  try unfold w_X8_init
  intro q41 hq41 g75 e75
  have c75 := c74.new 41 e75 hq41 rfl rfl (by decide) rfl (fun _ => rfl) rfl
  clear e75 hq41 c74
  refine ⟨c75.kk 40 rfl rfl rfl, fun g76 e76 => ?_⟩
  have c76 := c75.ref 40 4 41 e76 rfl rfl rfl rfl
  clear e76 c75
  refine ⟨c76.kk 40 rfl rfl rfl, fun g77 e77 => ?_⟩
  have c77 := c76.ref 40 0 14 e77 rfl rfl rfl rfl
  clear e77 c76
  refine ⟨c77.kk 40 rfl rfl rfl, fun g78 e78 => ?_⟩
  have c78 := c77.ref 40 1 10 e78 rfl rfl rfl rfl
  clear e78 c77
  refine ⟨c78.kk 40 rfl rfl rfl, fun g79 e79 => ?_⟩
  have c79 := c78.ref 40 2 30 e79 rfl rfl rfl rfl
  clear e79 c78
  refine ⟨c79.kk 40 rfl rfl rfl, Or.inr rfl, fun g80 e80 => ?_⟩
  have c80 := c79.w 40 e80 rfl rfl
  clear e80 c79
  refine ⟨c80.kk 0 rfl rfl rfl, fun g81 e81 => ?_⟩
  have c81 := c80.ref 0 8 40 e81 rfl rfl rfl rfl
  clear e81 c80
  intro q42 rr42 hq42 g82 e82
  have c82 := c81.grid (n := 30) (m := 60) 42 43 e82 hq42 (by decide) rfl rfl (by decide) rfl (by decide) rfl (fun i hi => by rcases i with _ | _ | _ | _ | _ | _ | _ | _ | _ | _ | _ | _ | _ | _ | _ | _ | _ | _ | _ | _ | _ | _ | _ | _ | _ | _ | _ | _ | _ | _ | i <;> first | rfl | omega) (fun _ => rfl) (fun j i hj => by rcases j with _ | _ | _ | _ | _ | _ | _ | _ | _ | _ | _ | _ | _ | _ | _ | _ | _ | _ | _ | _ | _ | _ | _ | _ | _ | _ | _ | _ | _ | _ | j <;> first | rfl | omega)
  clear e82 hq42 c81
  refine ⟨c82.kk 0 rfl rfl rfl, fun g83 e83 => ?_⟩
  have c83 := c82.ref 0 9 42 e83 rfl rfl rfl rfl
  clear e83 c82
  refine hQ _ _ _ _ c83 rfl (by decide) rfl (fun l i u hr => ?_) rfl (fun _ => rfl)
  unfold fR at hr
  split at hr <;> first | (cases hr; rfl) | cases hr
end CINIT
