/-! THE REFERENCE: its constructor -/
def mK' (l : Nat) : Nat := if l = 0 then 12 else mK l
def V1m : Rows := su (su (su (fun _ _ => 0) 12 0 1) 12 1 1) 12 2 1
def V0m : Rows := va_up (va_up V1m 11 (fun i => if i < 200 then -1 else 0)) 15 (fun i => if i < 60 then -1 else 0)
/-- one more place of an array filled -/
theorem va_fill {V : Rows} {l k : Nat} {v : Int32} (h : V l = fun _ => 0) : su (va_up V l (fun i => if i < k then v else 0)) l k v = va_up V l (fun i => if i < k + 1 then v else 0) := by
  funext u j
  by_cases c : u = l
  · subst c
    rw [su_at, va_up_self, va_up_self]
    by_cases c2 : j = k
    · rw [if_pos c2, if_pos (by omega)]
    · rw [if_neg c2]
      by_cases c3 : j < k
      · rw [if_pos c3, if_pos (by omega)]
      · rw [if_neg c3, if_neg (by omega)]
  · rw [su_row c, va_up_ne _ _ c, va_up_ne _ _ c]
theorem va_fill0 {V : Rows} {l : Nat} {v : Int32} (h : V l = fun _ => 0) : va_up V l (fun i => if i < 0 then v else 0) = V := by
  funext u j
  by_cases c : u = l
  · subst c; rw [va_up_self, if_neg (Nat.not_lt_zero _), h]
  · rw [va_up_ne _ _ c]
set_option maxRecDepth 100000 in
set_option maxHeartbeats 4000000 in
theorem x_minit0 {g0 : gS} {p0 : Nat} (c0 : PB mK' mN (fun _ => p0) (fun x => decide (x = 0)) (fun _ _ => none) (fun _ _ => 0) g0) {Q : gS → Prop} (hQ : ∀ A S T g', PB mK' mN A S T V1m g' → A 0 = p0 → (∀ l, l < 30 → mK' l ≠ 0 → S l = true) → (∀ t, t < 30 → mK t ≠ 0 → T 0 t = some t) → lpx2 (l_X11_init_189 p0 Q) g' 0) : w_X11_init g0 p0 Q := by
  unfold w_X11_init
  intro q3 hq3 g1 e1
  have c1 := c0.new 3 e1 hq3 rfl rfl (by decide) rfl (fun _ => rfl) rfl
  clear e1 hq3 c0
  refine ⟨c1.kk 0 rfl rfl rfl, fun g2 e2 => ?_⟩
  have c2 := c1.ref 0 3 3 e2 rfl rfl rfl rfl
  clear e2 c1
  intro q4 hq4 g3 e3
  have c3 := c2.new 4 e3 hq4 rfl rfl (by decide) rfl (fun _ => rfl) rfl
  clear e3 hq4 c2
  refine ⟨c3.kk 0 rfl rfl rfl, fun g4 e4 => ?_⟩
  have c4 := c3.ref 0 4 4 e4 rfl rfl rfl rfl
  clear e4 c3
  intro q5 hq5 g5 e5
  have c5 := c4.new 5 e5 hq5 rfl rfl (by decide) rfl (fun _ => rfl) rfl
  clear e5 hq5 c4
  refine ⟨c5.kk 0 rfl rfl rfl, fun g6 e6 => ?_⟩
  have c6 := c5.ref 0 5 5 e6 rfl rfl rfl rfl
  clear e6 c5
  intro q6 hq6 g7 e7
  have c7 := c6.new 6 e7 hq6 rfl rfl (by decide) rfl (fun _ => rfl) rfl
  clear e7 hq6 c6
  refine ⟨c7.kk 0 rfl rfl rfl, fun g8 e8 => ?_⟩
  have c8 := c7.ref 0 6 6 e8 rfl rfl rfl rfl
  clear e8 c7
  intro q7 hq7 g9 e9
  have c9 := c8.new 7 e9 hq7 rfl rfl (by decide) rfl (fun _ => rfl) rfl
  clear e9 hq7 c8
  refine ⟨c9.kk 0 rfl rfl rfl, fun g10 e10 => ?_⟩
  have c10 := c9.ref 0 7 7 e10 rfl rfl rfl rfl
  clear e10 c9
  intro q8 hq8 g11 e11
  have c11 := c10.new 8 e11 hq8 rfl rfl (by decide) rfl (fun _ => rfl) rfl
  clear e11 hq8 c10
  refine ⟨c11.kk 0 rfl rfl rfl, fun g12 e12 => ?_⟩
  have c12 := c11.ref 0 8 8 e12 rfl rfl rfl rfl
  clear e12 c11
  intro q10 hq10 g13 e13
  have c13 := c12.new 10 e13 hq10 rfl rfl (by decide) rfl (fun _ => rfl) rfl
  clear e13 hq10 c12
  refine ⟨c13.kk 0 rfl rfl rfl, fun g14 e14 => ?_⟩
  have c14 := c13.ref 0 10 10 e14 rfl rfl rfl rfl
  clear e14 c13
  intro q11 hq11 g15 e15
  have c15 := c14.new 11 e15 hq11 rfl rfl (by decide) rfl (fun _ => rfl) rfl
  clear e15 hq11 c14
  refine ⟨c15.kk 0 rfl rfl rfl, fun g16 e16 => ?_⟩
  have c16 := c15.ref 0 11 11 e16 rfl rfl rfl rfl
  clear e16 c15
  intro q12 hq12 g17 e17
  have c17 := c16.new 12 e17 hq12 rfl rfl (by decide) rfl (fun _ => rfl) rfl
  clear e17 hq12 c16
  refine ⟨c17.kk 12 rfl rfl rfl, by rw [show gN g17 q12 = 3 from c17.nn 12 rfl rfl rfl]; exact vpi (n := 0) (N := 3) (by decide), fun g18 e18 => ?_⟩
  have c18 := c17.w (i := 0) (v := 1) 12 e18 rfl rfl
  clear e18 c17
  refine ⟨c18.kk 12 rfl rfl rfl, by rw [show gN g18 q12 = 3 from c18.nn 12 rfl rfl rfl]; exact vpi (n := 1) (N := 3) (by decide), fun g19 e19 => ?_⟩
  have c19 := c18.w (i := 1) (v := 1) 12 e19 rfl rfl
  clear e19 c18
  refine ⟨c19.kk 12 rfl rfl rfl, by rw [show gN g19 q12 = 3 from c19.nn 12 rfl rfl rfl]; exact vpi (n := 2) (N := 3) (by decide), fun g20 e20 => ?_⟩
  have c20 := c19.w (i := 2) (v := 1) 12 e20 rfl rfl
  clear e20 c19
  refine ⟨c20.kk 0 rfl rfl rfl, fun g21 e21 => ?_⟩
  have c21 := c20.ref 0 12 12 e21 rfl rfl rfl rfl
  clear e21 c20
  intro q14 hq14 g22 e22
  have c22 := c21.new 14 e22 hq14 rfl rfl (by decide) rfl (fun _ => rfl) rfl
  clear e22 hq14 c21
  refine ⟨c22.kk 0 rfl rfl rfl, fun g23 e23 => ?_⟩
  have c23 := c22.ref 0 14 14 e23 rfl rfl rfl rfl
  clear e23 c22
  intro q15 hq15 g24 e24
  have c24 := c23.new 15 e24 hq15 rfl rfl (by decide) rfl (fun _ => rfl) rfl
  clear e24 hq15 c23
  refine ⟨c24.kk 0 rfl rfl rfl, fun g25 e25 => ?_⟩
  have c25 := c24.ref 0 15 15 e25 rfl rfl rfl rfl
  clear e25 c24
  intro q17 hq17 g26 e26
  have c26 := c25.new 17 e26 hq17 rfl rfl (by decide) rfl (fun _ => rfl) rfl
  clear e26 hq17 c25
  refine ⟨c26.kk 0 rfl rfl rfl, fun g27 e27 => ?_⟩
  have c27 := c26.ref 0 17 17 e27 rfl rfl rfl rfl
  clear e27 c26
  intro q18 hq18 g28 e28
  have c28 := c27.new 18 e28 hq18 rfl rfl (by decide) rfl (fun _ => rfl) rfl
  clear e28 hq18 c27
  refine ⟨c28.kk 0 rfl rfl rfl, fun g29 e29 => ?_⟩
  have c29 := c28.ref 0 18 18 e29 rfl rfl rfl rfl
  clear e29 c28
  intro q19 hq19 g30 e30
  have c30 := c29.new 19 e30 hq19 rfl rfl (by decide) rfl (fun _ => rfl) rfl
  clear e30 hq19 c29
  refine ⟨c30.kk 0 rfl rfl rfl, fun g31 e31 => ?_⟩
  have c31 := c30.ref 0 19 19 e31 rfl rfl rfl rfl
  clear e31 c30
  intro q20 hq20 g32 e32
  have c32 := c31.new 20 e32 hq20 rfl rfl (by decide) rfl (fun _ => rfl) rfl
  clear e32 hq20 c31
  refine ⟨c32.kk 0 rfl rfl rfl, fun g33 e33 => ?_⟩
  have c33 := c32.ref 0 20 20 e33 rfl rfl rfl rfl
  clear e33 c32
  intro q21 hq21 g34 e34
  have c34 := c33.new 21 e34 hq21 rfl rfl (by decide) rfl (fun _ => rfl) rfl
  clear e34 hq21 c33
  refine ⟨c34.kk 0 rfl rfl rfl, fun g35 e35 => ?_⟩
  have c35 := c34.ref 0 21 21 e35 rfl rfl rfl rfl
  clear e35 c34
  intro q23 hq23 g36 e36
  have c36 := c35.new 23 e36 hq23 rfl rfl (by decide) rfl (fun _ => rfl) rfl
  clear e36 hq23 c35
  refine ⟨c36.kk 0 rfl rfl rfl, fun g37 e37 => ?_⟩
  have c37 := c36.ref 0 23 23 e37 rfl rfl rfl rfl
  clear e37 c36
  intro q24 hq24 g38 e38
  have c38 := c37.new 24 e38 hq24 rfl rfl (by decide) rfl (fun _ => rfl) rfl
  clear e38 hq24 c37
  refine ⟨c38.kk 0 rfl rfl rfl, fun g39 e39 => ?_⟩
  have c39 := c38.ref 0 24 24 e39 rfl rfl rfl rfl
  clear e39 c38
  intro q27 hq27 g40 e40
  have c40 := c39.new 27 e40 hq27 rfl rfl (by decide) rfl (fun _ => rfl) rfl
  clear e40 hq27 c39
  refine ⟨c40.kk 0 rfl rfl rfl, fun g41 e41 => ?_⟩
  have c41 := c40.ref 0 27 27 e41 rfl rfl rfl rfl
  clear e41 c40
  intro q28 hq28 g42 e42
  have c42 := c41.new 28 e42 hq28 rfl rfl (by decide) rfl (fun _ => rfl) rfl
  clear e42 hq28 c41
  refine ⟨c42.kk 0 rfl rfl rfl, fun g43 e43 => ?_⟩
  have c43 := c42.ref 0 28 28 e43 rfl rfl rfl rfl
  clear e43 c42
  intro q29 hq29 g44 e44
  have c44 := c43.new 29 e44 hq29 rfl rfl (by decide) rfl (fun _ => rfl) rfl
  clear e44 hq29 c43
  refine ⟨c44.kk 0 rfl rfl rfl, fun g45 e45 => ?_⟩
  have c45 := c44.ref 0 29 29 e45 rfl rfl rfl rfl
  clear e45 c44
  exact hQ _ _ _ _ c45 rfl (by decide) (by decide)
theorem mK_lt {t : Nat} (h : mK t ≠ 0) : t < 30 := by
  rcases Nat.lt_or_ge t 30 with q | q
  · exact q
  · exfalso; apply h
    unfold mK
    split <;> first | omega | rfl
theorem x_minit {g0 : gS} {p0 : Nat} (c0 : PB mK' mN (fun _ => p0) (fun x => decide (x = 0)) (fun _ _ => none) (fun _ _ => 0) g0) {Q : gS → Prop} (hQ : ∀ μ g', MU TT p0 μ V0m (fun _ => 0) g' → Q g') : w_X11_init g0 p0 Q := by
  refine x_minit0 c0 (fun A S T g1 c1 a0 hS hT => ?_)
  have s0 : S 0 = true := hS 0 (by decide) (by decide)
  have s11 : S 11 = true := hS 11 (by decide) (by decide)
  have s15 : S 15 = true := hS 15 (by decide) (by decide)
  refine lpx2_i 200 (fun k g' i => i = nI k ∧ PB mK' mN A S T (va_up V1m 11 (fun i => if i < k then -1 else 0)) g') ?_ ?_ g1 0 ⟨rfl, by rw [va_fill0 rfl]; exact c1⟩
  · rintro k g2 _ hk ⟨rfl, c2⟩ K hK
    unfold l_X11_init_189
    refine ⟨fun c => absurd c (nI_ge hk (by decide)), fun _ => ⟨c2.kk 0 a0 s0 rfl, A 11, c2.r 0 11 11 (hT 11 (by decide) (by decide)) a0 rfl, c2.kk 11 rfl s11 rfl, by rw [c2.nn 11 rfl s11 (show mN 11 = 200 from rfl)]; exact vpi hk, fun g3 e3 => ?_⟩⟩
    rw [cl_nI (by omega)] at e3
    have c3 := c2.w 11 e3 rfl s11
    rw [va_fill rfl] at c3
    rw [nI_1]
    exact hK _ _ ⟨rfl, c3⟩
  · rintro g2 _ ⟨rfl, c2⟩ K
    unfold l_X11_init_189
    refine ⟨fun _ => ?_, fun c => absurd (by decide) c⟩
    refine lpx2_i 60 (fun k g' i => i = nI k ∧ PB mK' mN A S T (va_up (va_up V1m 11 (fun i => if i < 200 then -1 else 0)) 15 (fun i => if i < k then -1 else 0)) g') ?_ ?_ g2 0 ⟨rfl, by rw [va_fill0 rfl]; exact c2⟩
    · rintro k g3 _ hk ⟨rfl, c3⟩ K2 hK2
      unfold l_X11_init_211
      refine ⟨fun c => absurd c (nI_ge hk (by decide)), fun _ => ⟨c3.kk 0 a0 s0 rfl, A 15, c3.r 0 15 15 (hT 15 (by decide) (by decide)) a0 rfl, c3.kk 15 rfl s15 rfl, by rw [c3.nn 15 rfl s15 (show mN 15 = 60 from rfl)]; exact vpi hk, fun g4 e4 => ?_⟩⟩
      rw [cl_nI (by omega)] at e4
      have c4 := c3.w 15 e4 rfl s15
      rw [va_fill rfl] at c4
      rw [nI_1]
      exact hK2 _ _ ⟨rfl, c4⟩
    · rintro g3 _ ⟨rfl, c3⟩ K2
      unfold l_X11_init_211
      refine ⟨fun _ => hQ A g3 ⟨V0m, ⟨?_, ?_, fun t ht => ?_, fun t u ht hu e => ?_, fun t ht e => ?_, trivial, fun _ _ _ _ _ _ => trivial⟩, ?_, rfl⟩, fun c => absurd (by decide) c⟩
      · exact c3.kk 0 a0 s0 rfl
      · rw [← a0]; exact (c3.1 0 s0).2.2.1
      · have h30 := mK_lt ht
        have t0 : t ≠ 0 := fun e => ht (by rw [e]; rfl)
        have ek : mK' t = mK t := if_neg t0
        have st := hS t h30 (by rw [ek]; exact ht)
        obtain ⟨p1, p2, p3, p4⟩ := c3.1 t st
        exact ⟨c3.r 0 t t (hT t h30 ht) a0 rfl, by rw [p1, ek], p2, p3⟩
      · have e0 : ∀ t, mK t ≠ 0 → S t = true := fun t ht => hS t (mK_lt ht) (by unfold mK'; rw [if_neg (fun e => ht (by rw [e]; rfl))]; exact ht)
        exact c3.2.1 t u (e0 t ht) (e0 u hu) e
      · have e0 : S t = true := hS t (mK_lt ht) (by unfold mK'; rw [if_neg (fun e => ht (by rw [e]; rfl))]; exact ht)
        rw [← a0] at e
        have := c3.2.1 t 0 e0 s0 e
        exact ht (by rw [this]; rfl)
      · have : va_up V0m 29 (fun _ => 0) = V0m := by
          funext u j
          by_cases c : u = 29
          · subst c; rw [va_up_self]; rfl
          · rw [va_up_ne _ _ c]
        rw [this]; exact CB.rf
