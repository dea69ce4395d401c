/-! THE CLASS: the score of a term -/
theorem and1 (v : Int32) : (v &&& 1) = 1 ↔ ¬ (v &&& 1) = 0 := by
  constructor
  · intro e q; rw [q] at e; exact absurd e (by decide)
  · intro q
    rw [← Int32.toBitVec_inj] at q ⊢
    show v.toBitVec &&& 1#32 = 1#32
    have q' : ¬ v.toBitVec &&& 1#32 = 0#32 := q
    apply BitVec.eq_of_getLsbD_eq
    intro i hi
    rw [BitVec.getLsbD_and]
    by_cases e : i = 0
    · subst e
      cases e2 : v.toBitVec.getLsbD 0
      · exfalso; apply q'
        apply BitVec.eq_of_getLsbD_eq
        intro i hi
        rw [BitVec.getLsbD_and]
        by_cases e3 : i = 0
        · subst e3; rw [e2]; simp
        · simp [BitVec.getLsbD_one, e3]
      · simp
    · simp [BitVec.getLsbD_one, e]
/-- a term, or none; unless it is mute; how often; its taste -/
def isO (x : Int32) : Prop := x = -1 ∨ ∃ a, a < 200 ∧ x = nI a
def oF (ρ : Rows) (x : Int32) : Int32 := if x = -1 then -1 else if ρ 10 (cl x) = 0 then x else -1
def cO (ρ : Rows) (d f : Nat) (x : Int32) : Nat := if x = -1 then 0 else ctN ρ d f (cl x)
def tO (ρ : Rows) (n d f : Nat) (x : Int32) : Int32 := if x = -1 then 0 else tasteF ρ n d f (cl x)
theorem oF_nI {ρ : Rows} {a : Nat} (ha : a < 200) : oF ρ (nI a) = if ρ 10 a = 0 then nI a else -1 := by
  unfold oF; rw [if_neg (nI_nm1 (by omega)), show cl (nI a) = a from cl_nI (by omega)]
theorem cO_nI {ρ : Rows} {d f a : Nat} (ha : a < 200) : cO ρ d f (nI a) = ctN ρ d f a := by
  unfold cO; rw [if_neg (nI_nm1 (by omega)), show cl (nI a) = a from cl_nI (by omega)]
theorem tO_nI {ρ : Rows} {n d f a : Nat} (ha : a < 200) : tO ρ n d f (nI a) = tasteF ρ n d f a := by
  unfold tO; rw [if_neg (nI_nm1 (by omega)), show cl (nI a) = a from cl_nI (by omega)]
/-- which scorer: its label, its census, whether it uses aliases -/
def isS (sb cb : Nat) (ub : Bool) : Prop := (sb = 36 ∧ cb = 4 ∧ ub = true) ∨ (sb = 38 ∧ cb = 4 ∧ ub = false) ∨ (sb = 40 ∧ cb = 30 ∧ ub = true)
/-- the rows that a scorer scores by -/
def rhoF (σ ρ : Rows) (ub : Bool) : Prop := (∀ t, t ≠ 6 → t ≠ 11 → ρ t = σ t) ∧ ∀ t, t < 200 → ρ 11 t = if ub = true then σ 11 t else -1
section CSCORE
variable {A : Nat → Nat} {D : Nat} {V σ ρ : Rows} {n bf nn nr ns cb sb : Nat} {ub : Bool} {g : gS}
theorem isS.c (h : isS sb cb ub) : isC cb := by
  rcases h with ⟨_, h, _⟩ | ⟨_, h, _⟩ | ⟨_, h, _⟩
  · exact Or.inl h
  · exact Or.inl h
  · exact Or.inr h
theorem CR.s0 (h : CR A D nn V g) (hs : isS sb cb ub) : gK g (A sb) = 9 ∧ gI g (A sb) = V sb ∧ gR g (A sb) 0 = some (A 14) ∧ gR g (A sb) 1 = some (A 10) ∧ gR g (A sb) 2 = some (A cb) ∧ gR g (A sb) 4 = some (A (sb + 1)) ∧ gK g (A (sb + 1)) = 21 ∧ gN g (A (sb + 1)) = 30 ∧ gI g (A (sb + 1)) = V (sb + 1) := by
  rcases hs with ⟨e1, e2, _⟩ | ⟨e1, e2, _⟩ | ⟨e1, e2, _⟩
  · subst e1; subst e2; exact ⟨h.k36, h.i36, h.r36_0, h.r36_1, h.r36_2, h.r36_4, h.k37, h.n37, h.i37⟩
  · subst e1; subst e2; exact ⟨h.k38, h.i38, h.r38_0, h.r38_1, h.r38_2, h.r38_4, h.k39, h.n39, h.i39⟩
  · subst e1; subst e2; exact ⟨h.k40, h.i40, h.r40_0, h.r40_1, h.r40_2, h.r40_4, h.k41, h.n41, h.i41⟩
theorem rhoF.vRow (hρ : rhoF σ ρ ub) {d f : Nat} : vRow V ρ d f ↔ vRow V σ d f := by
  unfold _root_.Jvm.Pilot.CQuarryIndexLaw_law_r2112_e0b1ed.vRow Dif tmN tmF lnF
  rw [hρ.1 7 (by decide) (by decide), hρ.1 8 (by decide) (by decide)]
theorem ctN_le12 (hG : GI σ n bf nn nr ns) (hρ : rhoF σ ρ ub) {d f t : Nat} (hd : d < 60) (hf : f < 3) : ctN ρ d f t ≤ 12 := by
  have := ctN_le (σ := ρ) (d := d) (f := f) (t := t)
  have e : lnF ρ d f = lnF σ d f := by unfold lnF; rw [hρ.1 7 (by decide) (by decide)]
  have := (hG.ln hd hf).1
  omega
theorem cO_le (hG : GI σ n bf nn nr ns) (hρ : rhoF σ ρ ub) {d f : Nat} {x : Int32} (hd : d < 60) (hf : f < 3) : cO ρ d f x ≤ 12 := by
  unfold cO; split
  · omega
  · exact ctN_le12 hG hρ hd hf
theorem x_countO (h : CR A D nn V g) (hG : GI σ n bf nn nr ns) (hρ : rhoF σ ρ ub) {d f : Nat} (hd : d < D) (hf : f < 3) (hv : vRow V σ d f) {x : Int32} (hx : isO x) (hd6 : d < 60) {Q : Int32 → Prop} (hQ : Q (nI (cO ρ d f x))) : w_X9_countOf g (A (dl d (2 + f))) (oF ρ x) Q := by
  have hl := (hG.ln hd6 hf).1
  rcases hx with e | ⟨a, ha, e⟩
  · subst e
    unfold oF; unfold cO at hQ
    rw [if_pos rfl] at hQ ⊢
    exact x_countNo h hd hf hl hv hQ
  · subst e
    rw [oF_nI ha]; rw [cO_nI ha] at hQ
    unfold ctN at hQ
    by_cases c : ρ 10 a = 0
    · rw [if_pos c] at hQ ⊢
      refine x_countOf h hd hf hl hv ha ?_
      unfold tmN tmF lnF
      unfold tmF lnF at hQ
      rw [hρ.1 7 (by decide) (by decide), hρ.1 8 (by decide) (by decide)] at hQ
      exact hQ
    · rw [if_neg c] at hQ ⊢
      exact x_countNo h hd hf hl hv hQ
theorem x_taste (h : CR A D nn V g) (hs : isS sb cb ub) (hG : GI σ n bf nn nr ns) (hGρ : GI ρ n bf nn nr ns) (hρ : rhoF σ ρ ub) (hc : vCen V cb ρ n) (hl : vLex V σ) {d f : Nat} (hd : d < n) (h6 : ρ 6 d ≠ 0) (hf : f < 3) {x : Int32} (hx : isO x) {Q : Int32 → Prop} (hQ : Q (tO ρ n d f x)) : w_X8_taste g (A sb) (oF ρ x) (nI (cO ρ d f x)) (σ 7 (d * 3 + f)) (nI f) Q := by
  have hn := hG.n
  obtain ⟨s1, s2, s3, s4, s5, s6, s7⟩ := h.s0 hs
  obtain ⟨c1, c2, _⟩ := h.ck0 hs.c
  unfold w_X8_taste b_X8_taste_20 b_X8_taste_94
  refine ⟨s1, _, s5, c1, x_lengthOf h hs.c hc hf ⟨fun c => ?_, fun c => ?_⟩⟩
  · have hc0 : cO ρ d f x = 0 := by
      have := (nI_le_iff (show cO ρ d f x < 2 ^ 31 by have := cO_le hG hρ (x := x) (show d < 60 by omega) hf; omega) (show 0 < 2 ^ 31 by decide)).mp c
      omega
    have : tO ρ n d f x = 0 := by
      rcases hx with e | ⟨a, ha, e⟩
      · subst e; unfold tO; rw [if_pos rfl]
      · subst e; rw [tO_nI ha]; rw [cO_nI ha] at hc0
        unfold tasteF; rw [ctF_eq ha, hc0]; exact if_pos rfl
    rw [this] at hQ; exact hQ
  · have hpos : 0 < cO ρ d f x := by
      rcases Nat.eq_zero_or_pos (cO ρ d f x) with e | e
      · exact absurd (by rw [e]; decide) c
      · exact e
    rcases hx with e | ⟨a, ha, e⟩
    · subst e; unfold cO at hpos; rw [if_pos rfl] at hpos; omega
    · subst e
      rw [cO_nI ha] at hpos ⊢
      rw [tO_nI ha] at hQ
      have hunm : ρ 10 a = 0 := by
        rcases Classical.em (ρ 10 a = 0) with q | q
        · exact q
        · unfold ctN at hpos; rw [if_neg q] at hpos; omega
      rw [oF_nI ha, if_pos hunm]
      have hln := (hG.ln (show d < 60 by omega) hf)
      have eln : lnF ρ d f = lnF σ d f := by unfold lnF; rw [hρ.1 7 (by decide) (by decide)]
      have hct := ctN_le (σ := ρ) (d := d) (f := f) (t := a)
      have hge := leN_ge (σ := ρ) (f := f) hd h6
      have hle2 := leN_le hGρ hf
      have hly := lyN_le (σ := ρ) (n := n)
      have hle : leF ρ f n = nI (leN ρ f n) := leF_eq hGρ hf
      have e9 : 9 * lnF σ d f * lyN ρ n < 2 ^ 31 := Nat.lt_of_le_of_lt (Nat.mul_le_mul (show 9 * lnF σ d f ≤ 108 by omega) (show lyN ρ n ≤ 60 by omega)) (by decide)
      have hden : 10 * nI (ctN ρ d f a) + 3 + 9 * σ 7 (d * 3 + f) * lyF ρ n / leF ρ f n = nI (10 * ctN ρ d f a + 3 + 9 * lnF σ d f * lyN ρ n / leN ρ f n) := by
        rw [hln.2, lyF_eq, hle, show (9 : Int32) = nI 9 from rfl, show (10 : Int32) = nI 10 from rfl, show (3 : Int32) = nI 3 from rfl, nI_mul, nI_mul, nI_mul, nI_add, nI_div e9 (by omega) (by omega), nI_add]
      have hx9 : 9 * lnF σ d f * lyN ρ n / leN ρ f n ≤ 108 * 60 := Nat.le_trans (Nat.div_le_self _ _) (Nat.mul_le_mul (by omega) (by omega))
      have hsp := spN_le (σ := ρ) (n := n) (t := a) (f := f)
      refine ⟨fun c2' => ⟨_, s5, c1, ?_, _, s5, _, s5, c1, x_spreadOf h hs.c hc ha hf ⟨c1, ?_⟩⟩, fun c2' => ?_⟩
      · rw [hle]; intro e
        have := (nI_inj (show leN ρ f n < 2 ^ 31 by omega) (show 0 < 2 ^ 31 by omega)).mp e
        omega
      · rw [spF_eq]
        refine x_rarityOf h hs.c hc (by omega) ?_
        rw [← spF_eq, c2, hc.1, hden]
        have hne : ¬ nI (10 * ctN ρ d f a + 3 + 9 * lnF σ d f * lyN ρ n / leN ρ f n) = 0 := by
          revert hx9
          generalize 9 * lnF σ d f * lyN ρ n / leN ρ f n = z
          intro hz e
          have := (nI_inj (show 10 * ctN ρ d f a + 3 + z < 2 ^ 31 by omega) (show 0 < 2 ^ 31 by omega)).mp e
          omega
        refine ⟨fun _ => ⟨hne, _, s4, h.k10, x_weightOf h hl hf ?_⟩, fun q => ?_⟩
        · unfold tasteF rareF at hQ
          rw [ctF_eq ha, if_neg (fun e => by have := (nI_inj (show ctN ρ d f a < 2 ^ 31 by omega) (show 0 < 2 ^ 31 by omega)).mp e; omega), hρ.1 12 (by decide) (by decide), hρ.1 7 (by decide) (by decide), hden] at hQ
          exact hQ
        · exfalso; apply q
          revert hx9
          generalize 9 * lnF σ d f * lyN ρ n / leN ρ f n = z
          intro hz
          exact (nI_lt_iff (show 0 < 2 ^ 31 by decide) (show 10 * ctN ρ d f a + 3 + z < 2 ^ 31 by omega)).mpr (by omega)
      · exfalso; apply c2'; rw [hle]
        exact (nI_lt_iff (show 0 < 2 ^ 31 by decide) (show leN ρ f n < 2 ^ 31 by omega)).mpr (by omega)
end CSCORE
