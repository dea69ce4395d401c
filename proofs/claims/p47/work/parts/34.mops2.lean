section TZ
variable {σ : Rows} {c : Int32} {n d f t j k : Nat} {T : Nat → Int32}
theorem tz_spF : spF (tz σ c) t f n = spF σ t f n := rfl
theorem tz_rareF : rareF (tz σ c) n t f = rareF σ n t f := rfl
theorem tz_tasteF : tasteF (tz σ c) n d f t = tasteF σ n d f t := rfl
theorem tz_termF {b : Int32} : termF (tz σ c) n d t b = termF σ n d t b := rfl
theorem tz_scoreF : scoreF (tz σ c) n T j d = scoreF σ n T j d := rfl
theorem tz_scT : ∀ k, scT (tz σ c) n d T k = scT σ n d T k
  | 0 => rfl
  | k + 1 => by rw [scT, scT, tz_scT k, tz_scoreF]
theorem tz_scV : scV (tz σ c) n d j = scV σ n d j := by unfold scV; rw [tz_scT]
theorem tz_scoreNowF : scoreNowF (tz σ c) n d j = scoreNowF σ n d j := by unfold scoreNowF; rw [tz_scV]; rfl
theorem tz_foundF {k : Nat} : foundF (tz σ c) n j k = foundF σ n j k := by unfold foundF; exact cnt_congr (fun d _ => by rw [tz_scoreNowF])
theorem tz_insF {wn : Bool} {top : Nat} : ∀ k j, insF (tz σ c) wn top k j = insF σ wn top k j
  | 0, j => rfl
  | k + 1, j => by rw [insF, insF, tz_insF k j, tz_insF k (top - k)]; rfl
theorem tz_tnB {wn : Bool} {top j : Nat} : tnB (tz σ c) wn top j = tnB σ wn top j := by unfold tnB; rw [tz_insF]; rfl
theorem tz_tnB' {wn : Bool} {top : Nat} : tnB (tz σ c) wn top = tnB σ wn top := funext (fun _ => tz_tnB)
theorem tz_windowF {N : Nat → Bool} {nn w : Nat} : windowF (tz σ c) nn N d f w = windowF σ nn N d f w := rfl
theorem tz_costF {N : Nat → Bool} {nn : Nat} : costF (tz σ c) n nn N = costF σ n nn N := rfl
theorem tz_likeF : likeF (tz σ c) n d = likeF σ n d := rfl
theorem tz_mtS {s : Nat} : ∀ t, mtS (tz σ c) n s t = mtS σ n s t
  | 0 => rfl
  | t + 1 => by rw [mtS, mtS, tz_mtS t]; rfl
theorem tz_kindF {x : Int32} : kindF (tz σ c) n x = kindF σ n x := rfl
theorem tz_datesF {x y : Int32} : datesF (tz σ c) n x y = datesF σ n x y := rfl
theorem tz_sizeF {x : Int32} : sizeF (tz σ c) n x = sizeF σ n x := rfl
variable {bf nn nr ns : Nat}
theorem GI.tz (h : GI σ n bf nn nr ns) : GI (tz σ c) n bf nn nr ns := h
theorem NG.tz (h : NG σ nn) : NG (tz σ c) nn := h
theorem RG.tz (h : RG σ n nr) : RG (tz σ c) n nr := h
end TZ
section MOPS2
variable {FR : gS → Prop} {m : Nat} {μ : Nat → Nat} {σ : Rows} {n : Nat} {T : Nat → Int32} {g : gS} {bf nn nr ns : Nat}
theorem nn2 {P : Prop} (h : ¬ ¬ P) : P := Classical.not_not.mp h
theorem nor2 {P R : Prop} (h1 : ¬ P) (h2 : ¬ R) : ¬ (P ∨ R) := fun q => q.elim h1 h2
theorem nor3 {P R S : Prop} (h1 : ¬ P) (h2 : ¬ R) (h3 : ¬ S) : ¬ (P ∨ R ∨ S) := fun q => q.elim h1 (fun q => q.elim h2 h3)
theorem GI.nF (h : GI σ n bf nn nr ns) : nF σ = n := by unfold _root_.Jvm.Pilot.CQuarryIndexLaw_law_r2112_e0b1ed.nF; rw [h.d1]; exact cl_nI (by have := h.n; omega)
theorem GI.nn3 (h : GI σ n bf nn nr ns) : nn ≤ 30 := h.1.2.2.1
theorem GI.nnF (h : GI σ n bf nn nr ns) : nnF σ = nn := by unfold _root_.Jvm.Pilot.CQuarryIndexLaw_law_r2112_e0b1ed.nnF; rw [h.d16]; exact cl_nI (by have := h.nn3; omega)
theorem GI.d22 (h : GI σ n bf nn nr ns) : σ 0 22 = nI nr := h.2.1.2.2.2.1
theorem GI.nr6 (h : GI σ n bf nn nr ns) : nr ≤ 60 := h.1.2.2.2.1
theorem GI.nrF (h : GI σ n bf nn nr ns) : nrF σ = nr := by unfold _root_.Jvm.Pilot.CQuarryIndexLaw_law_r2112_e0b1ed.nrF; rw [h.d22]; exact cl_nI (by have := h.nr6; omega)
theorem GI.d13 (h : GI σ n bf nn nr ns) : σ 0 13 = nI ns := h.2.1.2.2.2.2
theorem GI.ns6 (h : GI σ n bf nn nr ns) : ns ≤ 60 := h.1.2.2.2.2
theorem GI.d9 (h : GI σ n bf nn nr ns) : σ 0 9 = nI bf := h.2.1.2.1
theorem GI.isD (h : GI σ n bf nn nr ns) {x : Int32} (c : isD σ x) : ∃ k, k < n ∧ x = nI k := by
  unfold _root_.Jvm.Pilot.CQuarryIndexLaw_law_r2112_e0b1ed.isD at c
  rw [h.d1] at c; exact inR_nI (by have := h.n; omega) c
theorem GI.isN (h : GI σ n bf nn nr ns) {x : Int32} (c : isN σ x) : ∃ k, k < nn ∧ x = nI k := by
  unfold _root_.Jvm.Pilot.CQuarryIndexLaw_law_r2112_e0b1ed.isN at c
  rw [h.d16] at c; exact inR_nI (by have := h.nn3; omega) c
theorem tz_isD {c x : Int32} : isD (tz σ c) x ↔ isD σ x := by unfold isD; rw [tz_0 (by decide)]
theorem tz_isN {c x : Int32} : isN (tz σ c) x ↔ isN σ x := by unfold isN; rw [tz_0 (by decide)]
end MOPS2
