/-! THE REFERENCE'S READERS: windows and costs -/
def souB (σ : Rows) (nn : Nat) (N : Nat → Bool) (f : Nat) (t : Int32) : Bool := orB (fun j => N j && !decide (fbit (σ 19 j) (nI f) = 0) && lkB σ (σ 18 j) t) nn
def winB (σ : Rows) (nn : Nat) (N : Nat → Bool) (d f s q : Nat) : Bool := souB σ nn N f (tmF σ d f (s + q)) && !(hasB (fun i => tmF σ d f (s + i)) q (tmF σ d f (s + q)))
def winV (σ : Rows) (nn : Nat) (N : Nat → Bool) (d f w s : Nat) : Nat := cnt (winB σ nn N d f s) (min (lnF σ d f) (s + w) - s)
def windowF (σ : Rows) (nn : Nat) (N : Nat → Bool) (d f w : Nat) : Int32 := (bst (fun _ => true) (fun s => nI (winV σ nn N d f w s)) (lnF σ d f)).1
def readF (σ : Rows) (n t f : Nat) : Int32 := if σ 10 t = 0 then spF σ t f n else 0
def alR (σ : Rows) (n a f : Nat) : Int32 := if σ 11 a = -1 then 0 else readF σ n (σ 11 a).toNatClampNeg f
def costT (σ : Rows) (n : Nat) (N : Nat → Bool) (j f : Nat) : Int32 := if N j = false ∨ fbit (σ 19 j) (nI f) = 0 then 0 else readF σ n (σ 18 j).toNatClampNeg f + alR σ n (σ 18 j).toNatClampNeg f
def costF (σ : Rows) (n nn : Nat) (N : Nat → Bool) : Int32 := isum (fun j => isum (fun f => costT σ n N j f) 3) nn
section MREAD3
variable {FR : gS → Prop} {m : Nat} {μ : Nat → Nat} {σ : Rows} {n : Nat} {T : Nat → Int32} {g : gS} {bf nn nr ns : Nat}
theorem tnB_term {σ : Rows} {wn : Bool} {top j : Nat} (h : tnB σ wn top j = true) : σ 17 j = 0 := by
  unfold tnB at h
  simp at h; exact h.2
theorem mt_window (h : MT FR m μ σ n T g) (hG : GI σ n bf nn nr ns) (hN : NG σ nn) {d f w : Nat} (hd : d < 60) (hf : f < 3) (hw : w ≤ 12) {top : Nat} {wn : Bool} {x : Int32} (hx : ∀ j, j < 30 → bt x j = tnB σ wn top j) {Q : Int32 → gS → Prop} (hQ : Q (windowF σ nn (tnB σ wn top) d f w) g) : lpx3 (l_X11_window_68 g m (nI d) (nI f) (nI w) x Q) (-1) 0 0 := by
  have hnn : nn ≤ 30 := hG.1.2.2.1
  obtain ⟨hl1, hl2⟩ := hG.ln hd hf
  refine lpx3_s (lnF σ d f) (fun s => (bst (fun _ => true) (fun s => nI (winV σ nn (tnB σ wn top) d f w s)) s).1) (fun s => (bst (fun _ => true) (fun s => nI (winV σ nn (tnB σ wn top) d f w s)) s).2) (fun s => nI s) rfl rfl rfl (fun s hs K hK => ?_) (fun K => ?_)
  · unfold l_X11_window_68
    refine ⟨h.k, (mt_many h hd hf).mpr ?_⟩
    rw [hl2]
    refine ⟨fun c => absurd c (nI_ge hs (by omega)), fun _ => ?_⟩
    have emin : (if nI (lnF σ d f) < nI s + nI w then nI (lnF σ d f) else nI s + nI w) = nI (min (lnF σ d f) (s + w)) := by
      rw [nI_add]
      by_cases e : lnF σ d f < s + w
      · rw [if_pos ((nI_lt_iff (by omega) (by omega)).mpr e), Nat.min_eq_left (by omega)]
      · rw [if_neg (fun q => e ((nI_lt_iff (by omega) (by omega)).mp q)), Nat.min_eq_right (by omega)]
    have hM : min (lnF σ d f) (s + w) ≤ 12 := Nat.le_trans (Nat.min_le_left _ _) hl1
    have hM2 : min (lnF σ d f) (s + w) ≤ lnF σ d f := Nat.min_le_left _ _
    have hM3 : s ≤ min (lnF σ d f) (s + w) := Nat.le_min.mpr ⟨by omega, by omega⟩
    refine lpx2_s (min (lnF σ d f) (s + w) - s) (fun q => nI (cnt (winB σ nn (tnB σ wn top) d f s) q)) (fun q => nI (s + q)) rfl rfl (fun q hq K2 hK2 => ?_) (fun K2 => ?_)
    · unfold l_X11_window_86
      refine ⟨h.k, (mt_many h hd hf).mpr ?_⟩
      rw [hl2, emin]
      refine ⟨fun c => absurd c (nI_ge (by omega) (by omega)), fun _ => ?_⟩
      obtain ⟨u, hu, eu⟩ := hG.tm hd hf (show s + q < lnF σ d f by omega)
      refine lpx2_s nn (fun j => bI (orB (fun j => tnB σ wn top j && !decide (fbit (σ 19 j) (nI f) = 0) && lkB σ (σ 18 j) (nI u)) j)) (fun j => nI j) rfl rfl (fun j hj K3 hK3 => ?_) (fun K3 => ?_)
      · unfold l_X11_window_111 b_X11_window_167 b_X11_window_168
        refine ⟨h.k, ?_⟩
        rw [h.s (by decide) (by decide), hG.d16]
        rw [orB] at hK3
        generalize orB (fun j => tnB σ wn top j && !decide (fbit (σ 19 j) (nI f) = 0) && lkB σ (σ 18 j) (nI u)) j = Y at hK3 ⊢
        have y0 : bI Y ||| 0 = bI Y := by have := bI_or Y false; simpa using this
        have y1 : bI Y ||| 1 = 1 := by have := bI_or Y true; simpa [bI] using this
        refine ⟨fun c => absurd c (nI_ge hj (by omega)), fun _ => ⟨fun c => ?_, fun c => ⟨_, h.r19, h.k19, by rw [h.n19]; exact vpi (by omega), ?_⟩⟩⟩
        · rw [bit_shr x (by omega), hx j (by omega)] at c
          rw [y0, nI_1]; rw [c] at hK3; simpa using hK3
        · rw [bit_shr x (by omega), hx j (by omega), Bool.not_eq_false] at c
          rw [h.i19]; (try simp (disch := omega) only [cl_nI])
          refine ⟨fun c2 => ?_, fun c2 => (mt_at h hd hf (by omega)).mpr ?_⟩
          · rw [decide_eq_true (show fbit (σ 19 j) (nI f) = 0 from c2)] at hK3
            rw [y0, nI_1]; simpa using hK3
          · obtain ⟨a, b, ha, _, _, ea, _⟩ := (hN j hj).term (tnB_term c)
            rw [eu]
            rw [c, decide_eq_false (show ¬ fbit (σ 19 j) (nI f) = 0 from c2), ea] at hK3
            refine mt_looksFor h (by omega) ha hu ea ⟨fun c3 => ?_, fun c3 => ?_⟩
            · rw [bI_0.mp c3] at hK3; rw [y0, nI_1]; simpa using hK3
            · rw [bI_n0 c3] at hK3; rw [y1, nI_1]; simpa [bI] using hK3
      · unfold l_X11_window_111
        refine ⟨h.k, ?_⟩
        rw [h.s (by decide) (by decide), hG.d16]
        refine ⟨fun _ => ?_, fun c => absurd (nI_le (Nat.le_refl _) (by omega)) c⟩
        have ew : winB σ nn (tnB σ wn top) d f s q = (orB (fun j => tnB σ wn top j && !decide (fbit (σ 19 j) (nI f) = 0) && lkB σ (σ 18 j) (nI u)) nn && !(hasB (fun i => tmF σ d f (s + i)) q (nI u))) := by unfold winB souB; rw [eu]
        rw [cnt_s, ew] at hK2
        generalize orB (fun j => tnB σ wn top j && !decide (fbit (σ 19 j) (nI f) = 0) && lkB σ (σ 18 j) (nI u)) nn = Y at hK2 ⊢
        refine lpx2_s q (fun i => bI (Y && !(hasB (fun i => tmF σ d f (s + i)) i (nI u)))) (fun i => nI (s + i)) (by simp [hasB]) rfl (fun i hi K4 hK4 => ?_) (fun K4 => ?_)
        · unfold l_X11_window_181 b_X11_window_214
          refine ⟨fun c => absurd c (nI_ge (by omega) (by omega)), fun _ => ⟨h.k, (mt_at h hd hf (by omega)).mpr ((mt_at h hd hf (by omega)).mpr ?_)⟩⟩
          rw [hasB] at hK4
          rw [eu]
          refine ⟨fun c => ?_, fun c => ?_⟩
          · rw [decide_eq_true c] at hK4
            rw [show (0 : Int32) = bI false from rfl, bI_and, nI_1]; simpa [Nat.add_assoc] using hK4
          · rw [decide_eq_false c] at hK4
            rw [show (bI (Y && !(hasB (fun i => tmF σ d f (s + i)) i (nI u))) &&& 1) = bI ((Y && !(hasB (fun i => tmF σ d f (s + i)) i (nI u))) && true) from bI_and _ true, nI_1]; simpa [Nat.add_assoc] using hK4
        · unfold l_X11_window_181 b_X11_window_235
          refine ⟨fun _ => ⟨fun c => ?_, fun c => ?_⟩, fun c => absurd (nI_le (Nat.le_refl _) (by omega)) c⟩
          · rw [bI_0.mp c] at hK2
            rw [nI_1, Int32.add_zero]; simpa [Nat.add_assoc] using hK2
          · rw [bI_n0 c] at hK2
            rw [nI_1, nI_1]; simpa [Nat.add_assoc] using hK2
    · unfold l_X11_window_86 b_X11_window_259
      refine ⟨h.k, (mt_many h hd hf).mpr ?_⟩
      rw [hl2, emin, show s + (min (lnF σ d f) (s + w) - s) = min (lnF σ d f) (s + w) by omega]
      rw [bst] at hK
      refine ⟨fun _ => ⟨fun c => ?_, fun c => ?_⟩, fun c => absurd (nI_le (Nat.le_refl _) (by omega)) c⟩
      · rw [if_neg (fun q => i32_nl.mpr c q.2)] at hK
        rw [nI_1]; exact hK
      · rw [if_pos ⟨rfl, i32_nle.mp c⟩] at hK
        rw [nI_1]; exact hK
  · unfold l_X11_window_68
    refine ⟨h.k, (mt_many h hd hf).mpr ?_⟩
    rw [hl2]
    exact ⟨fun _ => hQ, fun c => absurd (nI_le (Nat.le_refl _) (by omega)) c⟩
theorem mt_readOf (h : MT FR m μ σ n T g) (hG : GI σ n bf nn nr ns) {t f : Nat} (ht : t < 200) (hf : f < 3) {Q : Int32 → gS → Prop} (hQ : ∀ g', MT FR m μ σ n T g' → Q (readF σ n t f) g') : w_X11_readOf g m (nI t) (nI f) Q := by
  unfold w_X11_readOf b_X11_readOf_19
  unfold readF at hQ
  refine ⟨h.k, _, h.r10, h.k10, by rw [h.n10]; exact vpi ht, ?_⟩
  rw [h.i10]; (try simp (disch := omega) only [cl_nI])
  refine ⟨fun c => mt_spreadNow h hG ht hf (fun g' h' => ?_), fun c => ?_⟩
  · have := hQ g' h'; rw [if_pos c] at this; exact this
  · have := hQ g h; rw [if_neg c] at this; exact this
theorem mt_costNow (h : MT FR m μ σ n T g) (hG : GI σ n bf nn nr ns) (hN : NG σ nn) {top : Nat} (ht : top < nn) {Q : Int32 → gS → Prop} (hQ : ∀ g', MT FR m μ σ n T g' → Q (costF σ n nn (tnB σ true top)) g') : w_X11_costNow g m (nI top) Q := by
  have hnn : nn ≤ 30 := hG.1.2.2.1
  unfold w_X11_costNow
  refine ⟨h.k, mt_termNodes (wn := true) h hN hnn ht (fun x hx => ?_)⟩
  refine lpx3_i nn (fun j g' s i => s = isum (fun j => isum (fun f => costT σ n (tnB σ true top) j f) 3) j ∧ i = nI j ∧ MT FR m μ σ n T g') ?_ ?_ g 0 0 ⟨rfl, rfl, h⟩
  · rintro j g1 _ _ hj ⟨rfl, rfl, h1⟩ K hK
    unfold l_X11_costNow_12
    refine ⟨h1.k, ?_⟩
    rw [h1.s (by decide) (by decide), hG.d16]
    refine ⟨fun c => absurd c (nI_ge hj (by omega)), fun _ => ?_⟩
    generalize eS : isum (fun j => isum (fun f => costT σ n (tnB σ true top) j f) 3) j = S at hK ⊢
    refine lpx3_i 3 (fun f g' s i => s = S + isum (fun f => costT σ n (tnB σ true top) j f) f ∧ i = nI f ∧ MT FR m μ σ n T g') ?_ ?_ g1 _ _ ⟨(Int32.add_zero _).symm, rfl, h1⟩
    · rintro f g2 _ _ hf ⟨rfl, rfl, h2⟩ K2 hK2
      unfold l_X11_costNow_24
      have zero : costT σ n (tnB σ true top) j f = 0 → K2 g2 (S + isum (fun f => costT σ n (tnB σ true top) j f) f) (nI f + 1) := by
        intro e
        refine hK2 _ _ _ ⟨?_, nI_1 f, h2⟩
        rw [isum, e, Int32.add_zero]
      have hj3 : j < 30 := by omega
      refine ⟨fun c => absurd c (nI_ge hf (by decide)), fun _ => ⟨fun c => ?_, fun c => ⟨h2.k, _, h2.r19, h2.k19, by rw [h2.n19]; exact vpi hj3, ?_⟩⟩⟩
      · rw [bit_shr x (by omega), hx j (by omega)] at c
        exact zero (by unfold costT; rw [if_pos (Or.inl c)])
      · rw [bit_shr x (by omega), hx j (by omega), Bool.not_eq_false] at c
        rw [h2.i19]; (try simp (disch := omega) only [cl_nI])
        obtain ⟨a, b, ha, _, _, ea, _⟩ := (hN j hj).term (tnB_term c)
        unfold b_X11_costNow_109 b_X11_costNow_112
        refine ⟨fun c2 => zero (by unfold costT; rw [if_pos (Or.inr (show fbit (σ 19 j) (nI f) = 0 from c2))]), fun c2 => ⟨_, h2.r18, h2.k18, by rw [h2.n18]; exact vpi hj3, ?_⟩⟩
        have val : costT σ n (tnB σ true top) j f = readF σ n a f + alR σ n a f := by
          unfold costT
          rw [if_neg (by rintro (e | e); rw [c] at e; exact absurd e (by decide); exact c2 e), ea, cl_nI (show a < 2 ^ 31 by omega)]
        rw [h2.i18]; (try simp (disch := omega) only [cl_nI]); rw [ea]
        refine mt_readOf h2 hG ha hf (fun g3 h3 => ⟨h3.k, _, h3.r11, _, h3.r18, h3.k18, by rw [h3.n18]; exact vpi hj3, h3.k11, ?_⟩)
        rw [h3.i18]; (try simp (disch := omega) only [cl_nI]); rw [ea, h3.i11, h3.n11]; (try simp (disch := omega) only [cl_nI])
        refine ⟨vpi ha, fun c3 => ?_, fun c3 => ⟨_, h3.r11, _, h3.r18, h3.k18, by rw [h3.n18]; exact vpi hj3, h3.k11, ?_⟩⟩
        · refine hK2 _ _ _ ⟨?_, nI_1 f, h3⟩
          rw [isum, val, alR, if_pos c3, Int32.add_assoc]
        · rw [h3.i18]; (try simp (disch := omega) only [cl_nI]); rw [ea, h3.i11, h3.n11]; (try simp (disch := omega) only [cl_nI])
          rcases hG.al ha with e | ⟨b2, hb, e⟩
          · exact absurd e c3
          · rw [e]
            refine ⟨vpi ha, mt_readOf h3 hG hb hf (fun g4 h4 => hK2 _ _ _ ⟨?_, nI_1 f, h4⟩)⟩
            rw [isum, val, alR, if_neg c3, e, cl_nI (show b2 < 2 ^ 31 by omega), Int32.add_assoc]
    · rintro g2 _ _ ⟨rfl, rfl, h2⟩ K2
      unfold l_X11_costNow_24
      refine ⟨fun _ => hK _ _ _ ⟨?_, nI_1 j, h2⟩, fun c => absurd (by decide) c⟩
      rw [← eS]; rfl
  · rintro g1 _ _ ⟨rfl, rfl, h1⟩ K
    unfold l_X11_costNow_12
    refine ⟨h1.k, ?_⟩
    rw [h1.s (by decide) (by decide), hG.d16]
    exact ⟨fun _ => hQ g1 h1, fun c => absurd (nI_le (Nat.le_refl _) (by omega)) c⟩
end MREAD3
