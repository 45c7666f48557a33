/-! what changes the town -/
theorem okD_set {A : AT} (h : okA A) (hD : aD A = 0) : okD (aSet A) := ⟨h, by
  show (if aD A = 0 then (if aFall A (aM A) = -4 then 0 else 1) else 1) = (if aFall A (aM A) = -4 then 0 else 1)
  rw [if_pos hD]⟩
theorem X8_settle_a {A : AT} {ts : MS} {B : Nat → BK} (hc : ct A ts B) {N : Nat} (hok : okB N A) (h9 : gF ts 9 = -4) : X8_settle ts = some ((), sF ts 9 (aFall A (aM A))) := by
  unfold X8_settle X8_settle_p19
  rw [X8_isDown_s, if_pos h9, bnd_s, if_pos rfl, X8_fallSideAt_a hc hok, bnd_s, nm_s, hc.M]
theorem X8_settle_d {ts : MS} (h9 : ¬ gF ts 9 = -4) : X8_settle ts = some ((), ts) := by
  unfold X8_settle X8_settle_p19
  rw [X8_isDown_s, if_neg h9, bnd_s, if_neg (by decide)]
theorem RR_set {xs : XS} {ms : MS} (h : RR xs ms) {A : AT} (hok : okA A) (hD : aD A = 0) {xs1 : XS} (hc : ct A (xT xs1 0) (xB xs1 0)) (h9 : gF (xT xs1 0) 9 = -4) (hx : FX xs xs1) {ms1 : MS} (hf : FR ms ms1) (hm : mt A ms1) :
    ∃ ms2, X8_settle (xT xs1 0) = some ((), sF (xT xs1 0) 9 (aFall A (aM A))) ∧ X11_settle ms1 = some ((), ms2) ∧ RR (uT xs1 0 (sF (xT xs1 0) 9 (aFall A (aM A)))) ms2 ∧ (∀ k, k ≠ 7 → gF ms2 k = gF ms1 k) := by
  obtain ⟨A0, hA0, hc0, h90, hR0⟩ := h.1
  have hR1 : mR A ms1 := FR_mR hR0 hf hm
  obtain ⟨ms2, e, m2, g1, g2, g3⟩ := X11_settle_a hR1 hok (Or.inl hD)
  refine ⟨ms2, X8_settle_a hc hok h9, e, ?_, g3⟩
  exact RR_n h (A := aSet A) (okD_set hok hD) (xs' := uT xs1 0 (sF (xT xs1 0) 9 (aFall A (aM A)))) hc rfl m2 (hx.tr (FX_u0 _ _)) (hf.tr ⟨fun k _ => g1 k, g2 16, g3 28 (by decide)⟩)
theorem ki_n {k : BK} (h : k.1 < 8) : kiB k = nI k.1 := by
  obtain ⟨n, f⟩ := k
  have h : n < 8 := h
  have hn : n = 0 ∨ n = 1 ∨ n = 2 ∨ n = 3 ∨ n = 4 ∨ n = 5 ∨ n = 6 ∨ n = 7 := by omega
  rcases hn with e | e | e | e | e | e | e | e <;> subst e <;> rfl
theorem FR_sA (ms : MS) {a : Nat} (ha : a ∈ ([2, 3, 4, 9, 10, 23, 24, 25, 26, 32] : List Nat)) (i : Nat) (v : Int32) : FR ms (sA ms a i v) := by
  refine ⟨fun k hk => gA_sAn _ _ (fun e => ?_), rfl, rfl⟩
  have : ∀ x ∈ ([2, 3, 4, 9, 10, 23, 24, 25, 26, 32] : List Nat), x ∉ ([0, 1, 11, 12, 13, 14, 15, 18, 27] : List Nat) := by decide
  exact this a ha (by rw [← e]; exact hk)
theorem FR_sF (ms : MS) {a : Nat} (ha : a ≠ 28) (v : Int32) : FR ms (sF ms a v) := ⟨fun _ _ => rfl, rfl, by rw [gF_sF, if_neg (fun e => ha e.symm)]⟩
/-- a brick comes to a cell -/
theorem comesTo_a {xs : XS} {ms : MS} (h : RR xs ms) {A : AT} (hA : okD A) (hc : ct A (xT xs 0) (xB xs 0)) (h9 : gF (xT xs 0) 9 = aFall A (aM A)) (hR : mR A ms) (hD : aD A = 0) {c : Nat} (hcc : c < 12) {k : BK} (hk : k.1 < 8) (hf : isN 10 k.2) :
    ∃ xs' ms2, X10_comesTo xs (nI c) k = some (aK A c, xs') ∧ X11_settle (sA (sA ms 2 c (kiB k)) 3 c k.2) = some ((), ms2) ∧ RR xs' ms2 := by
  obtain ⟨x1, e1, t1, c1, n1⟩ := X8_replace_0_a hc hcc hk
  have n9 : gF (xT x1 0) 9 = -4 := by rw [n1, h9]; exact aD_0 hA hD
  obtain ⟨ms2, s1, s2, s3, _⟩ := RR_set h (A := aRep A c (kiB k) k.2) (okA_rep hA.1 ⟨k.1, hk, ki_n hk⟩ hf) hD c1 n9 t1.FX0 ((FR_sA ms (a := 2) (by decide) c (kiB k)).tr (FR_sA _ (a := 3) (by decide) c k.2)) (mt_rep hR.2.2 c (kiB k) k.2)
  refine ⟨_, ms2, ?_, s2, s3⟩
  unfold X10_comesTo
  rw [X8_isDown_a hA h9, bnd_s, uT_self, nm_s, if_pos hD, inr_i hcc, nm_s, e1, bnd_s, s1, bnd_s, nm_s, nI_cl hcc, hc.K hcc]
theorem comesTo_d {xs : XS} {A : AT} (hA : okD A) (h9 : gF (xT xs 0) 9 = aFall A (aM A)) (hD : ¬ aD A = 0) (v : Int32) (k : BK) : X10_comesTo xs v k = some (-3, xs) := by
  unfold X10_comesTo
  rw [X8_isDown_a hA h9, bnd_s, uT_self, nm_s, if_neg hD]
theorem X11_cut_s (st : MS) {c : Nat} (hc : c < 12) : X11_cut st (nI c) = some ((), sA (sA st 2 c 1) 3 c 0) := by
  unfold X11_cut
  rw [inr_i hc, nm_s, inr_i hc, nm_s, nI_cl hc]
theorem qm_cuts {xs : XS} {ms : MS} (h : RR xs ms) (v : Int32) : Cm (X10_cuts xs v) (X11_cuts ms v) := by
  have h' := RR_17 h 0
  obtain ⟨A, hA, hc, h9, hR⟩ := h'.1
  by_cases hv : isN 12 v
  · obtain ⟨s, hs, rfl⟩ := hv
    unfold X10_cuts X11_cuts
    rw [X10_isSide_t ⟨s, hs, rfl⟩, bd1_s, if_neg n10, nm_s, X11_isSide_t ⟨s, hs, rfl⟩, bd1_s, if_neg n10, hR.2.2.D]
    by_cases hD : aD A = 0
    · obtain ⟨x1, m2, e1, e2, r1⟩ := comesTo_a h' hA hc h9 hR hD hs (k := ((1, 0) : BK)) (by decide) ⟨0, by decide, rfl⟩
      refine ⟨_, _, _, by rw [e1, bnd_s], ?_, r1⟩
      rw [if_pos hD, inr_i hs, nm_s, X11_cut_s _ hs, bnd_s]
      rw [show sA (sA (sF ms 17 0) 2 s 1) 3 s 0 = sA (sA (sF ms 17 0) 2 s (kiB ((1, 0) : BK))) 3 s ((1, 0) : BK).2 from rfl, e2, bnd_s, nI_cl hs, hR.2.2.K hs]
    · exact ⟨_, _, _, by rw [comesTo_d hA h9 hD, bnd_s], by rw [if_neg hD], h'⟩
  · apply Cm_i h'
    · unfold X10_cuts
      rw [X10_isSide_f hv, bd1_s, if_pos rfl]
    · unfold X11_cuts
      rw [nm_s, X11_isSide_f hv, bd1_s, if_pos rfl]
/-! what stands on a shelf -/
theorem X11_wk_s {ms : MS} {d : Nat} (hd : d < 8) : X11_wrongKept ms (nI d) = some ((if gA ms 11 d = 0 then -11 else if gA ms 11 d = 1 then 0 else -12), ms) := by
  unfold X11_wrongKept X11_wrongKept_p46
  rw [X11_in_n (n := 7) (by decide) (by decide) ⟨d, hd, rfl⟩, bd1_s, if_neg n10, inr_i hd, inr_i hd, nI_cl hd]
  by_cases c : gA ms 11 d = 0
  · rw [if_pos c, if_pos c]
  · rw [if_neg c, if_neg c]
    by_cases e : gA ms 11 d = 1
    · rw [if_pos e, if_pos e]
    · rw [if_neg e, if_neg e]
theorem X11_wr_s {ms : MS} {d : Nat} (hd : d < 8) : X11_wrongRow ms (nI d) = some ((if gA ms 11 d = 0 then -11 else if gA ms 11 d = 2 then 0 else -12), ms) := by
  unfold X11_wrongRow X11_wrongRow_p46
  rw [X11_in_n (n := 7) (by decide) (by decide) ⟨d, hd, rfl⟩, bd1_s, if_neg n10, inr_i hd, inr_i hd, nI_cl hd]
  by_cases c : gA ms 11 d = 0
  · rw [if_pos c, if_pos c]
  · rw [if_neg c, if_neg c]
    by_cases e : gA ms 11 d = 2
    · rw [if_pos e, if_pos e]
    · rw [if_neg e, if_neg e]
theorem X10_ko_s {xs : XS} {d : Nat} (hd : d < 8) : X10_kindOn xs (nI d) = some (xK xs d, xs) := by
  unfold X10_kindOn X10_kindOn_p17
  rw [X10_isShelf_t ⟨d, hd, rfl⟩, bd1_s, if_neg n10, inr_i hd, nI_cl hd]
theorem X10_ro_s {xs : XS} {d : Nat} (hd : d < 8) : X10_rowOn xs (nI d) = some (oR xs d, xs) := by
  unfold X10_rowOn X10_rowOn_p17
  rw [X10_isShelf_t ⟨d, hd, rfl⟩, bd1_s, if_neg n10, inr_i hd, nI_cl hd]
theorem X10_ib_n {xs : XS} {d : Nat} (hd : d < 8) (h1 : xK xs d = none) (h2 : xR xs d = none) : X10_isBare xs (nI d) = some (1, xs) := by
  unfold X10_isBare X10_isBare_p30
  rw [X10_isShelf_t ⟨d, hd, rfl⟩, bd1_s, if_neg n10, inr_i hd, nI_cl hd, h1, ob_n, inr_i hd, show oR xs d = none by unfold oR; rw [h2]; rfl, ob_n, gz_1]
theorem X10_ib_k {xs : XS} {d : Nat} (hd : d < 8) {k : BK} (h1 : xK xs d = some k) : X10_isBare xs (nI d) = some (0, xs) := by
  unfold X10_isBare X10_isBare_p30
  rw [X10_isShelf_t ⟨d, hd, rfl⟩, bd1_s, if_neg n10, inr_i hd, nI_cl hd, h1, ob_s, gz_0]
theorem X10_ib_r {xs : XS} {d : Nat} (hd : d < 8) (h1 : xK xs d = none) {z : Nat × MS} (h2 : xR xs d = some z) : X10_isBare xs (nI d) = some (0, xs) := by
  unfold X10_isBare X10_isBare_p30
  rw [X10_isShelf_t ⟨d, hd, rfl⟩, bd1_s, if_neg n10, inr_i hd, nI_cl hd, h1, ob_n, inr_i hd, show oR xs d = some d by unfold oR; rw [h2]; rfl, ob_s, gz_0]
theorem X10_rf_s {xs : XS} {d : Nat} (hd : d < 8) {y : Int32} (h : X10_isBare xs (nI d) = some (y, xs)) : X10_refusal xs (nI d) = some ((if y = 0 then -12 else -11), xs) := by
  unfold X10_refusal X10_refusal_p24
  rw [X10_isShelf_t ⟨d, hd, rfl⟩, bd1_s, if_neg n10, h, bnd_s]
  by_cases c : y = 0
  · rw [if_pos c, if_pos c]
  · rw [if_neg c, if_neg c]
def ShN (xs : XS) (ms : MS) (v : Int32) : Prop := ¬ isN 8 v ∧ X10_kindOn xs v = some (none, xs) ∧ X10_rowOn xs v = some (none, xs) ∧ X10_refusal xs v = some (-1, xs) ∧ X11_wrongKept ms v = some (-1, ms) ∧ X11_wrongRow ms v = some (-1, ms)
def ShB (xs : XS) (ms : MS) (v : Int32) : Prop := ∃ d, d < 8 ∧ v = nI d ∧ X10_kindOn xs v = some (none, xs) ∧ X10_rowOn xs v = some (none, xs) ∧ X10_refusal xs v = some (-11, xs) ∧ X11_wrongKept ms v = some (-11, ms) ∧ X11_wrongRow ms v = some (-11, ms)
def ShK (xs : XS) (ms : MS) (v : Int32) : Prop := ∃ d, d < 8 ∧ v = nI d ∧ ∃ k : BK, xK xs d = some k ∧ k.1 < 8 ∧ isN 10 k.2 ∧ gA ms 12 d = kiB k ∧ gA ms 13 d = k.2 ∧ X10_kindOn xs v = some (some k, xs) ∧ X10_rowOn xs v = some (none, xs) ∧ X10_refusal xs v = some (-12, xs) ∧ X11_wrongKept ms v = some (0, ms) ∧ X11_wrongRow ms v = some (-12, ms)
def ShR (xs : XS) (ms : MS) (v : Int32) : Prop := ∃ d, d < 8 ∧ v = nI d ∧ ∃ n st, xR xs d = some (n, st) ∧ n ≤ 100 ∧ isN 3 (gF st 0) ∧ gA ms 14 d = gF st 0 ∧ gA ms 15 d = nI n ∧ (∀ i, i < n → gL ms 16 (100 * d + i) = (gA st 1 i).toInt64) ∧ X10_kindOn xs v = some (none, xs) ∧ X10_rowOn xs v = some (some d, xs) ∧ X10_refusal xs v = some (-12, xs) ∧ X11_wrongKept ms v = some (-12, ms) ∧ X11_wrongRow ms v = some (0, ms)
theorem sh_cases {xs : XS} {ms : MS} (h : RR xs ms) (v : Int32) : ShN xs ms v ∨ ShB xs ms v ∨ ShK xs ms v ∨ ShR xs ms v := by
  by_cases hv : isN 8 v
  · obtain ⟨d, hd, rfl⟩ := hv
    rcases h.2.2 d hd with ⟨a1, a2, a3⟩ | ⟨k, a1, a2, a3, a4, a5, a6, a7⟩ | ⟨n, st, a1, a2, a3, a4, a5, a6, a7, a8⟩
    · refine Or.inr (Or.inl ⟨d, hd, rfl, ?_, ?_, ?_, ?_, ?_⟩)
      · rw [X10_ko_s hd, a1]
      · rw [X10_ro_s hd, show oR xs d = none by unfold oR; rw [a2]; rfl]
      · rw [X10_rf_s hd (X10_ib_n hd a1 a2), if_neg (by decide)]
      · rw [X11_wk_s hd, if_pos a3]
      · rw [X11_wr_s hd, if_pos a3]
    · refine Or.inr (Or.inr (Or.inl ⟨d, hd, rfl, k, a1, a3, a4, a6, a7, ?_, ?_, ?_, ?_, ?_⟩))
      · rw [X10_ko_s hd, a1]
      · rw [X10_ro_s hd, show oR xs d = none by unfold oR; rw [a2]; rfl]
      · rw [X10_rf_s hd (X10_ib_k hd a1), if_pos rfl]
      · rw [X11_wk_s hd, a5, if_neg (by decide), if_pos rfl]
      · rw [X11_wr_s hd, a5, if_neg (by decide), if_neg (by decide)]
    · refine Or.inr (Or.inr (Or.inr ⟨d, hd, rfl, n, st, a2, a3, a4, a6, a7, a8, ?_, ?_, ?_, ?_, ?_⟩))
      · rw [X10_ko_s hd, a1]
      · rw [X10_ro_s hd, show oR xs d = some d by unfold oR; rw [a2]; rfl]
      · rw [X10_rf_s hd (X10_ib_r hd a1 a2), if_pos rfl]
      · rw [X11_wk_s hd, a5, if_neg (by decide), if_neg (by decide)]
      · rw [X11_wr_s hd, a5, if_neg (by decide), if_pos rfl]
  · refine Or.inl ⟨hv, ?_, ?_, ?_, ?_, ?_⟩
    · unfold X10_kindOn X10_kindOn_p17
      rw [X10_isShelf_f hv, bd1_s, if_pos rfl]
    · unfold X10_rowOn X10_rowOn_p17
      rw [X10_isShelf_f hv, bd1_s, if_pos rfl]
    · unfold X10_refusal
      rw [X10_isShelf_f hv, bd1_s, if_pos rfl]
    · unfold X11_wrongKept X11_wrongKept_p46
      rw [X11_in_nf (n := 7) (by decide) (by decide) hv, bd1_s, if_pos rfl]
    · unfold X11_wrongRow X11_wrongRow_p46
      rw [X11_in_nf (n := 7) (by decide) (by decide) hv, bd1_s, if_pos rfl]
theorem qm_lays {xs : XS} {ms : MS} (h : RR xs ms) (v w : Int32) : Cm (X10_lays xs v w) (X11_lays ms v w) := by
  have h' := RR_17 h 0
  obtain ⟨A, hA, hc, h9, hR⟩ := h'.1
  have hneg : ∀ (y : Int32), y = -1 ∨ y = -11 ∨ y = -12 ∨ y = -3 → X11_lays_p21 (sF ms 17 0) v w y = some (y, sF ms 17 0) := fun y hy => by
    have y0 : ¬ y = 0 := by rcases hy with e | e | e | e <;> rw [e] <;> decide
    have y1 : ¬ 0 ≤ y := by rcases hy with e | e | e | e <;> rw [e] <;> decide
    unfold X11_lays_p21 X11_lays_p38 X11_lays_p39
    rw [if_neg y0, if_neg y1]
  by_cases hw : isN 12 w
  · obtain ⟨c, hcc, rfl⟩ := hw
    unfold X10_lays X11_lays
    rw [X10_isSide_t ⟨c, hcc, rfl⟩, bd1_s, if_neg n10, nm_s, X11_isSide_t ⟨c, hcc, rfl⟩, bd1_s, if_neg n10]
    rcases sh_cases h' v with ⟨_, a1, a2, a3, a4, a5⟩ | ⟨d, hd, e, a1, a2, a3, a4, a5⟩ | ⟨d, hd, e, k, a1, a3, a4, a6, a7, b1, b2, b3, b4, b5⟩ | ⟨d, hd, e, n, st, _, _, _, _, _, _, a1, a2, a3, a4, a5⟩
    · exact ⟨_, _, _, by rw [a1, bnd_s, ob_n, a3, bnd_s], by rw [a4, bnd_s, hneg _ (by decide)], h'⟩
    · exact ⟨_, _, _, by rw [a1, bnd_s, ob_n, a3, bnd_s], by rw [a4, bnd_s, hneg _ (by decide)], h'⟩
    · rw [b1, bnd_s, ob_s, b4, bnd_s]
      by_cases hD : aD A = 0
      · obtain ⟨x1, m2, e1, e2, r1⟩ := comesTo_a h' hA hc h9 hR hD hcc a3 a4
        refine ⟨_, _, _, by rw [e1, bnd_s], ?_, r1⟩
        unfold X11_lays_p21 X11_lays_p38 X11_lays_p39
        rw [if_pos rfl, hR.2.2.D, if_pos hD, if_pos (by decide), inr_i hcc, nm_s, e, inr_i hd, inr_i hcc, nm_s, inr_i hd, inr_i hcc, nm_s, nI_cl hcc, nI_cl hd]
        rw [show gA (sA (sF ms 17 0) 2 c (gA (sF ms 17 0) 12 d)) 13 d = gA (sF ms 17 0) 13 d from rfl, a6, a7, e2, bnd_s, hR.2.2.K hcc]
      · refine ⟨_, _, _, by rw [comesTo_d hA h9 hD, bnd_s], ?_, h'⟩
        unfold X11_lays_p21 X11_lays_p39
        rw [if_pos rfl, hR.2.2.D, if_neg hD, if_neg (by decide)]
    · exact ⟨_, _, _, by rw [a1, bnd_s, ob_n, a3, bnd_s], by rw [a4, bnd_s, hneg _ (by decide)], h'⟩
  · apply Cm_i h'
    · unfold X10_lays
      rw [X10_isSide_f hw, bd1_s, if_pos rfl]
    · unfold X11_lays
      rw [nm_s, X11_isSide_f hw, bd1_s, if_pos rfl]
      exact hneg _ (by decide)
theorem pr_k {k : BK} (h : k.1 < 8) : X11_costOf (kiB k) k.2 = some (prB k) := by
  obtain ⟨n, f⟩ := k
  have h : n < 8 := h
  have hn : n = 0 ∨ n = 1 ∨ n = 2 ∨ n = 3 ∨ n = 4 ∨ n = 5 ∨ n = 6 ∨ n = 7 := by omega
  have e6 : (2 : Int32) + f = 1 + f + 1 := by rw [Int32.add_comm 1 f, Int32.add_assoc, Int32.add_comm]; rfl
  rcases hn with e | e | e | e | e | e | e | e <;> subst e
  · rfl
  · rfl
  · show some ((2 : Int32) + f) = some (1 + f + 1)
    rw [e6]
  · show some ((1 : Int32) + f) = some (1 + f + 1 - 1)
    rw [Int32.add_sub_cancel]
  · rfl
  · rfl
  · show some ((2 : Int32) * (2 + f)) = some ((1 + f + 1) * 2)
    rw [e6, Int32.mul_comm]
  · rfl
