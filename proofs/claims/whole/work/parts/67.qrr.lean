/-! both sides stand alike -/
def RI (t2 : MS) (b2 : Nat → BK) (fl f28 : Int32) (a27 : Nat → Int32) : Prop := (fl = 0 ∧ f28 = 0) ∨ (fl = 1 ∧ f28 = 1 ∧ ∃ I : AT, okD I ∧ ct I t2 b2 ∧ gF t2 9 = aFall I (aM I) ∧ kp I a27)
def RSd (o : Option BK) (r : Option (Nat × MS)) (ms : MS) (d : Nat) : Prop :=
  (o = none ∧ r = none ∧ gA ms 11 d = 0) ∨
  (∃ k : BK, o = some k ∧ r = none ∧ k.1 < 8 ∧ isN 10 k.2 ∧ gA ms 11 d = 1 ∧ gA ms 12 d = kiB k ∧ gA ms 13 d = k.2) ∨
  (∃ n st, o = none ∧ r = some (n, st) ∧ n ≤ 100 ∧ isN 3 (gF st 0) ∧ gA ms 11 d = 2 ∧ gA ms 14 d = gF st 0 ∧ gA ms 15 d = nI n ∧ ∀ i, i < n → gL ms 16 (100 * d + i) = (gA st 1 i).toInt64)
def RR (xs : XS) (ms : MS) : Prop := (∃ A, okD A ∧ ct A (xT xs 0) (xB xs 0) ∧ gF (xT xs 0) 9 = aFall A (aM A) ∧ mR A ms) ∧ RI (xT xs 2) (xB xs 2) (xI xs) (gF ms 28) (gA ms 27) ∧ ∀ d, d < 8 → RSd (xK xs d) (xR xs d) ms d
def FR (ms ms' : MS) : Prop := (∀ k, k ∈ ([0, 1, 11, 12, 13, 14, 15, 18, 27] : List Nat) → gA ms' k = gA ms k) ∧ gL ms' 16 = gL ms 16 ∧ gF ms' 28 = gF ms 28
def FX (xs xs' : XS) : Prop := xT xs' 2 = xT xs 2 ∧ xB xs' 2 = xB xs 2 ∧ xs'.2.2 = xs.2.2
theorem FR.rf {ms : MS} : FR ms ms := ⟨fun _ _ => rfl, rfl, rfl⟩
theorem FR.tr {a b c : MS} (h : FR a b) (g : FR b c) : FR a c := ⟨fun k hk => (g.1 k hk).trans (h.1 k hk), g.2.1.trans h.2.1, g.2.2.trans h.2.2⟩
theorem FX.rf {xs : XS} : FX xs xs := ⟨rfl, rfl, rfl⟩
theorem FX.tr {a b c : XS} (h : FX a b) (g : FX b c) : FX a c := ⟨g.1.trans h.1, g.2.1.trans h.2.1, g.2.2.trans h.2.2⟩
theorem TK.FX0 {xs xs' : XS} (h : TK 0 xs xs') : FX xs xs' := ⟨(h.1 2 (by decide)).1, (h.1 2 (by decide)).2, h.2⟩
theorem TK.FX1 {xs xs' : XS} (h : TK 1 xs xs') : FX xs xs' := ⟨(h.1 2 (by decide)).1, (h.1 2 (by decide)).2, h.2⟩
theorem FX_u0 (xs : XS) (m : MS) : FX xs (uT xs 0 m) := ⟨xT_o (by decide), rfl, rfl⟩
theorem mo_FR {A B : AT} {st0 st : MS} (h : mo A B st0 st) : FR st0 st := by
  obtain ⟨_, _, h3, h4, h5⟩ := h
  refine ⟨fun k hk => h3 k (fun hh => ?_), funext fun i => congrFun (h4 16) i, h5 28 (by decide)⟩
  have : ∀ x ∈ ([2, 3, 4, 9, 10, 26] : List Nat), x ∉ ([0, 1, 11, 12, 13, 14, 15, 18, 27] : List Nat) := by decide
  exact this k hh hk
theorem mo_mR {A B : AT} {st0 st : MS} (h : mo A B st0 st) {A0 : AT} (h0 : mR A0 st0) : mR B st := by
  have hf := mo_FR h
  refine ⟨⟨fun i hi => ?_, fun i hi => ?_⟩, fun c hc => ?_, h.1⟩
  · rw [hf.1 0 (by decide)]; exact h0.1.1 i hi
  · rw [hf.1 1 (by decide)]; exact h0.1.2 i hi
  · rw [hf.1 18 (by decide)]; exact h0.2.1 c hc
theorem FR_mR {A A' : AT} {ms ms' : MS} (h0 : mR A ms) (hf : FR ms ms') (hm : mt A' ms') : mR A' ms' := by
  refine ⟨⟨fun i hi => ?_, fun i hi => ?_⟩, fun c hc => ?_, hm⟩
  · rw [hf.1 0 (by decide)]; exact h0.1.1 i hi
  · rw [hf.1 1 (by decide)]; exact h0.1.2 i hi
  · rw [hf.1 18 (by decide)]; exact h0.2.1 c hc
theorem RR_n {xs xs' : XS} {ms ms' : MS} (h : RR xs ms) {A : AT} (hA : okD A) (hc : ct A (xT xs' 0) (xB xs' 0)) (h9 : gF (xT xs' 0) 9 = aFall A (aM A)) (hm : mt A ms') (hx : FX xs xs') (hf : FR ms ms') : RR xs' ms' := by
  obtain ⟨⟨A0, _, _, _, hR⟩, hI, hS⟩ := h
  obtain ⟨x1, x2, x3⟩ := hx
  refine ⟨⟨A, hA, hc, h9, FR_mR hR hf hm⟩, ?_, fun d hd => ?_⟩
  · rw [x1, x2, hf.2.2, hf.1 27 (by decide), show xI xs' = xI xs from congrArg Prod.fst x3]
    exact hI
  · have e1 : xK xs' = xK xs := congrArg (fun z => z.2.1) x3
    have e2 : xR xs' = xR xs := congrArg (fun z => z.2.2) x3
    rw [e1, e2]
    have := hS d hd
    unfold RSd at this ⊢
    rw [hf.1 11 (by decide), hf.1 12 (by decide), hf.1 13 (by decide), hf.1 14 (by decide), hf.1 15 (by decide), hf.2.1]
    exact this
/-- a question: the towns now stand, what is tried may have changed -/
theorem RR_q {xs xs' : XS} {ms ms' : MS} (h : RR xs ms) {A : AT} (hA : okD A) (hc : ct A (xT xs 0) (xB xs 0)) (h9 : gF (xT xs 0) 9 = aFall A (aM A)) (hm : mt A ms') (hx : TK 1 xs xs') (hf : FR ms ms') : RR xs' ms' := by
  have e := hx.1 0 (by decide)
  exact RR_n h hA (by rw [e.1, e.2]; exact hc) (by rw [e.1]; exact h9) hm hx.FX1 hf
theorem mt_17 {A : AT} {ms : MS} (h : mt A ms) (v : Int32) : mt A (sF ms 17 v) := h
theorem FR_17 (ms : MS) (v : Int32) : FR ms (sF ms 17 v) := ⟨fun _ _ => rfl, rfl, rfl⟩
theorem RR_17 {xs : XS} {ms : MS} (h : RR xs ms) (v : Int32) : RR xs (sF ms 17 v) := by
  obtain ⟨A, hA, hc, h9, hR⟩ := h.1
  exact RR_n h hA hc h9 (mt_17 hR.2.2 v) FX.rf (FR_17 ms v)
def Cm (x : Option (Int32 × XS)) (y : Option (Int32 × MS)) : Prop := ∃ r xs' ms', x = some (r, xs') ∧ y = some (r, ms') ∧ RR xs' ms'
def Cn (x : Option (Int64 × XS)) (y : Option (Int64 × MS)) : Prop := ∃ r xs' ms', x = some (r, xs') ∧ y = some (r, ms') ∧ RR xs' ms'
theorem n10 : ¬ (1 : Int32) = 0 := by decide
theorem Cm_i {x : Option (Int32 × XS)} {y : Option (Int32 × MS)} {r : Int32} {xs' : XS} {ms' : MS} (h : RR xs' ms') (hx : x = some (r, xs')) (hy : y = some (r, ms')) : Cm x y := ⟨r, xs', ms', hx, hy, h⟩
theorem Cn_i {x : Option (Int64 × XS)} {y : Option (Int64 × MS)} {r : Int64} {xs' : XS} {ms' : MS} (h : RR xs' ms') (hx : x = some (r, xs')) (hy : y = some (r, ms')) : Cn x y := ⟨r, xs', ms', hx, hy, h⟩
theorem X8_isDown_a {A : AT} {ts : MS} (hA : okD A) (h9 : gF ts 9 = aFall A (aM A)) : X8_isDown ts = some (aD A, ts) := by
  rw [X8_isDown_s, h9, hA.2]
theorem uT_self (xs : XS) (d : Nat) : uT xs d (xT xs d) = xs := uT_id rfl
theorem aD_0 {A : AT} (hA : okD A) (h : aD A = 0) : aFall A (aM A) = -4 := by
  by_cases c : aFall A (aM A) = -4
  · exact c
  · have e := hA.2
    rw [if_neg c, h] at e
    exact absurd e (by decide)
/-! simple questions -/
theorem qm_presses {xs : XS} {ms : MS} (h : RR xs ms) (v : Int32) : Cm (X10_presses xs v) (X11_presses ms v) := by
  have h' := RR_17 h 0
  obtain ⟨A, hA, hc, h9, hR⟩ := h'.1
  by_cases hv : isN 12 v
  · obtain ⟨s, hs, rfl⟩ := hv
    apply Cm_i h'
    · unfold X10_presses X10_presses_p20
      rw [X10_isSide_t ⟨s, hs, rfl⟩, bd1_s, if_neg n10, X8_pressOn_a hc hA.1 hs, bnd_s, uT_self, nm_s]
    · unfold X11_presses X11_presses_p22
      rw [nm_s, X11_isSide_t ⟨s, hs, rfl⟩, bd1_s, if_neg n10, X11_pressesTo_a hR hA.1 hs, bnd_s]
  · apply Cm_i h'
    · unfold X10_presses X10_presses_p20
      rw [X10_isSide_f hv, bd1_s, if_pos rfl]
    · unfold X11_presses X11_presses_p22
      rw [nm_s, X11_isSide_f hv, bd1_s, if_pos rfl]
theorem qm_holds {xs : XS} {ms : MS} (h : RR xs ms) (v : Int32) : Cm (X10_holds xs v) (X11_holds ms v) := by
  have h' := RR_17 h 0
  obtain ⟨A, hA, hc, h9, hR⟩ := h'.1
  by_cases hv : isN 12 v
  · obtain ⟨s, hs, rfl⟩ := hv
    apply Cm_i h'
    · unfold X10_holds X10_holds_p26
      rw [X10_isSide_t ⟨s, hs, rfl⟩, bd1_s, if_neg n10, X8_holdOn_a hc _ hs, bnd_s, uT_self, nm_s, hc.M]
    · unfold X11_holds X11_holds_p21
      rw [nm_s, X11_isSide_t ⟨s, hs, rfl⟩, bd1_s, if_neg n10, X11_holdsOn_a hR hA.1 hs, bnd_s]
  · apply Cm_i h'
    · unfold X10_holds X10_holds_p26
      rw [X10_isSide_f hv, bd1_s, if_pos rfl]
    · unfold X11_holds X11_holds_p21
      rw [nm_s, X11_isSide_f hv, bd1_s, if_pos rfl]
theorem qm_lacks {xs : XS} {ms : MS} (h : RR xs ms) (v : Int32) : Cm (X10_lacks xs v) (X11_lacks ms v) := by
  have h' := RR_17 h 0
  obtain ⟨A, hA, hc, h9, hR⟩ := h'.1
  by_cases hv : isN 12 v
  · obtain ⟨s, hs, rfl⟩ := hv
    apply Cm_i h'
    · unfold X10_lacks X10_lacks_p27
      rw [X10_isSide_t ⟨s, hs, rfl⟩, bd1_s, if_neg n10, X8_lackOn_a hc hA.1 _ hs, bnd_s, uT_self, nm_s, hc.M]
    · unfold X11_lacks X11_lacks_p22
      rw [nm_s, X11_isSide_t ⟨s, hs, rfl⟩, bd1_s, if_neg n10, X11_lacksOn_a hR hA.1 hs, bnd_s]
  · apply Cm_i h'
    · unfold X10_lacks X10_lacks_p27
      rw [X10_isSide_f hv, bd1_s, if_pos rfl]
    · unfold X11_lacks X11_lacks_p22
      rw [nm_s, X11_isSide_f hv, bd1_s, if_pos rfl]
theorem qm_falls {xs : XS} {ms : MS} (h : RR xs ms) : Cm (X10_falls xs) (X11_falls ms) := by
  have h' := RR_17 h 0
  obtain ⟨A, hA, hc, h9, hR⟩ := h'.1
  apply Cm_i h'
  · unfold X10_falls
    rw [h9]
  · unfold X11_falls
    rw [nm_s, X11_fallSide_a hR hA.1, bnd_s]
theorem qm_weakest {xs : XS} {ms : MS} (h : RR xs ms) : Cm (X10_weakest xs) (X11_weakest ms) := by
  have h' := RR_17 h 0
  obtain ⟨A, hA, hc, h9, hR⟩ := h'.1
  by_cases c : aD A = 0
  · apply Cm_i h'
    · unfold X10_weakest X10_weakest_p22
      rw [X8_isDown_a hA h9, bnd_s, uT_self, nm_s, if_pos c, X8_weakestSide_a hc hA.1, bnd_s, uT_self, nm_s]
    · unfold X11_weakest X11_weakest_p21
      rw [nm_s, hR.2.2.D, if_pos c, X11_weakestSide_a hR hA.1, bnd_s]
  · apply Cm_i h'
    · unfold X10_weakest X10_weakest_p22
      rw [X8_isDown_a hA h9, bnd_s, uT_self, nm_s, if_neg c]
    · unfold X11_weakest X11_weakest_p21
      rw [nm_s, hR.2.2.D, if_neg c]
theorem qm_cell {xs : XS} {ms : MS} (h : RR xs ms) (v w : Int32) : Cm (X10_cell xs v w) (X11_cell ms v w) := by
  have h' := RR_17 h 0
  obtain ⟨A, hA, hc, h9, hR⟩ := h'.1
  by_cases hv : isN 12 v
  · obtain ⟨s, hs, rfl⟩ := hv
    have a1 : X10_isSide (nI s) = some 1 := X10_isSide_t ⟨s, hs, rfl⟩
    have a2 : X11_isSide (nI s) = some 1 := X11_isSide_t ⟨s, hs, rfl⟩
    unfold X10_cell X11_cell
    rw [nm_s, a1, bd1_s, if_neg n10, a2, bd1_s, if_neg n10]
    by_cases w0 : w = 0
    · rw [if_pos w0, if_pos w0, inr_i hs, inr_i hs, nI_cl hs]
      exact ⟨_, _, _, rfl, by rw [hR.2.2.K hs, hc.K hs], h'⟩
    rw [if_neg w0, if_neg w0]
    by_cases w1 : w = 1
    · rw [if_pos w1, if_pos w1, inr_i hs, inr_i hs, nI_cl hs]
      exact ⟨_, _, _, rfl, by rw [hR.2.2.F hs, hc.F hs], h'⟩
    rw [if_neg w1, if_neg w1]
    by_cases w2 : w = 2
    · rw [if_pos w2, if_pos w2, X8_bearsAt_a hc _ hs, bnd_s, uT_self, nm_s, X11_bearsOf_a hR hA.1 hs, bnd_s, hc.M]
      exact ⟨_, _, _, rfl, rfl, h'⟩
    rw [if_neg w2, if_neg w2]
    by_cases w3 : w = 3
    · rw [if_pos w3, if_pos w3, inr_i hs, nI_cl hs, X11_burnsOf_a hR hs, bnd_s]
      exact ⟨_, _, _, rfl, by rw [hc.bu hs], h'⟩
    rw [if_neg w3, if_neg w3]
    exact ⟨_, _, _, rfl, rfl, h'⟩
  · apply Cm_i h'
    · unfold X10_cell
      rw [X10_isSide_f hv, bd1_s, if_pos rfl]
    · unfold X11_cell
      rw [nm_s, X11_isSide_f hv, bd1_s, if_pos rfl]
