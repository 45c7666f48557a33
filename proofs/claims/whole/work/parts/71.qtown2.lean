/-! the town as told: settings, houses, fire, minutes, a new foot; the image; what is counted -/
def aStT (A : AT) (i : Nat) (v : Int32) : AT := (A.1, upd (aT A) i v, A.2.2)
theorem mt_st {A : AT} {st : MS} (h : mt A st) (i : Nat) (v : Int32) : mt (aStT A i v) (sA st 4 i v) := by
  obtain ⟨m1, m2, m3, m4, m5, m6, m7⟩ := h
  refine ⟨m1, m2, m3, m4, fun x hx => ?_, m6, m7⟩
  show (if x = i then v else gA st 4 x) = (if x = i then v else aT A x)
  rw [m5 x hx]
theorem ct_st {A : AT} {ts : MS} {B : Nat → BK} (h : ct A ts B) (i : Nat) (v : Int32) : ct (aStT A i v) (sA ts 3 i v) B := by
  obtain ⟨c1, c2, c3, c4, c5, c6⟩ := h
  refine ⟨c1, fun x hx => ?_, c3, c4, c5, c6⟩
  show (if x = i then v else gA ts 3 x) = (if x = i then v else aT A x)
  rw [c2 x hx]
theorem okA_st {A : AT} (h : okA A) {i : Nat} {v : Int32} (hv : isN (mxT i) v) : okA (aStT A i v) := by
  obtain ⟨h1, h2, h3, h4, h5, h6, h7⟩ := h
  refine ⟨h1, h2, h3, h4, fun x hx => ?_, h6, h7⟩
  show isN (mxT x) (if x = i then v else aT A x)
  by_cases e : x = i
  · rw [if_pos e, e]; exact hv
  · rw [if_neg e]; exact h5 x hx
theorem told_t {i : Nat} (hi : i < 7) (v : Int32) : (X10_isAsTold (nI i) v = some 1 ∧ X11_in v.toInt64 ((if nI i = 5 then (20 : Int32) else 0).toInt64) ((if nI i = 4 then (400 : Int32) else if nI i = 5 then 200 else if nI i = 1 then 20 else if nI i = 3 then 20 else 11).toInt64) = some 1 ∧ isN (mxT i) v) ∨
    (X10_isAsTold (nI i) v = some 0 ∧ X11_in v.toInt64 ((if nI i = 5 then (20 : Int32) else 0).toInt64) ((if nI i = 4 then (400 : Int32) else if nI i = 5 then 200 else if nI i = 1 then 20 else if nI i = 3 then 20 else 11).toInt64) = some 0) := by
  have eL : ∀ j, j < 7 → (if nI j = 5 then (20 : Int32) else 0) = cLe j := by decide
  have eM : ∀ j, j < 7 → (if nI j = 4 then (400 : Int32) else if nI j = 5 then 200 else if nI j = 1 then 20 else if nI j = 3 then 20 else 11) = cMo j := by decide
  have l0 : ∀ j, j < 7 → (0 : Int32) ≤ cLe j := by decide
  have m0 : ∀ j, j < 7 → (cMo j).toInt = ((mxT j - 1 : Nat) : Int) := by decide
  have x0 : ∀ j, j < 7 → 0 < mxT j := by decide
  rw [eL i hi, eM i hi, X11_in_i]
  unfold X10_isAsTold X10_isAsTold_p33
  rw [if_neg (nI_pos (by omega)), if_neg (n7_f hi), inr_i hi, inr_i hi, nI_cl hi]
  by_cases a : v < cLe i
  · rw [if_pos a, if_pos (Or.inl a), gz_0]
    exact Or.inr ⟨rfl, rfl⟩
  rw [if_neg a]
  by_cases b : cMo i < v
  · rw [if_pos b, if_pos (Or.inr b), gz_0]
    exact Or.inr ⟨rfl, rfl⟩
  rw [if_neg b, if_neg (fun q => q.elim a b), gz_1]
  refine Or.inl ⟨rfl, rfl, ?_⟩
  have v0 : ¬ v < 0 := by
    have := l0 i hi
    rw [i_lt] at a ⊢
    rw [i_le] at this
    rw [t_0] at *
    omega
  obtain ⟨j, hj, e⟩ := nI_of2 (M := cMo i) (n := mxT i - 1) (m0 i hi) v0 (Int32.not_lt.mp b)
  exact ⟨j, by have := x0 i hi; omega, e⟩
theorem told_f {w : Int32} (h : ¬ isN 7 w) (v : Int32) : X10_isAsTold w v = some 0 := by
  unfold X10_isAsTold X10_isAsTold_p33
  by_cases a : w < 0
  · rw [if_pos a, gz_0]
  rw [if_neg a]
  rcases isN_f h (by decide) with g | g
  · exact absurd g a
  · rw [if_pos (show (7 : Int32) ≤ w from g), gz_0]
theorem X11_leastOf_s (w : Int32) : X11_leastOf w = some (if w = 5 then (20 : Int32) else 0) := by
  unfold X11_leastOf X11_leastOf_p11
  by_cases c : w = 5
  · rw [if_pos c, if_pos c]
  · rw [if_neg c, if_neg c]
theorem X11_mostOf_s (w : Int32) : X11_mostOf w = some (if w = 4 then (400 : Int32) else if w = 5 then 200 else if w = 1 then 20 else if w = 3 then 20 else 11) := by
  unfold X11_mostOf X11_mostOf_p39 X11_mostOf_p32 X11_mostOf_p39
  by_cases c4 : w = 4
  · rw [if_pos c4, if_pos c4]
  rw [if_neg c4, if_neg c4]
  by_cases c5 : w = 5
  · rw [if_pos c5, if_pos c5]
  rw [if_neg c5, if_neg c5]
  by_cases c1 : w = 1
  · rw [if_pos c1, if_pos c1]
  rw [if_neg c1, if_neg c1]
  by_cases c3 : w = 3
  · rw [if_pos c3, if_pos c3]
  rw [if_neg c3, if_neg c3]
theorem qm_set {xs : XS} {ms : MS} (h : RR xs ms) (w v : Int32) : Cm (X10_set xs w v) (X11_set ms w v) := by
  have h' := RR_17 h 0
  obtain ⟨A, hA, hc, h9, hR⟩ := h'.1
  by_cases hw : isN 7 w
  · obtain ⟨i, hi, rfl⟩ := hw
    unfold X10_set X11_set
    rw [nm_s (sF ms 17 0), X11_in_n (n := 6) (by decide) (by decide) ⟨i, hi, rfl⟩, X11_leastOf_s, X11_mostOf_s]
    rcases told_t hi v with ⟨e1, e2, hv⟩ | ⟨e1, e2⟩
    · rw [e1, bd1_s, if_neg n10, bd1_s, if_neg n10, bd1_s, bd1_s, e2, bd1_s, if_neg n10, X8_isDown_a hA h9, bnd_s, uT_self, nm_s, hR.2.2.D]
      by_cases hD : aD A = 0
      · rw [if_pos hD, if_pos hD, inr_i hi, inr_i hi, nI_cl hi]
        obtain ⟨ms2, s1, s2, s3, _⟩ := RR_set h' (A := aStT A i v) (okA_st hA.1 hv) hD (xs1 := uT xs 0 (sA (xT xs 0) 3 i v)) (ct_st hc i v) (by show gF (xT xs 0) 9 = -4; rw [h9]; exact aD_0 hA hD) (FX_u0 _ _) (FR_sA _ (a := 4) (by decide) i v) (mt_st hR.2.2 i v)
        apply Cm_i s3
        · rw [nm_s, inr_i hi, nm_s, s1, bnd_s, nm_s, hc.T hi]
        · rw [nm_s, inr_i hi, nm_s, s2, bnd_s, hR.2.2.T hi]
      · rw [if_neg hD, if_neg hD]
        exact ⟨_, _, _, rfl, rfl, h'⟩
    · rw [e1, bd1_s, if_pos rfl, bd1_s, if_neg n10, bd1_s, bd1_s, e2, bd1_s, if_pos rfl]
      exact ⟨_, _, _, rfl, rfl, h'⟩
  · apply Cm_i h'
    · unfold X10_set
      rw [told_f hw, bd1_s, if_pos rfl]
    · unfold X11_set
      rw [nm_s, X11_in_nf (n := 6) (by decide) (by decide) hw, bd1_s, if_pos rfl]
/-- a house more -/
def aHo (A : AT) (h : Nat) (s f : Int32) : AT := ((aL A, aM A, aD A, nI (h + 1)), aT A, aK A, aF A, upd (aS A) h s, upd (aR A) h f)
theorem mt_ho {A : AT} {st : MS} (h : mt A st) {x : Nat} (hx : aH A = nI x) (s f : Int32) : mt (aHo A x s f) (sF (sA (sA st 9 x s) 10 x f) 8 (nI x + 1)) := by
  obtain ⟨m1, m2, m3, m4, m5, m6, m7⟩ := h
  refine ⟨m1, m2, m3, nI_1 x, m5, m6, fun y hy => ⟨?_, ?_⟩⟩
  · show (if y = x then s else gA st 9 y) = (if y = x then s else aS A y)
    rw [(m7 y hy).1]
  · show (if y = x then f else gA st 10 y) = (if y = x then f else aR A y)
    rw [(m7 y hy).2]
theorem ct_ho {A : AT} {ts : MS} {B : Nat → BK} (h : ct A ts B) {x : Nat} (hx : aH A = nI x) (s f : Int32) : ct (aHo A x s f) (sF (sA (sA ts 4 x s) 5 x f) 6 (nI x + 1)) B := by
  obtain ⟨c1, c2, c3, c4, c5, c6⟩ := h
  refine ⟨c1, c2, fun y hy => ⟨?_, ?_⟩, nI_1 x, c5, c6⟩
  · show (if y = x then s else gA ts 4 y) = (if y = x then s else aS A y)
    rw [(c3 y hy).1]
  · show (if y = x then f else gA ts 5 y) = (if y = x then f else aR A y)
    rw [(c3 y hy).2]
theorem okA_ho {A : AT} (h : okA A) {x : Nat} (hx : x < 6) {s f : Int32} (hs : isN 12 s) (hf : isN 241 f) : okA (aHo A x s f) := by
  obtain ⟨h1, h2, h3, h4, h5, h6, h7⟩ := h
  refine ⟨h1, h2, ⟨x + 1, by omega, rfl⟩, h4, h5, fun y hy => ⟨?_, ?_⟩, h7⟩
  · show isN 12 (if y = x then s else aS A y)
    by_cases e : y = x
    · rw [if_pos e]; exact hs
    · rw [if_neg e]; exact (h6 y hy).1
  · show isN 241 (if y = x then f else aR A y)
    by_cases e : y = x
    · rw [if_pos e]; exact hf
    · rw [if_neg e]; exact (h6 y hy).2
theorem X8_addHouse_t {A : AT} {ts : MS} {B : Nat → BK} (h : ct A ts B) {x : Nat} (hx : aH A = nI x) (hx6 : x < 6) {s f : Int32} (hs : isN 12 s) (hf : isN 241 f) : X8_addHouse ts s f = some (1, sF (sA (sA ts 4 x s) 5 x f) 6 (nI x + 1)) := by
  have h6 : gF ts 6 = nI x := by rw [h.H, hx]
  obtain ⟨j, hj, e⟩ := hf
  unfold X8_addHouse
  rw [X10_isSide_t hs, bd1_s, if_neg n10, e, if_neg (nI_pos (by omega)), if_neg (show ¬ (240 : Int32) < nI j from nI_nlt (a := 240) (b := j) (by omega) (by decide)), h6, if_neg (nI_pos (by omega)), if_pos (show nI x < (6 : Int32) from nI_lt (a := x) (b := 6) hx6 (by decide)), inr_i hx6, nm_s, nI_cl hx6]
  rw [show gF (sA ts 4 x s) 6 = nI x from h6, inr_i hx6, nm_s, nI_cl hx6]
  rw [show gF (sA (sA ts 4 x s) 5 x (nI j)) 6 = nI x from h6, nm_s, gz_1]
theorem X8_addHouse_n {A : AT} {ts : MS} {B : Nat → BK} (h : ct A ts B) (h6 : aH A = nI 6) {s f : Int32} (hs : isN 12 s) (hf : isN 241 f) : X8_addHouse ts s f = some (0, ts) := by
  obtain ⟨j, hj, e⟩ := hf
  unfold X8_addHouse
  rw [X10_isSide_t hs, bd1_s, if_neg n10, e, if_neg (nI_pos (by omega)), if_neg (show ¬ (240 : Int32) < nI j from nI_nlt (a := 240) (b := j) (by omega) (by decide)), h.H, h6, if_neg (by decide), if_neg (by decide), gz_0]
theorem X11_houseComes_t {A : AT} {st : MS} (h : mt A st) {x : Nat} (hx : aH A = nI x) (hx6 : x < 6) {s f : Int32} (hs : isN 12 s) (hf : isN 241 f) : X11_houseComes st s f = some (1, sF (sA (sA st 9 x s) 10 x f) 8 (nI x + 1)) := by
  have h8 : gF st 8 = nI x := by rw [h.H, hx]
  unfold X11_houseComes X11_houseComes_p33 X11_houseComes_p68
  rw [X11_isSide_t hs, bd1_s, if_neg n10, X11_in_n (n := 240) (by decide) (by decide) hf, bd1_s, if_neg n10, h8, if_neg (n6_f hx6), if_neg n10, inr_i hx6, nm_s, nI_cl hx6]
  rw [show gF (sA st 9 x s) 8 = nI x from h8, inr_i hx6, nm_s, nI_cl hx6]
  rw [show gF (sA (sA st 9 x s) 10 x f) 8 = nI x from h8, nm_s, gz_1]
theorem X11_houseComes_n {A : AT} {st : MS} (h : mt A st) (h6 : aH A = nI 6) {s f : Int32} (hs : isN 12 s) (hf : isN 241 f) : X11_houseComes st s f = some (0, st) := by
  unfold X11_houseComes X11_houseComes_p32 X11_houseComes_p33 X11_houseComes_p68
  rw [X11_isSide_t hs, bd1_s, if_neg n10, X11_in_n (n := 240) (by decide) (by decide) hf, bd1_s, if_neg n10, h.H, h6, if_pos (by decide), if_pos rfl, gz_0]
theorem okD_ho {A : AT} (h : okD A) {x : Nat} (hx : x < 6) {s f : Int32} (hs : isN 12 s) (hf : isN 241 f) : okD (aHo A x s f) := ⟨okA_ho h.1 hx hs hf, h.2⟩
theorem in240 {f : Int32} (h1 : ¬ f < 0) (h2 : f ≤ 240) : isN 241 f := by
  obtain ⟨j, hj, e⟩ := nI_of2 (M := 240) (n := 240) (by decide) h1 h2
  exact ⟨j, by omega, e⟩
theorem in240n {f : Int32} (h : f < 0 ∨ ¬ f ≤ 240) : ¬ isN 241 f := by
  rintro ⟨j, hj, e⟩
  rcases h with g | g
  · rw [e] at g; exact nI_pos (by omega) g
  · exact g (by rw [e]; exact nI_le (a := j) (b := 240) (by omega) (by decide))
theorem qm_house {xs : XS} {ms : MS} (h : RR xs ms) (s f : Int32) : Cm (X10_house xs s f) (X11_house ms s f) := by
  have h' := RR_17 h 0
  obtain ⟨A, hA, hc, h9, hR⟩ := h'.1
  unfold X10_house X10_house_p46 X11_house X11_house_p46
  rw [nm_s (sF ms 17 0)]
  by_cases hs : isN 12 s
  · rw [X10_isSide_t hs, bd1_s, if_neg n10, X11_isSide_t hs, bd1_s, if_neg n10]
    by_cases f0 : f < 0
    · rw [if_pos f0, X11_in_nf (n := 240) (by decide) (by decide) (in240n (Or.inl f0)), bd1_s, if_pos rfl]
      exact ⟨_, _, _, rfl, rfl, h'⟩
    rw [if_neg f0]
    by_cases f1 : f ≤ 240
    · have hf := in240 f0 f1
      rw [if_pos f1, X11_in_n (n := 240) (by decide) (by decide) hf, bd1_s, if_neg n10]
      obtain ⟨x, hx7, hx⟩ := hA.1.H
      by_cases hx6 : x < 6
      · rw [X8_addHouse_t hc hx hx6 hs hf, bnd_s, nm_s, if_neg n10, X11_houseComes_t hR.2.2 hx hx6 hs hf, bnd_s, if_neg n10]
        refine ⟨_, _, _, rfl, rfl, ?_⟩
        exact RR_n h' (A := aHo A x s f) (okD_ho hA hx6 hs hf) (xs' := uT xs 0 (sF (sA (sA (xT xs 0) 4 x s) 5 x f) 6 (nI x + 1))) (ct_ho hc hx s f) h9 (mt_ho hR.2.2 hx s f) (FX_u0 _ _) (((FR_sA _ (a := 9) (by decide) x s).tr (FR_sA _ (a := 10) (by decide) x f)).tr (FR_sF _ (a := 8) (by decide) _))
      · have h6 : aH A = nI 6 := by rw [hx, show x = 6 by omega]
        rw [X8_addHouse_n hc h6 hs hf, bnd_s, uT_self, nm_s, if_pos rfl, X11_houseComes_n hR.2.2 h6 hs hf, bnd_s, if_pos rfl]
        exact ⟨_, _, _, rfl, rfl, h'⟩
    · rw [if_neg f1, X11_in_nf (n := 240) (by decide) (by decide) (in240n (Or.inr f1)), bd1_s, if_pos rfl]
      exact ⟨_, _, _, rfl, rfl, h'⟩
  · rw [X10_isSide_f hs, bd1_s, if_pos rfl, X11_isSide_f hs, bd1_s, if_pos rfl]
    exact ⟨_, _, _, rfl, rfl, h'⟩
theorem qm_about {xs : XS} {ms : MS} (h : RR xs ms) (v w : Int32) : Cm (X10_about xs v w) (X11_about ms v w) := by
  have h' := RR_17 h 0
  obtain ⟨A, hA, hc, h9, hR⟩ := h'.1
  obtain ⟨x, hx7, hx⟩ := hA.1.H
  unfold X10_about X11_about X11_about_p31 X11_about_p54
  rw [nm_s (sF ms 17 0), hR.2.2.H, hc.H, hx]
  by_cases hv : isN x v
  · rw [X11_in_m (by omega) hv, bd1_s, if_neg n10]
    obtain ⟨j, hj, rfl⟩ := hv
    have hj6 : j < 6 := by omega
    rw [if_neg (nI_pos (by omega)), if_pos (nI_lt hj (by omega)), inr_i hj6, inr_i hj6, inr_i hj6, inr_i hj6, nI_cl hj6]
    by_cases hw : isN 2 w
    · rw [X11_in_n (n := 1) (by decide) (by decide) hw, bd1_s, if_neg n10]
      obtain ⟨y, hy, e⟩ := hw
      by_cases w0 : w = 0
      · rw [if_pos w0, if_pos w0, hc.S hj6, hR.2.2.S hj6]
        exact ⟨_, _, _, rfl, rfl, h'⟩
      · have w1 : w = 1 := by
          have : y = 0 ∨ y = 1 := by omega
          rcases this with c | c <;> rw [c] at e
          · exact absurd e w0
          · exact e
        rw [if_neg w0, if_neg w0, if_pos w1, hc.R hj6, hR.2.2.R hj6]
        exact ⟨_, _, _, rfl, rfl, h'⟩
    · have w0 : ¬ w = 0 := fun e => hw ⟨0, by decide, e⟩
      have w1 : ¬ w = 1 := fun e => hw ⟨1, by decide, e⟩
      rw [X11_in_nf (n := 1) (by decide) (by decide) hw, bd1_s, if_pos rfl, if_neg w0, if_neg w1]
      exact ⟨_, _, _, rfl, rfl, h'⟩
  · rw [X11_in_mf (by omega) hv, bd1_s, if_pos rfl]
    by_cases v0 : v < 0
    · rw [if_pos v0]
      exact ⟨_, _, _, rfl, rfl, h'⟩
    · rw [if_neg v0, if_neg (fun g => by
        rcases isN_f hv (by omega) with q | q
        · exact v0 q
        · exact Int32.not_le.mpr g q)]
      exact ⟨_, _, _, rfl, rfl, h'⟩
