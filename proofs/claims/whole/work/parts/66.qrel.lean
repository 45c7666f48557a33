/-! towns as they must be; what both sides' questions answer of a town -/
def mxT (i : Nat) : Nat := ([12, 21, 12, 21, 401, 201, 12] : List Nat).getD i 0
def okB (N : Nat) (A : AT) : Prop := (aL A = 0 ∨ aL A = 1) ∧ (∃ a, a < N ∧ aM A = nI a) ∧ isN 7 (aH A) ∧ (∀ c, c < 12 → isN 8 (aK A c) ∧ isN 10 (aF A c)) ∧ (∀ i, i < 7 → isN (mxT i) (aT A i)) ∧ (∀ h, h < 6 → isN 12 (aS A h) ∧ isN 241 (aR A h)) ∧ (aL A = 0 → aM A = 0)
abbrev okA (A : AT) : Prop := okB 1000 A
def okD (A : AT) : Prop := okA A ∧ aD A = (if aFall A (aM A) = -4 then 0 else 1)
theorem okB.L {N : Nat} {A : AT} (h : okB N A) : aL A = 0 ∨ aL A = 1 := h.1
theorem okB.M {N : Nat} {A : AT} (h : okB N A) : ∃ a, a < N ∧ aM A = nI a := h.2.1
theorem okB.H {N : Nat} {A : AT} (h : okB N A) : isN 7 (aH A) := h.2.2.1
theorem okB.KF {N : Nat} {A : AT} (h : okB N A) {c : Nat} (hc : c < 12) : isN 8 (aK A c) ∧ isN 10 (aF A c) := h.2.2.2.1 c hc
theorem okB.T {N : Nat} {A : AT} (h : okB N A) {i : Nat} (hi : i < 7) : isN (mxT i) (aT A i) := h.2.2.2.2.1 i hi
theorem okB.T0 {N : Nat} {A : AT} (h : okB N A) : isN 12 (aT A 0) := h.T (i := 0) (by decide)
theorem okB.T2 {N : Nat} {A : AT} (h : okB N A) : isN 12 (aT A 2) := h.T (i := 2) (by decide)
theorem okB.T6 {N : Nat} {A : AT} (h : okB N A) : isN 12 (aT A 6) := h.T (i := 6) (by decide)
theorem okB.SR {N : Nat} {A : AT} (h : okB N A) {x : Nat} (hx : x < 6) : isN 12 (aS A x) ∧ isN 241 (aR A x) := h.2.2.2.2.2.1 x hx
theorem okB.LM {N : Nat} {A : AT} (h : okB N A) : aL A = 0 → aM A = 0 := h.2.2.2.2.2.2
theorem okD.D {A : AT} (h : okD A) : aD A = 0 ∨ aD A = 1 := by
  rw [h.2]
  by_cases c : aFall A (aM A) = -4
  · rw [if_pos c]; exact Or.inl rfl
  · rw [if_neg c]; exact Or.inr rfl
theorem bu_t : ∀ j, j < 10 → (4 + 2 * nI j : Int32) = nI (4 + 2 * j) ∧ 2 * (4 + 2 * nI j : Int32) = nI (8 + 4 * j) ∧ (4 + 2 * nI j : Int32) / 2 = nI (2 + j) := by decide +kernel
theorem buK_r {k f : Int32} (h : isN 10 f) : buK k f = -4 ∨ ∃ b, 2 ≤ b ∧ b < 45 ∧ buK k f = nI b := by
  obtain ⟨j, hj, rfl⟩ := h
  obtain ⟨e1, e2, e3⟩ := bu_t j hj
  unfold buK
  by_cases h2 : k = 2
  · rw [if_pos h2]; exact Or.inr ⟨_, by omega, by omega, e1⟩
  rw [if_neg h2]
  by_cases h3 : k = 3
  · rw [if_pos h3]; exact Or.inr ⟨_, by omega, by omega, e2⟩
  rw [if_neg h3]
  by_cases h6 : k = 6
  · rw [if_pos h6]; exact Or.inr ⟨_, by omega, by omega, e3⟩
  rw [if_neg h6]
  exact Or.inl rfl
def lA (A : AT) (m : Int32) (s : Nat) : Int32 := lkT (aBe A) (aBu A) (aT A) m s
theorem aFall_e (A : AT) (m : Int32) : aFall A m = fallF (lA A m) := rfl
theorem aFall_r (A : AT) (m : Int32) : aFall A m = -4 ∨ isN 12 (aFall A m) := fallF_r _
def mR (A : AT) (st : MS) : Prop := mCon st ∧ (∀ c, c < 12 → gA st 18 c = 0) ∧ mt A st
theorem mt.L {A : AT} {st : MS} (h : mt A st) : gF st 5 = aL A := h.1
theorem mt.M {A : AT} {st : MS} (h : mt A st) : gF st 6 = aM A := h.2.1
theorem mt.D {A : AT} {st : MS} (h : mt A st) : gF st 7 = aD A := h.2.2.1
theorem mt.H {A : AT} {st : MS} (h : mt A st) : gF st 8 = aH A := h.2.2.2.1
theorem mt.T {A : AT} {st : MS} (h : mt A st) {i : Nat} (hi : i < 7) : gA st 4 i = aT A i := h.2.2.2.2.1 i hi
theorem mt.K {A : AT} {st : MS} (h : mt A st) {c : Nat} (hc : c < 12) : gA st 2 c = aK A c := (h.2.2.2.2.2.1 c hc).1
theorem mt.F {A : AT} {st : MS} (h : mt A st) {c : Nat} (hc : c < 12) : gA st 3 c = aF A c := (h.2.2.2.2.2.1 c hc).2
theorem mt.S {A : AT} {st : MS} (h : mt A st) {x : Nat} (hx : x < 6) : gA st 9 x = aS A x := (h.2.2.2.2.2.2 x hx).1
theorem mt.R {A : AT} {st : MS} (h : mt A st) {x : Nat} (hx : x < 6) : gA st 10 x = aR A x := (h.2.2.2.2.2.2 x hx).2
theorem mB_s {A : AT} {st : MS} (hm : mt A st) {N : Nat} (hok : okB N A) (h18 : ∀ c, c < 12 → gA st 18 c = 0) {c : Nat} (hc : c < 12) : mB st c = bAt (aBe A) (aBu A) (aM A) c := by
  unfold mB bAt
  rw [hm.K hc, hm.F hc, hm.L, hm.M, h18 c hc, Int32.zero_mul, Int32.add_zero]
  show (if aL A = 0 then aBe A c else if aBu A c < 0 then aBe A c else if aM A < aBu A c then aBe A c else 0) = _
  have hr : aBu A c = -4 ∨ ∃ b, 2 ≤ b ∧ b < 45 ∧ aBu A c = nI b := buK_r (hok.KF hc).2
  rcases hr with e | ⟨b, hb1, hb2, e⟩
  · rw [e, if_pos (show (-4 : Int32) < 0 by decide), if_pos rfl]
    exact ite_self _
  · rw [e, if_neg (nI_pos (by omega)), if_neg (nI_z (by omega))]
    by_cases c0 : aL A = 0
    · rw [if_pos c0, hok.LM c0, if_pos ?_]
      rw [← nI_0]
      exact nI_lt (by omega) (by omega)
    · rw [if_neg c0]
theorem X11_bearsOf_a {A : AT} {st : MS} (hR : mR A st) {N : Nat} (hok : okB N A) {c : Nat} (hc : c < 12) : X11_bearsOf st (nI c) = some (bAt (aBe A) (aBu A) (aM A) c, st) := by
  rw [X11_bearsOf_s st hc, mB_s hR.2.2 hok hR.2.1 hc]
theorem X11_burnsOf_a {A : AT} {st : MS} (hR : mR A st) {c : Nat} (hc : c < 12) : X11_burnsOf st (nI c) = some (aBu A c, st) := by
  rw [X11_burnsOf_s st hc, hR.2.2.K hc, hR.2.2.F hc]
  rfl
theorem X11_pressesTo_a {A : AT} {st : MS} (hR : mR A st) {N : Nat} (hok : okB N A) {s : Nat} (hs : s < 12) : X11_pressesTo st (nI s) = some (preP (aT A) s, st) := by
  rw [X11_pressesTo_s hR.1 hs (by rw [hR.2.2.T (by decide)]; exact hok.T0) (by rw [hR.2.2.T (by decide)]; exact hok.T2), preP_c (t' := aT A) (fun i hi => hR.2.2.T hi)]
theorem X11_holdsOn_a {A : AT} {st : MS} (hR : mR A st) {N : Nat} (hok : okB N A) {s : Nat} (hs : s < 12) : X11_holdsOn st (nI s) = some (hoP (bAt (aBe A) (aBu A) (aM A)) s, st) := by
  rw [X11_holdsOn_s hR.1 hs, hoP_c (b' := bAt (aBe A) (aBu A) (aM A)) (fun c hc => mB_s hR.2.2 hok hR.2.1 hc)]
theorem lk_a {A : AT} {st : MS} (hR : mR A st) {N : Nat} (hok : okB N A) (s : Nat) : lkP (gA st 4) (mB st) s = lA A (aM A) s := lkP_c (fun i hi => hR.2.2.T hi) (fun c hc => mB_s hR.2.2 hok hR.2.1 hc) s
theorem lk_f {A : AT} {st : MS} (hR : mR A st) {N : Nat} (hok : okB N A) : lkP (gA st 4) (mB st) = lA A (aM A) := funext (lk_a hR hok)
theorem X11_lacksOn_a {A : AT} {st : MS} (hR : mR A st) {N : Nat} (hok : okB N A) {s : Nat} (hs : s < 12) : X11_lacksOn st (nI s) = some (lA A (aM A) s, st) := by
  rw [X11_lacksOn_s hR.1 hs (by rw [hR.2.2.T (by decide)]; exact hok.T0) (by rw [hR.2.2.T (by decide)]; exact hok.T2), lk_a hR hok]
theorem X11_weakestSide_a {A : AT} {st : MS} (hR : mR A st) {N : Nat} (hok : okB N A) : X11_weakestSide st = some (nI (weakF (lA A (aM A))), st) := by
  rw [X11_weakestSide_s hR.1 (by rw [hR.2.2.T (by decide)]; exact hok.T0) (by rw [hR.2.2.T (by decide)]; exact hok.T2), lk_f hR hok]
theorem X11_fallSide_a {A : AT} {st : MS} (hR : mR A st) {N : Nat} (hok : okB N A) : X11_fallSide st = some (aFall A (aM A), st) := by
  rw [X11_fallSide_s hR.1 (by rw [hR.2.2.T (by decide)]; exact hok.T0) (by rw [hR.2.2.T (by decide)]; exact hok.T2), lk_f hR hok]
  rfl
theorem X11_stands_a {A : AT} {st : MS} (hR : mR A st) {N : Nat} (hok : okB N A) : X11_stands st = some ((if aFall A (aM A) = -4 then 1 else 0), st) := by
  rw [X11_stands_s hR.1 (by rw [hR.2.2.T (by decide)]; exact hok.T0) (by rw [hR.2.2.T (by decide)]; exact hok.T2), lk_f hR hok]
  rfl
/-- a town that is settled: down as soon as it falls -/
def aSet (A : AT) : AT := ((aL A, aM A, (if aD A = 0 then (if aFall A (aM A) = -4 then 0 else 1) else 1), aH A), A.2)
theorem X11_settle_a {A : AT} {st : MS} (hR : mR A st) {N : Nat} (hok : okB N A) (hD : aD A = 0 ∨ aD A = 1) : ∃ st', X11_settle st = some ((), st') ∧ mt (aSet A) st' ∧ (∀ k, gA st' k = gA st k) ∧ (∀ k, gL st' k = gL st k) ∧ (∀ k, k ≠ 7 → gF st' k = gF st k) := by
  refine ⟨_, X11_settle_s hR.1 (by rw [hR.2.2.T (by decide)]; exact hok.T0) (by rw [hR.2.2.T (by decide)]; exact hok.T2) (by rw [hR.2.2.D]; exact hD), ?_, fun k => rfl, fun k => rfl, fun k hk => by rw [gF_sF, if_neg hk]⟩
  obtain ⟨m1, m2, m3, m4, m5, m6, m7⟩ := hR.2.2
  refine ⟨m1, m2, ?_, m4, m5, m6, m7⟩
  show (if gF st 7 = 0 then (if fallF (lkP (gA st 4) (mB st)) = -4 then 0 else 1) else 1) = (if aD A = 0 then (if aFall A (aM A) = -4 then 0 else 1) else 1)
  rw [m3, lk_f hR hok]
  rfl
/-! the class's -/
theorem ct.T {A : AT} {ts : MS} {B : Nat → BK} (h : ct A ts B) {i : Nat} (hi : i < 7) : gA ts 3 i = aT A i := h.2.1 i hi
theorem ct.be {A : AT} {ts : MS} {B : Nat → BK} (h : ct A ts B) {c : Nat} (hc : c < 12) : gA ts 1 c = aBe A c := (h.1 c hc).2.2.2.1
theorem ct.bu {A : AT} {ts : MS} {B : Nat → BK} (h : ct A ts B) {c : Nat} (hc : c < 12) : gA ts 2 c = aBu A c := (h.1 c hc).2.2.2.2
theorem ct.K {A : AT} {ts : MS} {B : Nat → BK} (h : ct A ts B) {c : Nat} (hc : c < 12) : kiB (B c) = aK A c := (h.1 c hc).1
theorem ct.F {A : AT} {ts : MS} {B : Nat → BK} (h : ct A ts B) {c : Nat} (hc : c < 12) : (B c).2 = aF A c := (h.1 c hc).2.1
theorem ct.k8 {A : AT} {ts : MS} {B : Nat → BK} (h : ct A ts B) {c : Nat} (hc : c < 12) : (B c).1 < 8 := (h.1 c hc).2.2.1
theorem ct.S {A : AT} {ts : MS} {B : Nat → BK} (h : ct A ts B) {x : Nat} (hx : x < 6) : gA ts 4 x = aS A x := (h.2.2.1 x hx).1
theorem ct.R {A : AT} {ts : MS} {B : Nat → BK} (h : ct A ts B) {x : Nat} (hx : x < 6) : gA ts 5 x = aR A x := (h.2.2.1 x hx).2
theorem ct.H {A : AT} {ts : MS} {B : Nat → BK} (h : ct A ts B) : gF ts 6 = aH A := h.2.2.2.1
theorem ct.L {A : AT} {ts : MS} {B : Nat → BK} (h : ct A ts B) : gF ts 7 = aL A := h.2.2.2.2.1
theorem ct.M {A : AT} {ts : MS} {B : Nat → BK} (h : ct A ts B) : gF ts 8 = aM A := h.2.2.2.2.2
theorem ct_lk {A : AT} {ts : MS} {B : Nat → BK} (h : ct A ts B) (m : Int32) : lkT (gA ts 1) (gA ts 2) (gA ts 3) m = lA A m := funext fun s => lkT_c (fun _ hc => h.be hc) (fun _ hc => h.bu hc) (fun _ hi => h.T hi) m s
theorem ct_fl {A : AT} {ts : MS} {B : Nat → BK} (h : ct A ts B) (m : Int32) : flT (gA ts 1) (gA ts 2) (gA ts 3) m = aFall A m := flT_c (fun _ hc => h.be hc) (fun _ hc => h.bu hc) (fun _ hi => h.T hi) m
theorem ct_0 {A : AT} {ts : MS} {B : Nat → BK} (h : ct A ts B) {N : Nat} (hok : okB N A) : isN 12 (gA ts 3 0) := by rw [h.T (by decide)]; exact hok.T0
theorem ct_2 {A : AT} {ts : MS} {B : Nat → BK} (h : ct A ts B) {N : Nat} (hok : okB N A) : isN 12 (gA ts 3 2) := by rw [h.T (by decide)]; exact hok.T2
theorem X8_bearsAt_a {A : AT} {ts : MS} {B : Nat → BK} (h : ct A ts B) (m : Int32) {c : Nat} (hc : c < 12) : X8_bearsAt ts (nI c) m = some (bAt (aBe A) (aBu A) m c, ts) := by
  rw [X8_bearsAt_s ts m hc, bAt_c (fun _ hc => h.be hc) (fun _ hc => h.bu hc) m c hc]
theorem X8_holdOn_a {A : AT} {ts : MS} {B : Nat → BK} (h : ct A ts B) (m : Int32) {s : Nat} (hs : s < 12) : X8_holdOn ts (nI s) m = some (hoP (bAt (aBe A) (aBu A) m) s, ts) := by
  rw [X8_holdOn_s ts m hs, hoP_c (bAt_c (fun _ hc => h.be hc) (fun _ hc => h.bu hc) m)]
theorem X8_pressOn_a {A : AT} {ts : MS} {B : Nat → BK} (h : ct A ts B) {N : Nat} (hok : okB N A) {s : Nat} (hs : s < 12) : X8_pressOn ts (nI s) = some (preP (aT A) s, ts) := by
  rw [X8_pressOn_s ts hs (ct_0 h hok) (ct_2 h hok), preP_c (fun _ hi => h.T hi)]
theorem X8_lackOn_a {A : AT} {ts : MS} {B : Nat → BK} (h : ct A ts B) {N : Nat} (hok : okB N A) (m : Int32) {s : Nat} (hs : s < 12) : X8_lackOn ts (nI s) m = some (lA A m s, ts) := by
  rw [X8_lackOn_s ts m hs (ct_0 h hok) (ct_2 h hok), ct_lk h]
theorem X8_fallSideAt_a {A : AT} {ts : MS} {B : Nat → BK} (h : ct A ts B) {N : Nat} (hok : okB N A) (m : Int32) : X8_fallSideAt ts m = some (aFall A m, ts) := by
  rw [X8_fallSideAt_s ts m (ct_0 h hok) (ct_2 h hok), ct_fl h]
theorem X8_weakestSide_a {A : AT} {ts : MS} {B : Nat → BK} (h : ct A ts B) {N : Nat} (hok : okB N A) : X8_weakestSide ts = some (nI (weakF (lA A (aM A))), ts) := by
  rw [X8_weakestSide_s ts (ct_0 h hok) (ct_2 h hok), ct_lk h, h.M]
theorem X8_greatestLack_a {A : AT} {ts : MS} {B : Nat → BK} (h : ct A ts B) {N : Nat} (hok : okB N A) : X8_greatestLack ts = some (lA A (aM A) (weakF (lA A (aM A))), ts) := by
  rw [X8_greatestLack_s ts (ct_0 h hok) (ct_2 h hok), ct_lk h, h.M]
theorem X8_fallAfter_a {A : AT} {ts : MS} {B : Nat → BK} (h : ct A ts B) {N : Nat} (hok : okB N A) {a : Nat} (ha : aM A = nI a) (hb : a < 1000) : X8_fallAfter ts (60 : Int32) = some (faL (fun k => aFall A (nI (a + k))) 61 0, ts) := by
  rw [X8_fallAfter_s ts (ct_0 h hok) (ct_2 h hok) (a := a) (by rw [h.M, ha]) hb]
  have e : (fun k => flT (gA ts 1) (gA ts 2) (gA ts 3) (nI (a + k))) = (fun k => aFall A (nI (a + k))) := funext fun k => ct_fl h _
  rw [e]
theorem X8_fallToLaneAfter_a {A : AT} {ts : MS} {B : Nat → BK} (h : ct A ts B) {N : Nat} (hok : okB N A) {a : Nat} (ha : aM A = nI a) (hb : a < 1000) : X8_fallToLaneAfter ts = some ((if faS (fun k => aFall A (nI (a + k))) 61 0 = aT A 6 then faL (fun k => aFall A (nI (a + k))) 61 0 else -4), ts) := by
  have e : (fun k => flT (gA ts 1) (gA ts 2) (gA ts 3) (nI (a + k))) = (fun k => aFall A (nI (a + k))) := funext fun k => ct_fl h _
  rw [X8_fallToLaneAfter_s ts (ct_0 h hok) (ct_2 h hok) (a := a) (by rw [h.M, ha]) hb _ rfl (by rw [h.T (by decide)]; exact hok.T6), e, h.T (by decide)]
theorem X8_countBurning_a {A : AT} {ts : MS} {B : Nat → BK} (h : ct A ts B) : X8_countBurning ts = some (sumF (cbF (aBu A)) 12 0 0, ts) := by
  rw [X8_countBurning_s ts, sumF_c 12 0 0 (g := cbF (aBu A)) (fun j hj => by unfold cbF; rw [h.bu (by omega)])]
theorem X8_countBearing_a {A : AT} {ts : MS} {B : Nat → BK} (h : ct A ts B) (m : Int32) : X8_countBearing ts m = some (sumF (cnF (bAt (aBe A) (aBu A) m)) 12 0 0, ts) := by
  rw [X8_countBearing_s ts m, sumF_c 12 0 0 (g := cnF (bAt (aBe A) (aBu A) m)) (fun j hj => by unfold cnF; rw [bAt_c (fun _ hc => h.be hc) (fun _ hc => h.bu hc) m j (by omega)])]
theorem X8_allBears_a {A : AT} {ts : MS} {B : Nat → BK} (h : ct A ts B) : X8_allBears ts = some (sumF (bAt (aBe A) (aBu A) (aM A)) 12 0 0, ts) := by
  rw [X8_allBears_s ts, h.M, sumF_c 12 0 0 (g := bAt (aBe A) (aBu A) (aM A)) (fun j hj => bAt_c (fun _ hc => h.be hc) (fun _ hc => h.bu hc) _ j (by omega))]
/-! a brick comes to a cell -/
def aRep (A : AT) (c : Nat) (k f : Int32) : AT := (A.1, aT A, upd (aK A) c k, upd (aF A) c f, aS A, aR A)
theorem be_k {k : BK} (h : k.1 < 8) : beB k = bwK (kiB k) k.2 ∧ buB k = buK (kiB k) k.2 := by
  obtain ⟨n, f⟩ := k
  have h : n < 8 := h
  have hn : n = 0 ∨ n = 1 ∨ n = 2 ∨ n = 3 ∨ n = 4 ∨ n = 5 ∨ n = 6 ∨ n = 7 := by omega
  rcases hn with e | e | e | e | e | e | e | e <;> subst e
  · exact ⟨rfl, rfl⟩
  · exact ⟨rfl, rfl⟩
  · exact ⟨rfl, rfl⟩
  · exact ⟨rfl, Int32.mul_comm _ _⟩
  · exact ⟨show (9 : Int32) / 2 = 4 by decide, rfl⟩
  · exact ⟨rfl, rfl⟩
  · exact ⟨rfl, rfl⟩
  · exact ⟨show (9 : Int32) + 2 = 11 by decide, rfl⟩
theorem ct_rep {A : AT} {ts : MS} {B B' : Nat → BK} (h : ct A ts B) {c : Nat} {k : BK} (hk : k.1 < 8) (hB : ∀ x, B' x = if x = c then k else B x) : ct (aRep A c (kiB k) k.2) (sA (sA ts 1 c (beB k)) 2 c (buB k)) B' := by
  obtain ⟨c1, c2, c3, c4, c5, c6⟩ := h
  refine ⟨fun x hx => ?_, c2, c3, c4, c5, c6⟩
  rw [hB x]
  show kiB (if x = c then k else B x) = (if x = c then kiB k else aK A x) ∧ (if x = c then k else B x).2 = (if x = c then k.2 else aF A x) ∧ (if x = c then k else B x).1 < 8 ∧ (if x = c then beB k else gA ts 1 x) = bwK (if x = c then kiB k else aK A x) (if x = c then k.2 else aF A x) ∧ (if x = c then buB k else gA ts 2 x) = buK (if x = c then kiB k else aK A x) (if x = c then k.2 else aF A x)
  by_cases e : x = c
  · simp only [if_pos e]
    exact ⟨trivial, trivial, hk, (be_k hk).1, (be_k hk).2⟩
  · simp only [if_neg e]
    exact c1 x hx
theorem X8_replace_0_a {A : AT} {xs : XS} (h : ct A (xT xs 0) (xB xs 0)) {c : Nat} (hc : c < 12) {k : BK} (hk : k.1 < 8) : ∃ xs', X8_replace_0 xs (nI c) k = some ((), xs') ∧ TK 0 xs xs' ∧ ct (aRep A c (kiB k) k.2) (xT xs' 0) (xB xs' 0) ∧ gF (xT xs' 0) 9 = gF (xT xs 0) 9 := by
  refine ⟨uT (uT (uB xs 0 c k) 0 (sA (xT xs 0) 1 c (beB k))) 0 (sA (sA (xT xs 0) 1 c (beB k)) 2 c (buB k)), ?_, ((TK.rf.uB _ _).uT _).uT _, ?_, rfl⟩
  · unfold X8_replace_0
    rw [inr_i hc, nm_s, inr_i hc, nm_s, inr_i hc, nm_s, nI_cl hc]
    rfl
  have e := ct_rep (ts := xT xs 0) (B' := xB (uB xs 0 c k) 0) h hk (fun x => xB_d x)
  exact e
theorem X8_replace_1_a {A : AT} {xs : XS} (h : ct A (xT xs 1) (xB xs 1)) {c : Nat} (hc : c < 12) {k : BK} (hk : k.1 < 8) : ∃ xs', X8_replace_1 xs (nI c) k = some ((), xs') ∧ TK 1 xs xs' ∧ ct (aRep A c (kiB k) k.2) (xT xs' 1) (xB xs' 1) ∧ gF (xT xs' 1) 9 = gF (xT xs 1) 9 := by
  refine ⟨uT (uT (uB xs 1 c k) 1 (sA (xT xs 1) 1 c (beB k))) 1 (sA (sA (xT xs 1) 1 c (beB k)) 2 c (buB k)), ?_, ((TK.rf.uB _ _).uT _).uT _, ?_, rfl⟩
  · unfold X8_replace_1
    rw [inr_i hc, nm_s, inr_i hc, nm_s, inr_i hc, nm_s, nI_cl hc]
    rfl
  have e := ct_rep (ts := xT xs 1) (B' := xB (uB xs 1 c k) 1) h hk (fun x => xB_d x)
  exact e
theorem mt_rep {A : AT} {st : MS} (h : mt A st) (c : Nat) (k f : Int32) : mt (aRep A c k f) (sA (sA st 2 c k) 3 c f) := by
  obtain ⟨m1, m2, m3, m4, m5, m6, m7⟩ := h
  refine ⟨m1, m2, m3, m4, m5, fun x hx => ⟨?_, ?_⟩, m7⟩
  · show (if x = c then k else gA st 2 x) = (if x = c then k else aK A x)
    rw [(m6 x hx).1]
  · show (if x = c then f else gA st 3 x) = (if x = c then f else aF A x)
    rw [(m6 x hx).2]
theorem okA_rep {A : AT} {N : Nat} (h : okB N A) {c : Nat} {k f : Int32} (hk : isN 8 k) (hf : isN 10 f) : okB N (aRep A c k f) := by
  obtain ⟨h1, h2, h3, h4, h5, h6, h7⟩ := h
  refine ⟨h1, h2, h3, fun x hx => ⟨?_, ?_⟩, h5, h6, h7⟩
  · show isN 8 (if x = c then k else aK A x)
    by_cases e : x = c
    · rw [if_pos e]; exact hk
    · rw [if_neg e]; exact (h4 x hx).1
  · show isN 10 (if x = c then f else aF A x)
    by_cases e : x = c
    · rw [if_pos e]; exact hf
    · rw [if_neg e]; exact (h4 x hx).2
