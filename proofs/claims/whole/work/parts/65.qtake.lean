/-! the class's towns -/
def ct (A : AT) (ts : MS) (B : Nat → BK) : Prop := (∀ c, c < 12 → kiB (B c) = aK A c ∧ (B c).2 = aF A c ∧ (B c).1 < 8 ∧ gA ts 1 c = aBe A c ∧ gA ts 2 c = aBu A c) ∧ (∀ i, i < 7 → gA ts 3 i = aT A i) ∧ (∀ h, h < 6 → gA ts 4 h = aS A h ∧ gA ts 5 h = aR A h) ∧ gF ts 6 = aH A ∧ gF ts 7 = aL A ∧ gF ts 8 = aM A
theorem uT_uT (xs : XS) (d : Nat) (m m' : MS) : uT (uT xs d m) d m' = uT xs d m' := by
  unfold uT
  have e : (fun j => if j = d then m' else (fun j => if j = d then m else xs.1 j) j) = (fun j => if j = d then m' else xs.1 j) := by
    funext j
    by_cases c : j = d
    · rw [if_pos c, if_pos c]
    · rw [if_neg c, if_neg c]; exact if_neg c
  show ((fun j => if j = d then m' else (fun j => if j = d then m else xs.1 j) j), xs.2) = _
  rw [e]
theorem uT_id {xs : XS} {d : Nat} {m : MS} (h : xT xs d = m) : uT xs d m = xs := by
  have e : (fun j => if j = d then m else xs.1 j) = xs.1 := by
    funext j
    by_cases c : j = d
    · rw [if_pos c, c]; exact h.symm
    · rw [if_neg c]
  unfold uT
  rw [e]
theorem uR_id {xs : XS} {d : Nat} {o : Option (Nat × MS)} (h : xR xs d = o) : uR xs d o = xs := by
  have e : (fun j => if j = d then o else xs.2.2.2.2 j) = xs.2.2.2.2 := by
    funext j
    by_cases c : j = d
    · rw [if_pos c, c]; exact h.symm
    · rw [if_neg c]
  unfold uR
  rw [e]
theorem xT_o {xs : XS} {d j : Nat} {m : MS} (h : j ≠ d) : xT (uT xs d m) j = xT xs j := if_neg h
theorem xT_d {xs : XS} {d : Nat} {m : MS} : xT (uT xs d m) d = m := if_pos rfl
theorem xB_o {xs : XS} {i j i' : Nat} {k : BK} (h : i' ≠ i) : xB (uB xs i j k) i' = xB xs i' := if_neg h
theorem xB_d {xs : XS} {i j : Nat} {k : BK} (x : Nat) : xB (uB xs i j k) i x = if x = j then k else xB xs i x := by
  show (if i = i then (fun j' => if j' = j then k else xs.2.1 i j') else xs.2.1 i) x = _
  rw [if_pos rfl]
  rfl
def TK (d : Nat) (x0 xs : XS) : Prop := (∀ j, j ≠ d → xT xs j = xT x0 j ∧ xB xs j = xB x0 j) ∧ xs.2.2 = x0.2.2
def CP (d s : Nat) (x0 : XS) (i j h : Nat) (xs : XS) : Prop := (∀ c, c < i → xB xs d c = xB x0 s c ∧ gA (xT xs d) 1 c = gA (xT x0 s) 1 c ∧ gA (xT xs d) 2 c = gA (xT x0 s) 2 c) ∧ (∀ x, x < j → gA (xT xs d) 3 x = gA (xT x0 s) 3 x) ∧ (∀ x, x < h → gA (xT xs d) 4 x = gA (xT x0 s) 4 x ∧ gA (xT xs d) 5 x = gA (xT x0 s) 5 x)
def CQ (d s : Nat) (x0 xs : XS) : Prop := gF (xT xs d) 6 = gF (xT x0 s) 6 ∧ gF (xT xs d) 7 = gF (xT x0 s) 7 ∧ gF (xT xs d) 8 = gF (xT x0 s) 8 ∧ gF (xT xs d) 9 = gF (xT x0 s) 9
theorem TK.uT {d : Nat} {x0 xs : XS} (h : TK d x0 xs) (m : MS) : TK d x0 (uT xs d m) := ⟨fun j hj => ⟨(xT_o hj).trans (h.1 j hj).1, (h.1 j hj).2⟩, h.2⟩
theorem TK.uB {d : Nat} {x0 xs : XS} (h : TK d x0 xs) (c : Nat) (k : BK) : TK d x0 (uB xs d c k) := ⟨fun j hj => ⟨(h.1 j hj).1, (xB_o hj).trans (h.1 j hj).2⟩, h.2⟩
theorem TK.rf {d : Nat} {xs : XS} : TK d xs xs := ⟨fun _ _ => ⟨rfl, rfl⟩, rfl⟩
theorem TK.tr {d : Nat} {x y z : XS} (h : TK d x y) (g : TK d y z) : TK d x z := ⟨fun j hj => ⟨(g.1 j hj).1.trans (h.1 j hj).1, (g.1 j hj).2.trans (h.1 j hj).2⟩, g.2.trans h.2⟩
theorem tk10_f {x0 xs : XS} (hT : TK 1 x0 xs) (hC : CP 1 0 x0 12 7 6 xs) (hl : gF (xT x0 0) 7 = 0 ∨ gF (xT x0 0) 7 = 1) : ∃ xs', X8_takeFrom_1_0_p114 xs = some ((), xs') ∧ TK 1 x0 xs' ∧ CP 1 0 x0 12 7 6 xs' ∧ CQ 1 0 x0 xs' := by
  have hs : xT xs 0 = xT x0 0 := (hT.1 0 (by decide)).1
  have e : X8_takeFrom_1_0_p114 xs = gz (gF (xT xs 0) 7) (some ((), uT (uT (uT (uT xs 1 (sF (xT xs 1) 6 (gF (xT xs 0) 6))) 1 (sF (sF (xT xs 1) 6 (gF (xT xs 0) 6)) 7 (gF (xT xs 0) 7))) 1 (sF (sF (sF (xT xs 1) 6 (gF (xT xs 0) 6)) 7 (gF (xT xs 0) 7)) 8 (gF (xT xs 0) 8))) 1 (sF (sF (sF (sF (xT xs 1) 6 (gF (xT xs 0) 6)) 7 (gF (xT xs 0) 7)) 8 (gF (xT xs 0) 8)) 9 (gF (xT xs 0) 9)))) := rfl
  refine ⟨uT (uT (uT (uT xs 1 (sF (xT xs 1) 6 (gF (xT xs 0) 6))) 1 (sF (sF (xT xs 1) 6 (gF (xT xs 0) 6)) 7 (gF (xT xs 0) 7))) 1 (sF (sF (sF (xT xs 1) 6 (gF (xT xs 0) 6)) 7 (gF (xT xs 0) 7)) 8 (gF (xT xs 0) 8))) 1 (sF (sF (sF (sF (xT xs 1) 6 (gF (xT xs 0) 6)) 7 (gF (xT xs 0) 7)) 8 (gF (xT xs 0) 8)) 9 (gF (xT xs 0) 9)), by rw [e, gz_c (by rw [hs]; exact hl)], (((hT.uT _).uT _).uT _).uT _, hC, ?_⟩
  refine ⟨?_, ?_, ?_, ?_⟩
  · show gF (xT xs 0) 6 = _
    rw [hs]
  · show gF (xT xs 0) 7 = _
    rw [hs]
  · show gF (xT xs 0) 8 = _
    rw [hs]
  · show gF (xT xs 0) 9 = _
    rw [hs]
theorem tk10_3 {x0 : XS} (hl : gF (xT x0 0) 7 = 0 ∨ gF (xT x0 0) 7 = 1) : ∀ (n i : Nat) (xs : XS), i + n = 6 → TK 1 x0 xs → CP 1 0 x0 12 7 i xs → ∃ xs', X8_takeFrom_1_0_p78 (n + 1) xs (nI i) = some ((), xs') ∧ TK 1 x0 xs' ∧ CP 1 0 x0 12 7 6 xs' ∧ CQ 1 0 x0 xs' := by
  intro n
  induction n with
  | zero =>
    intro i xs h hT hC
    have h : i = 6 := by omega
    subst h
    obtain ⟨x1, e1, h1⟩ := tk10_f hT hC hl
    exact ⟨x1, by rw [X8_takeFrom_1_0_p78_s, if_pos n6_t]; exact e1, h1⟩
  | succ n ih =>
    intro i xs h hT hC
    have hi : i < 6 := by omega
    have hs : xT xs 0 = xT x0 0 := (hT.1 0 (by decide)).1
    obtain ⟨x1, e1, h1⟩ := ih (i + 1) (uT (uT xs 1 (sA (xT xs 1) 4 i (gA (xT xs 0) 4 i))) 1 (sA (sA (xT xs 1) 4 i (gA (xT xs 0) 4 i)) 5 i (gA (xT xs 0) 5 i))) (by omega) ((hT.uT _).uT _) (by
      refine ⟨hC.1, hC.2.1, fun x hx => ⟨?_, ?_⟩⟩
      · show (if x = i then gA (xT xs 0) 4 i else gA (xT xs 1) 4 x) = _
        by_cases c : x = i
        · rw [if_pos c, hs, c]
        · rw [if_neg c]; exact (hC.2.2 x (by omega)).1
      · show (if x = i then gA (xT xs 0) 5 i else gA (xT xs 1) 5 x) = _
        by_cases c : x = i
        · rw [if_pos c, hs, c]
        · rw [if_neg c]; exact (hC.2.2 x (by omega)).2)
    refine ⟨x1, ?_, h1⟩
    rw [X8_takeFrom_1_0_p78_s, if_neg (n6_f hi), inr_i hi, inr_i hi, nI_cl hi, nm_s, inr_i hi, inr_i hi, nm_s, nI_1, nm_s]
    exact e1
theorem tk10_2 {x0 : XS} (hl : gF (xT x0 0) 7 = 0 ∨ gF (xT x0 0) 7 = 1) : ∀ (n i : Nat) (xs : XS), i + n = 7 → TK 1 x0 xs → CP 1 0 x0 12 i 0 xs → ∃ xs', X8_takeFrom_1_0_p52 (n + 1) xs (nI i) = some ((), xs') ∧ TK 1 x0 xs' ∧ CP 1 0 x0 12 7 6 xs' ∧ CQ 1 0 x0 xs' := by
  intro n
  induction n with
  | zero =>
    intro i xs h hT hC
    have h : i = 7 := by omega
    subst h
    obtain ⟨x1, e1, h1⟩ := tk10_3 hl 6 0 xs (by decide) hT hC
    rw [nI_0] at e1
    exact ⟨x1, by rw [X8_takeFrom_1_0_p52_s, if_pos n7_t]; exact e1, h1⟩
  | succ n ih =>
    intro i xs h hT hC
    have hi : i < 7 := by omega
    have hs : xT xs 0 = xT x0 0 := (hT.1 0 (by decide)).1
    obtain ⟨x1, e1, h1⟩ := ih (i + 1) (uT xs 1 (sA (xT xs 1) 3 i (gA (xT xs 0) 3 i))) (by omega) (hT.uT _) (by
      refine ⟨hC.1, fun x hx => ?_, hC.2.2⟩
      show (if x = i then gA (xT xs 0) 3 i else gA (xT xs 1) 3 x) = _
      by_cases c : x = i
      · rw [if_pos c, hs, c]
      · rw [if_neg c]; exact hC.2.1 x (by omega))
    refine ⟨x1, ?_, h1⟩
    rw [X8_takeFrom_1_0_p52_s, if_neg (n7_f hi), inr_i hi, inr_i hi, nI_cl hi, nm_s, nI_1, nm_s]
    exact e1
theorem tk10_1 {x0 : XS} (hl : gF (xT x0 0) 7 = 0 ∨ gF (xT x0 0) 7 = 1) : ∀ (n i : Nat) (xs : XS), i + n = 12 → TK 1 x0 xs → CP 1 0 x0 i 0 0 xs → ∃ xs', X8_takeFrom_1_0_p2 (n + 1) xs (nI i) = some ((), xs') ∧ TK 1 x0 xs' ∧ CP 1 0 x0 12 7 6 xs' ∧ CQ 1 0 x0 xs' := by
  intro n
  induction n with
  | zero =>
    intro i xs h hT hC
    have h : i = 12 := by omega
    subst h
    obtain ⟨x1, e1, h1⟩ := tk10_2 hl 7 0 xs (by decide) hT hC
    rw [nI_0] at e1
    exact ⟨x1, by rw [X8_takeFrom_1_0_p2_s, if_pos n12_t]; exact e1, h1⟩
  | succ n ih =>
    intro i xs h hT hC
    have hi : i < 12 := by omega
    have hs : xT xs 0 = xT x0 0 := (hT.1 0 (by decide)).1
    have hsB : xB xs 0 = xB x0 0 := (hT.1 0 (by decide)).2
    obtain ⟨x1, e1, h1⟩ := ih (i + 1) (uT (uT (uB xs 1 i (xB xs 0 i)) 1 (sA (xT xs 1) 1 i (gA (xT xs 0) 1 i))) 1 (sA (sA (xT xs 1) 1 i (gA (xT xs 0) 1 i)) 2 i (gA (xT xs 0) 2 i))) (by omega) (((hT.uB _ _).uT _).uT _) (by
      refine ⟨fun x hx => ⟨?_, ?_, ?_⟩, hC.2.1, hC.2.2⟩
      · show xB (uB xs 1 i (xB xs 0 i)) 1 x = _
        rw [xB_d]
        by_cases c : x = i
        · rw [if_pos c, hsB, c]
        · rw [if_neg c]; exact (hC.1 x (by omega)).1
      · show (if x = i then gA (xT xs 0) 1 i else gA (xT xs 1) 1 x) = _
        by_cases c : x = i
        · rw [if_pos c, hs, c]
        · rw [if_neg c]; exact (hC.1 x (by omega)).2.1
      · show (if x = i then gA (xT xs 0) 2 i else gA (xT xs 1) 2 x) = _
        by_cases c : x = i
        · rw [if_pos c, hs, c]
        · rw [if_neg c]; exact (hC.1 x (by omega)).2.2)
    refine ⟨x1, ?_, h1⟩
    rw [X8_takeFrom_1_0_p2_s, if_neg (n12_f hi), inr_i hi, inr_i hi, nI_cl hi, nm_s, inr_i hi, inr_i hi, nm_s, inr_i hi, inr_i hi, nm_s, nI_1, nm_s]
    exact e1
theorem tk10 {A : AT} {xs : XS} (hc : ct A (xT xs 0) (xB xs 0)) (hL : aL A = 0 ∨ aL A = 1) : ∃ xs', X8_takeFrom_1_0 xs = some ((), xs') ∧ TK 1 xs xs' ∧ ct A (xT xs' 1) (xB xs' 1) ∧ gF (xT xs' 1) 9 = gF (xT xs 0) 9 := by
  obtain ⟨c1, c2, c3, c4, c5, c6⟩ := hc
  obtain ⟨x1, e1, h1, ⟨p1, p2, p3⟩, q1, q2, q3, q4⟩ := tk10_1 (x0 := xs) (by rw [c5]; exact hL) 12 0 xs (by decide) TK.rf ⟨fun c hc => absurd hc (Nat.not_lt_zero _), fun c hc => absurd hc (Nat.not_lt_zero _), fun c hc => absurd hc (Nat.not_lt_zero _)⟩
  rw [nI_0] at e1
  refine ⟨x1, e1, h1, ⟨fun c hc => ?_, fun i hi => (p2 i hi).trans (c2 i hi), fun x hx => ⟨(p3 x hx).1.trans (c3 x hx).1, (p3 x hx).2.trans (c3 x hx).2⟩, q1.trans c4, q2.trans c5, q3.trans c6⟩, q4⟩
  obtain ⟨g1, g2, g3⟩ := p1 c hc
  rw [g1, g2, g3]
  exact c1 c hc
theorem tk01_f {x0 xs : XS} (hT : TK 0 x0 xs) (hC : CP 0 1 x0 12 7 6 xs) (hl : gF (xT x0 1) 7 = 0 ∨ gF (xT x0 1) 7 = 1) : ∃ xs', X8_takeFrom_0_1_p114 xs = some ((), xs') ∧ TK 0 x0 xs' ∧ CP 0 1 x0 12 7 6 xs' ∧ CQ 0 1 x0 xs' := by
  have hs : xT xs 1 = xT x0 1 := (hT.1 1 (by decide)).1
  have e : X8_takeFrom_0_1_p114 xs = gz (gF (xT xs 1) 7) (some ((), uT (uT (uT (uT xs 0 (sF (xT xs 0) 6 (gF (xT xs 1) 6))) 0 (sF (sF (xT xs 0) 6 (gF (xT xs 1) 6)) 7 (gF (xT xs 1) 7))) 0 (sF (sF (sF (xT xs 0) 6 (gF (xT xs 1) 6)) 7 (gF (xT xs 1) 7)) 8 (gF (xT xs 1) 8))) 0 (sF (sF (sF (sF (xT xs 0) 6 (gF (xT xs 1) 6)) 7 (gF (xT xs 1) 7)) 8 (gF (xT xs 1) 8)) 9 (gF (xT xs 1) 9)))) := rfl
  refine ⟨uT (uT (uT (uT xs 0 (sF (xT xs 0) 6 (gF (xT xs 1) 6))) 0 (sF (sF (xT xs 0) 6 (gF (xT xs 1) 6)) 7 (gF (xT xs 1) 7))) 0 (sF (sF (sF (xT xs 0) 6 (gF (xT xs 1) 6)) 7 (gF (xT xs 1) 7)) 8 (gF (xT xs 1) 8))) 0 (sF (sF (sF (sF (xT xs 0) 6 (gF (xT xs 1) 6)) 7 (gF (xT xs 1) 7)) 8 (gF (xT xs 1) 8)) 9 (gF (xT xs 1) 9)), by rw [e, gz_c (by rw [hs]; exact hl)], (((hT.uT _).uT _).uT _).uT _, hC, ?_⟩
  refine ⟨?_, ?_, ?_, ?_⟩
  · show gF (xT xs 1) 6 = _
    rw [hs]
  · show gF (xT xs 1) 7 = _
    rw [hs]
  · show gF (xT xs 1) 8 = _
    rw [hs]
  · show gF (xT xs 1) 9 = _
    rw [hs]
theorem tk01_3 {x0 : XS} (hl : gF (xT x0 1) 7 = 0 ∨ gF (xT x0 1) 7 = 1) : ∀ (n i : Nat) (xs : XS), i + n = 6 → TK 0 x0 xs → CP 0 1 x0 12 7 i xs → ∃ xs', X8_takeFrom_0_1_p78 (n + 1) xs (nI i) = some ((), xs') ∧ TK 0 x0 xs' ∧ CP 0 1 x0 12 7 6 xs' ∧ CQ 0 1 x0 xs' := by
  intro n
  induction n with
  | zero =>
    intro i xs h hT hC
    have h : i = 6 := by omega
    subst h
    obtain ⟨x1, e1, h1⟩ := tk01_f hT hC hl
    exact ⟨x1, by rw [X8_takeFrom_0_1_p78_s, if_pos n6_t]; exact e1, h1⟩
  | succ n ih =>
    intro i xs h hT hC
    have hi : i < 6 := by omega
    have hs : xT xs 1 = xT x0 1 := (hT.1 1 (by decide)).1
    obtain ⟨x1, e1, h1⟩ := ih (i + 1) (uT (uT xs 0 (sA (xT xs 0) 4 i (gA (xT xs 1) 4 i))) 0 (sA (sA (xT xs 0) 4 i (gA (xT xs 1) 4 i)) 5 i (gA (xT xs 1) 5 i))) (by omega) ((hT.uT _).uT _) (by
      refine ⟨hC.1, hC.2.1, fun x hx => ⟨?_, ?_⟩⟩
      · show (if x = i then gA (xT xs 1) 4 i else gA (xT xs 0) 4 x) = _
        by_cases c : x = i
        · rw [if_pos c, hs, c]
        · rw [if_neg c]; exact (hC.2.2 x (by omega)).1
      · show (if x = i then gA (xT xs 1) 5 i else gA (xT xs 0) 5 x) = _
        by_cases c : x = i
        · rw [if_pos c, hs, c]
        · rw [if_neg c]; exact (hC.2.2 x (by omega)).2)
    refine ⟨x1, ?_, h1⟩
    rw [X8_takeFrom_0_1_p78_s, if_neg (n6_f hi), inr_i hi, inr_i hi, nI_cl hi, nm_s, inr_i hi, inr_i hi, nm_s, nI_1, nm_s]
    exact e1
theorem tk01_2 {x0 : XS} (hl : gF (xT x0 1) 7 = 0 ∨ gF (xT x0 1) 7 = 1) : ∀ (n i : Nat) (xs : XS), i + n = 7 → TK 0 x0 xs → CP 0 1 x0 12 i 0 xs → ∃ xs', X8_takeFrom_0_1_p52 (n + 1) xs (nI i) = some ((), xs') ∧ TK 0 x0 xs' ∧ CP 0 1 x0 12 7 6 xs' ∧ CQ 0 1 x0 xs' := by
  intro n
  induction n with
  | zero =>
    intro i xs h hT hC
    have h : i = 7 := by omega
    subst h
    obtain ⟨x1, e1, h1⟩ := tk01_3 hl 6 0 xs (by decide) hT hC
    rw [nI_0] at e1
    exact ⟨x1, by rw [X8_takeFrom_0_1_p52_s, if_pos n7_t]; exact e1, h1⟩
  | succ n ih =>
    intro i xs h hT hC
    have hi : i < 7 := by omega
    have hs : xT xs 1 = xT x0 1 := (hT.1 1 (by decide)).1
    obtain ⟨x1, e1, h1⟩ := ih (i + 1) (uT xs 0 (sA (xT xs 0) 3 i (gA (xT xs 1) 3 i))) (by omega) (hT.uT _) (by
      refine ⟨hC.1, fun x hx => ?_, hC.2.2⟩
      show (if x = i then gA (xT xs 1) 3 i else gA (xT xs 0) 3 x) = _
      by_cases c : x = i
      · rw [if_pos c, hs, c]
      · rw [if_neg c]; exact hC.2.1 x (by omega))
    refine ⟨x1, ?_, h1⟩
    rw [X8_takeFrom_0_1_p52_s, if_neg (n7_f hi), inr_i hi, inr_i hi, nI_cl hi, nm_s, nI_1, nm_s]
    exact e1
theorem tk01_1 {x0 : XS} (hl : gF (xT x0 1) 7 = 0 ∨ gF (xT x0 1) 7 = 1) : ∀ (n i : Nat) (xs : XS), i + n = 12 → TK 0 x0 xs → CP 0 1 x0 i 0 0 xs → ∃ xs', X8_takeFrom_0_1_p2 (n + 1) xs (nI i) = some ((), xs') ∧ TK 0 x0 xs' ∧ CP 0 1 x0 12 7 6 xs' ∧ CQ 0 1 x0 xs' := by
  intro n
  induction n with
  | zero =>
    intro i xs h hT hC
    have h : i = 12 := by omega
    subst h
    obtain ⟨x1, e1, h1⟩ := tk01_2 hl 7 0 xs (by decide) hT hC
    rw [nI_0] at e1
    exact ⟨x1, by rw [X8_takeFrom_0_1_p2_s, if_pos n12_t]; exact e1, h1⟩
  | succ n ih =>
    intro i xs h hT hC
    have hi : i < 12 := by omega
    have hs : xT xs 1 = xT x0 1 := (hT.1 1 (by decide)).1
    have hsB : xB xs 1 = xB x0 1 := (hT.1 1 (by decide)).2
    obtain ⟨x1, e1, h1⟩ := ih (i + 1) (uT (uT (uB xs 0 i (xB xs 1 i)) 0 (sA (xT xs 0) 1 i (gA (xT xs 1) 1 i))) 0 (sA (sA (xT xs 0) 1 i (gA (xT xs 1) 1 i)) 2 i (gA (xT xs 1) 2 i))) (by omega) (((hT.uB _ _).uT _).uT _) (by
      refine ⟨fun x hx => ⟨?_, ?_, ?_⟩, hC.2.1, hC.2.2⟩
      · show xB (uB xs 0 i (xB xs 1 i)) 0 x = _
        rw [xB_d]
        by_cases c : x = i
        · rw [if_pos c, hsB, c]
        · rw [if_neg c]; exact (hC.1 x (by omega)).1
      · show (if x = i then gA (xT xs 1) 1 i else gA (xT xs 0) 1 x) = _
        by_cases c : x = i
        · rw [if_pos c, hs, c]
        · rw [if_neg c]; exact (hC.1 x (by omega)).2.1
      · show (if x = i then gA (xT xs 1) 2 i else gA (xT xs 0) 2 x) = _
        by_cases c : x = i
        · rw [if_pos c, hs, c]
        · rw [if_neg c]; exact (hC.1 x (by omega)).2.2)
    refine ⟨x1, ?_, h1⟩
    rw [X8_takeFrom_0_1_p2_s, if_neg (n12_f hi), inr_i hi, inr_i hi, nI_cl hi, nm_s, inr_i hi, inr_i hi, nm_s, inr_i hi, inr_i hi, nm_s, nI_1, nm_s]
    exact e1
theorem tk01 {A : AT} {xs : XS} (hc : ct A (xT xs 1) (xB xs 1)) (hL : aL A = 0 ∨ aL A = 1) : ∃ xs', X8_takeFrom_0_1 xs = some ((), xs') ∧ TK 0 xs xs' ∧ ct A (xT xs' 0) (xB xs' 0) ∧ gF (xT xs' 0) 9 = gF (xT xs 1) 9 := by
  obtain ⟨c1, c2, c3, c4, c5, c6⟩ := hc
  obtain ⟨x1, e1, h1, ⟨p1, p2, p3⟩, q1, q2, q3, q4⟩ := tk01_1 (x0 := xs) (by rw [c5]; exact hL) 12 0 xs (by decide) TK.rf ⟨fun c hc => absurd hc (Nat.not_lt_zero _), fun c hc => absurd hc (Nat.not_lt_zero _), fun c hc => absurd hc (Nat.not_lt_zero _)⟩
  rw [nI_0] at e1
  refine ⟨x1, e1, h1, ⟨fun c hc => ?_, fun i hi => (p2 i hi).trans (c2 i hi), fun x hx => ⟨(p3 x hx).1.trans (c3 x hx).1, (p3 x hx).2.trans (c3 x hx).2⟩, q1.trans c4, q2.trans c5, q3.trans c6⟩, q4⟩
  obtain ⟨g1, g2, g3⟩ := p1 c hc
  rw [g1, g2, g3]
  exact c1 c hc
theorem tk20_f {x0 xs : XS} (hT : TK 2 x0 xs) (hC : CP 2 0 x0 12 7 6 xs) (hl : gF (xT x0 0) 7 = 0 ∨ gF (xT x0 0) 7 = 1) : ∃ xs', X8_takeFrom_2_0_p114 xs = some ((), xs') ∧ TK 2 x0 xs' ∧ CP 2 0 x0 12 7 6 xs' ∧ CQ 2 0 x0 xs' := by
  have hs : xT xs 0 = xT x0 0 := (hT.1 0 (by decide)).1
  have e : X8_takeFrom_2_0_p114 xs = gz (gF (xT xs 0) 7) (some ((), uT (uT (uT (uT xs 2 (sF (xT xs 2) 6 (gF (xT xs 0) 6))) 2 (sF (sF (xT xs 2) 6 (gF (xT xs 0) 6)) 7 (gF (xT xs 0) 7))) 2 (sF (sF (sF (xT xs 2) 6 (gF (xT xs 0) 6)) 7 (gF (xT xs 0) 7)) 8 (gF (xT xs 0) 8))) 2 (sF (sF (sF (sF (xT xs 2) 6 (gF (xT xs 0) 6)) 7 (gF (xT xs 0) 7)) 8 (gF (xT xs 0) 8)) 9 (gF (xT xs 0) 9)))) := rfl
  refine ⟨uT (uT (uT (uT xs 2 (sF (xT xs 2) 6 (gF (xT xs 0) 6))) 2 (sF (sF (xT xs 2) 6 (gF (xT xs 0) 6)) 7 (gF (xT xs 0) 7))) 2 (sF (sF (sF (xT xs 2) 6 (gF (xT xs 0) 6)) 7 (gF (xT xs 0) 7)) 8 (gF (xT xs 0) 8))) 2 (sF (sF (sF (sF (xT xs 2) 6 (gF (xT xs 0) 6)) 7 (gF (xT xs 0) 7)) 8 (gF (xT xs 0) 8)) 9 (gF (xT xs 0) 9)), by rw [e, gz_c (by rw [hs]; exact hl)], (((hT.uT _).uT _).uT _).uT _, hC, ?_⟩
  refine ⟨?_, ?_, ?_, ?_⟩
  · show gF (xT xs 0) 6 = _
    rw [hs]
  · show gF (xT xs 0) 7 = _
    rw [hs]
  · show gF (xT xs 0) 8 = _
    rw [hs]
  · show gF (xT xs 0) 9 = _
    rw [hs]
theorem tk20_3 {x0 : XS} (hl : gF (xT x0 0) 7 = 0 ∨ gF (xT x0 0) 7 = 1) : ∀ (n i : Nat) (xs : XS), i + n = 6 → TK 2 x0 xs → CP 2 0 x0 12 7 i xs → ∃ xs', X8_takeFrom_2_0_p78 (n + 1) xs (nI i) = some ((), xs') ∧ TK 2 x0 xs' ∧ CP 2 0 x0 12 7 6 xs' ∧ CQ 2 0 x0 xs' := by
  intro n
  induction n with
  | zero =>
    intro i xs h hT hC
    have h : i = 6 := by omega
    subst h
    obtain ⟨x1, e1, h1⟩ := tk20_f hT hC hl
    exact ⟨x1, by rw [X8_takeFrom_2_0_p78_s, if_pos n6_t]; exact e1, h1⟩
  | succ n ih =>
    intro i xs h hT hC
    have hi : i < 6 := by omega
    have hs : xT xs 0 = xT x0 0 := (hT.1 0 (by decide)).1
    obtain ⟨x1, e1, h1⟩ := ih (i + 1) (uT (uT xs 2 (sA (xT xs 2) 4 i (gA (xT xs 0) 4 i))) 2 (sA (sA (xT xs 2) 4 i (gA (xT xs 0) 4 i)) 5 i (gA (xT xs 0) 5 i))) (by omega) ((hT.uT _).uT _) (by
      refine ⟨hC.1, hC.2.1, fun x hx => ⟨?_, ?_⟩⟩
      · show (if x = i then gA (xT xs 0) 4 i else gA (xT xs 2) 4 x) = _
        by_cases c : x = i
        · rw [if_pos c, hs, c]
        · rw [if_neg c]; exact (hC.2.2 x (by omega)).1
      · show (if x = i then gA (xT xs 0) 5 i else gA (xT xs 2) 5 x) = _
        by_cases c : x = i
        · rw [if_pos c, hs, c]
        · rw [if_neg c]; exact (hC.2.2 x (by omega)).2)
    refine ⟨x1, ?_, h1⟩
    rw [X8_takeFrom_2_0_p78_s, if_neg (n6_f hi), inr_i hi, inr_i hi, nI_cl hi, nm_s, inr_i hi, inr_i hi, nm_s, nI_1, nm_s]
    exact e1
theorem tk20_2 {x0 : XS} (hl : gF (xT x0 0) 7 = 0 ∨ gF (xT x0 0) 7 = 1) : ∀ (n i : Nat) (xs : XS), i + n = 7 → TK 2 x0 xs → CP 2 0 x0 12 i 0 xs → ∃ xs', X8_takeFrom_2_0_p52 (n + 1) xs (nI i) = some ((), xs') ∧ TK 2 x0 xs' ∧ CP 2 0 x0 12 7 6 xs' ∧ CQ 2 0 x0 xs' := by
  intro n
  induction n with
  | zero =>
    intro i xs h hT hC
    have h : i = 7 := by omega
    subst h
    obtain ⟨x1, e1, h1⟩ := tk20_3 hl 6 0 xs (by decide) hT hC
    rw [nI_0] at e1
    exact ⟨x1, by rw [X8_takeFrom_2_0_p52_s, if_pos n7_t]; exact e1, h1⟩
  | succ n ih =>
    intro i xs h hT hC
    have hi : i < 7 := by omega
    have hs : xT xs 0 = xT x0 0 := (hT.1 0 (by decide)).1
    obtain ⟨x1, e1, h1⟩ := ih (i + 1) (uT xs 2 (sA (xT xs 2) 3 i (gA (xT xs 0) 3 i))) (by omega) (hT.uT _) (by
      refine ⟨hC.1, fun x hx => ?_, hC.2.2⟩
      show (if x = i then gA (xT xs 0) 3 i else gA (xT xs 2) 3 x) = _
      by_cases c : x = i
      · rw [if_pos c, hs, c]
      · rw [if_neg c]; exact hC.2.1 x (by omega))
    refine ⟨x1, ?_, h1⟩
    rw [X8_takeFrom_2_0_p52_s, if_neg (n7_f hi), inr_i hi, inr_i hi, nI_cl hi, nm_s, nI_1, nm_s]
    exact e1
theorem tk20_1 {x0 : XS} (hl : gF (xT x0 0) 7 = 0 ∨ gF (xT x0 0) 7 = 1) : ∀ (n i : Nat) (xs : XS), i + n = 12 → TK 2 x0 xs → CP 2 0 x0 i 0 0 xs → ∃ xs', X8_takeFrom_2_0_p2 (n + 1) xs (nI i) = some ((), xs') ∧ TK 2 x0 xs' ∧ CP 2 0 x0 12 7 6 xs' ∧ CQ 2 0 x0 xs' := by
  intro n
  induction n with
  | zero =>
    intro i xs h hT hC
    have h : i = 12 := by omega
    subst h
    obtain ⟨x1, e1, h1⟩ := tk20_2 hl 7 0 xs (by decide) hT hC
    rw [nI_0] at e1
    exact ⟨x1, by rw [X8_takeFrom_2_0_p2_s, if_pos n12_t]; exact e1, h1⟩
  | succ n ih =>
    intro i xs h hT hC
    have hi : i < 12 := by omega
    have hs : xT xs 0 = xT x0 0 := (hT.1 0 (by decide)).1
    have hsB : xB xs 0 = xB x0 0 := (hT.1 0 (by decide)).2
    obtain ⟨x1, e1, h1⟩ := ih (i + 1) (uT (uT (uB xs 2 i (xB xs 0 i)) 2 (sA (xT xs 2) 1 i (gA (xT xs 0) 1 i))) 2 (sA (sA (xT xs 2) 1 i (gA (xT xs 0) 1 i)) 2 i (gA (xT xs 0) 2 i))) (by omega) (((hT.uB _ _).uT _).uT _) (by
      refine ⟨fun x hx => ⟨?_, ?_, ?_⟩, hC.2.1, hC.2.2⟩
      · show xB (uB xs 2 i (xB xs 0 i)) 2 x = _
        rw [xB_d]
        by_cases c : x = i
        · rw [if_pos c, hsB, c]
        · rw [if_neg c]; exact (hC.1 x (by omega)).1
      · show (if x = i then gA (xT xs 0) 1 i else gA (xT xs 2) 1 x) = _
        by_cases c : x = i
        · rw [if_pos c, hs, c]
        · rw [if_neg c]; exact (hC.1 x (by omega)).2.1
      · show (if x = i then gA (xT xs 0) 2 i else gA (xT xs 2) 2 x) = _
        by_cases c : x = i
        · rw [if_pos c, hs, c]
        · rw [if_neg c]; exact (hC.1 x (by omega)).2.2)
    refine ⟨x1, ?_, h1⟩
    rw [X8_takeFrom_2_0_p2_s, if_neg (n12_f hi), inr_i hi, inr_i hi, nI_cl hi, nm_s, inr_i hi, inr_i hi, nm_s, inr_i hi, inr_i hi, nm_s, nI_1, nm_s]
    exact e1
theorem tk20 {A : AT} {xs : XS} (hc : ct A (xT xs 0) (xB xs 0)) (hL : aL A = 0 ∨ aL A = 1) : ∃ xs', X8_takeFrom_2_0 xs = some ((), xs') ∧ TK 2 xs xs' ∧ ct A (xT xs' 2) (xB xs' 2) ∧ gF (xT xs' 2) 9 = gF (xT xs 0) 9 := by
  obtain ⟨c1, c2, c3, c4, c5, c6⟩ := hc
  obtain ⟨x1, e1, h1, ⟨p1, p2, p3⟩, q1, q2, q3, q4⟩ := tk20_1 (x0 := xs) (by rw [c5]; exact hL) 12 0 xs (by decide) TK.rf ⟨fun c hc => absurd hc (Nat.not_lt_zero _), fun c hc => absurd hc (Nat.not_lt_zero _), fun c hc => absurd hc (Nat.not_lt_zero _)⟩
  rw [nI_0] at e1
  refine ⟨x1, e1, h1, ⟨fun c hc => ?_, fun i hi => (p2 i hi).trans (c2 i hi), fun x hx => ⟨(p3 x hx).1.trans (c3 x hx).1, (p3 x hx).2.trans (c3 x hx).2⟩, q1.trans c4, q2.trans c5, q3.trans c6⟩, q4⟩
  obtain ⟨g1, g2, g3⟩ := p1 c hc
  rw [g1, g2, g3]
  exact c1 c hc
theorem tk02_f {x0 xs : XS} (hT : TK 0 x0 xs) (hC : CP 0 2 x0 12 7 6 xs) (hl : gF (xT x0 2) 7 = 0 ∨ gF (xT x0 2) 7 = 1) : ∃ xs', X8_takeFrom_0_2_p114 xs = some ((), xs') ∧ TK 0 x0 xs' ∧ CP 0 2 x0 12 7 6 xs' ∧ CQ 0 2 x0 xs' := by
  have hs : xT xs 2 = xT x0 2 := (hT.1 2 (by decide)).1
  have e : X8_takeFrom_0_2_p114 xs = gz (gF (xT xs 2) 7) (some ((), uT (uT (uT (uT xs 0 (sF (xT xs 0) 6 (gF (xT xs 2) 6))) 0 (sF (sF (xT xs 0) 6 (gF (xT xs 2) 6)) 7 (gF (xT xs 2) 7))) 0 (sF (sF (sF (xT xs 0) 6 (gF (xT xs 2) 6)) 7 (gF (xT xs 2) 7)) 8 (gF (xT xs 2) 8))) 0 (sF (sF (sF (sF (xT xs 0) 6 (gF (xT xs 2) 6)) 7 (gF (xT xs 2) 7)) 8 (gF (xT xs 2) 8)) 9 (gF (xT xs 2) 9)))) := rfl
  refine ⟨uT (uT (uT (uT xs 0 (sF (xT xs 0) 6 (gF (xT xs 2) 6))) 0 (sF (sF (xT xs 0) 6 (gF (xT xs 2) 6)) 7 (gF (xT xs 2) 7))) 0 (sF (sF (sF (xT xs 0) 6 (gF (xT xs 2) 6)) 7 (gF (xT xs 2) 7)) 8 (gF (xT xs 2) 8))) 0 (sF (sF (sF (sF (xT xs 0) 6 (gF (xT xs 2) 6)) 7 (gF (xT xs 2) 7)) 8 (gF (xT xs 2) 8)) 9 (gF (xT xs 2) 9)), by rw [e, gz_c (by rw [hs]; exact hl)], (((hT.uT _).uT _).uT _).uT _, hC, ?_⟩
  refine ⟨?_, ?_, ?_, ?_⟩
  · show gF (xT xs 2) 6 = _
    rw [hs]
  · show gF (xT xs 2) 7 = _
    rw [hs]
  · show gF (xT xs 2) 8 = _
    rw [hs]
  · show gF (xT xs 2) 9 = _
    rw [hs]
theorem tk02_3 {x0 : XS} (hl : gF (xT x0 2) 7 = 0 ∨ gF (xT x0 2) 7 = 1) : ∀ (n i : Nat) (xs : XS), i + n = 6 → TK 0 x0 xs → CP 0 2 x0 12 7 i xs → ∃ xs', X8_takeFrom_0_2_p78 (n + 1) xs (nI i) = some ((), xs') ∧ TK 0 x0 xs' ∧ CP 0 2 x0 12 7 6 xs' ∧ CQ 0 2 x0 xs' := by
  intro n
  induction n with
  | zero =>
    intro i xs h hT hC
    have h : i = 6 := by omega
    subst h
    obtain ⟨x1, e1, h1⟩ := tk02_f hT hC hl
    exact ⟨x1, by rw [X8_takeFrom_0_2_p78_s, if_pos n6_t]; exact e1, h1⟩
  | succ n ih =>
    intro i xs h hT hC
    have hi : i < 6 := by omega
    have hs : xT xs 2 = xT x0 2 := (hT.1 2 (by decide)).1
    obtain ⟨x1, e1, h1⟩ := ih (i + 1) (uT (uT xs 0 (sA (xT xs 0) 4 i (gA (xT xs 2) 4 i))) 0 (sA (sA (xT xs 0) 4 i (gA (xT xs 2) 4 i)) 5 i (gA (xT xs 2) 5 i))) (by omega) ((hT.uT _).uT _) (by
      refine ⟨hC.1, hC.2.1, fun x hx => ⟨?_, ?_⟩⟩
      · show (if x = i then gA (xT xs 2) 4 i else gA (xT xs 0) 4 x) = _
        by_cases c : x = i
        · rw [if_pos c, hs, c]
        · rw [if_neg c]; exact (hC.2.2 x (by omega)).1
      · show (if x = i then gA (xT xs 2) 5 i else gA (xT xs 0) 5 x) = _
        by_cases c : x = i
        · rw [if_pos c, hs, c]
        · rw [if_neg c]; exact (hC.2.2 x (by omega)).2)
    refine ⟨x1, ?_, h1⟩
    rw [X8_takeFrom_0_2_p78_s, if_neg (n6_f hi), inr_i hi, inr_i hi, nI_cl hi, nm_s, inr_i hi, inr_i hi, nm_s, nI_1, nm_s]
    exact e1
theorem tk02_2 {x0 : XS} (hl : gF (xT x0 2) 7 = 0 ∨ gF (xT x0 2) 7 = 1) : ∀ (n i : Nat) (xs : XS), i + n = 7 → TK 0 x0 xs → CP 0 2 x0 12 i 0 xs → ∃ xs', X8_takeFrom_0_2_p52 (n + 1) xs (nI i) = some ((), xs') ∧ TK 0 x0 xs' ∧ CP 0 2 x0 12 7 6 xs' ∧ CQ 0 2 x0 xs' := by
  intro n
  induction n with
  | zero =>
    intro i xs h hT hC
    have h : i = 7 := by omega
    subst h
    obtain ⟨x1, e1, h1⟩ := tk02_3 hl 6 0 xs (by decide) hT hC
    rw [nI_0] at e1
    exact ⟨x1, by rw [X8_takeFrom_0_2_p52_s, if_pos n7_t]; exact e1, h1⟩
  | succ n ih =>
    intro i xs h hT hC
    have hi : i < 7 := by omega
    have hs : xT xs 2 = xT x0 2 := (hT.1 2 (by decide)).1
    obtain ⟨x1, e1, h1⟩ := ih (i + 1) (uT xs 0 (sA (xT xs 0) 3 i (gA (xT xs 2) 3 i))) (by omega) (hT.uT _) (by
      refine ⟨hC.1, fun x hx => ?_, hC.2.2⟩
      show (if x = i then gA (xT xs 2) 3 i else gA (xT xs 0) 3 x) = _
      by_cases c : x = i
      · rw [if_pos c, hs, c]
      · rw [if_neg c]; exact hC.2.1 x (by omega))
    refine ⟨x1, ?_, h1⟩
    rw [X8_takeFrom_0_2_p52_s, if_neg (n7_f hi), inr_i hi, inr_i hi, nI_cl hi, nm_s, nI_1, nm_s]
    exact e1
theorem tk02_1 {x0 : XS} (hl : gF (xT x0 2) 7 = 0 ∨ gF (xT x0 2) 7 = 1) : ∀ (n i : Nat) (xs : XS), i + n = 12 → TK 0 x0 xs → CP 0 2 x0 i 0 0 xs → ∃ xs', X8_takeFrom_0_2_p2 (n + 1) xs (nI i) = some ((), xs') ∧ TK 0 x0 xs' ∧ CP 0 2 x0 12 7 6 xs' ∧ CQ 0 2 x0 xs' := by
  intro n
  induction n with
  | zero =>
    intro i xs h hT hC
    have h : i = 12 := by omega
    subst h
    obtain ⟨x1, e1, h1⟩ := tk02_2 hl 7 0 xs (by decide) hT hC
    rw [nI_0] at e1
    exact ⟨x1, by rw [X8_takeFrom_0_2_p2_s, if_pos n12_t]; exact e1, h1⟩
  | succ n ih =>
    intro i xs h hT hC
    have hi : i < 12 := by omega
    have hs : xT xs 2 = xT x0 2 := (hT.1 2 (by decide)).1
    have hsB : xB xs 2 = xB x0 2 := (hT.1 2 (by decide)).2
    obtain ⟨x1, e1, h1⟩ := ih (i + 1) (uT (uT (uB xs 0 i (xB xs 2 i)) 0 (sA (xT xs 0) 1 i (gA (xT xs 2) 1 i))) 0 (sA (sA (xT xs 0) 1 i (gA (xT xs 2) 1 i)) 2 i (gA (xT xs 2) 2 i))) (by omega) (((hT.uB _ _).uT _).uT _) (by
      refine ⟨fun x hx => ⟨?_, ?_, ?_⟩, hC.2.1, hC.2.2⟩
      · show xB (uB xs 0 i (xB xs 2 i)) 0 x = _
        rw [xB_d]
        by_cases c : x = i
        · rw [if_pos c, hsB, c]
        · rw [if_neg c]; exact (hC.1 x (by omega)).1
      · show (if x = i then gA (xT xs 2) 1 i else gA (xT xs 0) 1 x) = _
        by_cases c : x = i
        · rw [if_pos c, hs, c]
        · rw [if_neg c]; exact (hC.1 x (by omega)).2.1
      · show (if x = i then gA (xT xs 2) 2 i else gA (xT xs 0) 2 x) = _
        by_cases c : x = i
        · rw [if_pos c, hs, c]
        · rw [if_neg c]; exact (hC.1 x (by omega)).2.2)
    refine ⟨x1, ?_, h1⟩
    rw [X8_takeFrom_0_2_p2_s, if_neg (n12_f hi), inr_i hi, inr_i hi, nI_cl hi, nm_s, inr_i hi, inr_i hi, nm_s, inr_i hi, inr_i hi, nm_s, nI_1, nm_s]
    exact e1
theorem tk02 {A : AT} {xs : XS} (hc : ct A (xT xs 2) (xB xs 2)) (hL : aL A = 0 ∨ aL A = 1) : ∃ xs', X8_takeFrom_0_2 xs = some ((), xs') ∧ TK 0 xs xs' ∧ ct A (xT xs' 0) (xB xs' 0) ∧ gF (xT xs' 0) 9 = gF (xT xs 2) 9 := by
  obtain ⟨c1, c2, c3, c4, c5, c6⟩ := hc
  obtain ⟨x1, e1, h1, ⟨p1, p2, p3⟩, q1, q2, q3, q4⟩ := tk02_1 (x0 := xs) (by rw [c5]; exact hL) 12 0 xs (by decide) TK.rf ⟨fun c hc => absurd hc (Nat.not_lt_zero _), fun c hc => absurd hc (Nat.not_lt_zero _), fun c hc => absurd hc (Nat.not_lt_zero _)⟩
  rw [nI_0] at e1
  refine ⟨x1, e1, h1, ⟨fun c hc => ?_, fun i hi => (p2 i hi).trans (c2 i hi), fun x hx => ⟨(p3 x hx).1.trans (c3 x hx).1, (p3 x hx).2.trans (c3 x hx).2⟩, q1.trans c4, q2.trans c5, q3.trans c6⟩, q4⟩
  obtain ⟨g1, g2, g3⟩ := p1 c hc
  rw [g1, g2, g3]
  exact c1 c hc
