/-! the reference's questions answer by its numbers -/
def mCon (st : MS) : Prop := (∀ i, i < 12 → gA st 0 i = cAh i) ∧ (∀ i, i < 12 → gA st 1 i = cAs i)
def bwK (k f : Int32) : Int32 := if k = 1 then 0 else if k = 2 then f else if k = 3 then f + 2 else if k = 4 then 4 else if k = 5 then 9 - f / 3 else if k = 6 then f else if k = 7 then 11 else 9
def buK (k f : Int32) : Int32 := if k = 2 then 4 + 2 * f else if k = 3 then 2 * (4 + 2 * f) else if k = 6 then (4 + 2 * f) / 2 else -4
theorem X11_alike_s {st : MS} (hM : mCon st) {i j : Nat} (hi : i < 12) (hj : j < 12) : X11_alike st (nI i) (nI j) = some (alk i j, st) := by
  unfold X11_alike
  rw [inr_i hi, inr_i hj, inr_i hi, inr_i hj, nI_cl hi, nI_cl hj, hM.1 i hi, hM.1 j hj, hM.2 i hi, hM.2 j hj]
  rfl
theorem X11_burnsOf_s (st : MS) {c : Nat} (hc : c < 12) : X11_burnsOf st (nI c) = some (buK (gA st 2 c) (gA st 3 c), st) := by
  unfold X11_burnsOf X11_burnsOf_p60 buK
  rw [inr_i hc, nm_s, inr_i hc, inr_i hc, inr_i hc, dvi_2, nI_cl hc]
  by_cases h2 : gA st 2 c = 2
  · rw [if_pos h2, if_pos h2]
  · rw [if_neg h2, if_neg h2]
    by_cases h3 : gA st 2 c = 3
    · rw [if_pos h3, if_pos h3]
    · rw [if_neg h3, if_neg h3]
      by_cases h6 : gA st 2 c = 6
      · rw [if_pos h6, if_pos h6]
      · rw [if_neg h6, if_neg h6]
theorem X11_bearsWhole_s (st : MS) {c : Nat} (hc : c < 12) : X11_bearsWhole st (nI c) = some (bwK (gA st 2 c) (gA st 3 c), st) := by
  unfold X11_bearsWhole bwK
  simp only [inr_i hc, nm_s, nI_cl hc, dvi_3]
  by_cases h1 : gA st 2 c = 1
  · rw [if_pos h1, if_pos h1]
  rw [if_neg h1, if_neg h1]
  by_cases h2 : gA st 2 c = 2
  · rw [if_pos h2, if_pos h2]
  rw [if_neg h2, if_neg h2]
  by_cases h3 : gA st 2 c = 3
  · rw [if_pos h3, if_pos h3]
  rw [if_neg h3, if_neg h3]
  by_cases h4 : gA st 2 c = 4
  · rw [if_pos h4, if_pos h4]
  rw [if_neg h4, if_neg h4]
  by_cases h5 : gA st 2 c = 5
  · rw [if_pos h5, if_pos h5]
  rw [if_neg h5, if_neg h5]
  by_cases h6 : gA st 2 c = 6
  · rw [if_pos h6, if_pos h6]
  rw [if_neg h6, if_neg h6]
  by_cases h7 : gA st 2 c = 7
  · rw [if_pos h7, if_pos h7]
  rw [if_neg h7, if_neg h7]
def mB (st : MS) (c : Nat) : Int32 :=
  if gF st 5 = 0 then bwK (gA st 2 c) (gA st 3 c) else
  if buK (gA st 2 c) (gA st 3 c) < 0 then bwK (gA st 2 c) (gA st 3 c) else
  if gF st 6 < buK (gA st 2 c) (gA st 3 c) + gA st 18 c * (buK (gA st 2 c) (gA st 3 c) / 3) then bwK (gA st 2 c) (gA st 3 c) else 0
theorem X11_bearsOf_s (st : MS) {c : Nat} (hc : c < 12) : X11_bearsOf st (nI c) = some (mB st c, st) := by
  unfold X11_bearsOf X11_bearsOf_p40 X11_bearsOf_p45 mB
  rw [X11_burnsOf_s st hc, bnd_s, X11_bearsWhole_s st hc, bnd_s, inr_i hc, dvi_3, nI_cl hc]
  by_cases h1 : gF st 5 = 0
  · rw [if_pos h1, if_pos h1]
  rw [if_neg h1, if_neg h1]
  by_cases h2 : buK (gA st 2 c) (gA st 3 c) < 0
  · rw [if_pos h2, if_pos h2]
  rw [if_neg h2, if_neg h2]
  by_cases h3 : gF st 6 < buK (gA st 2 c) (gA st 3 c) + gA st 18 c * (buK (gA st 2 c) (gA st 3 c) / 3)
  · rw [if_pos h3, if_pos h3]
  rw [if_neg h3, if_neg h3]
theorem X11_pressesTo_s {st : MS} (hM : mCon st) {s : Nat} (hs : s < 12) (h0 : isN 12 (gA st 4 0)) (h2 : isN 12 (gA st 4 2)) : X11_pressesTo st (nI s) = some (preP (gA st 4) s, st) := by
  obtain ⟨a, ha, ea⟩ := h0
  obtain ⟨b, hb, eb⟩ := h2
  unfold X11_pressesTo preP
  rw [ic_0, cz_0, ea, X11_alike_s hM hs ha, bnd_s, ic_1, ic_2, cz_2, eb, X11_alike_s hM hs hb, bnd_s, ic_3, nm_s, ic_4, dvi_10, cz_1, cz_3, cz_4, nI_cl ha, nI_cl hb]
theorem X11_holdsOn_l {st : MS} (hM : mCon st) {s : Nat} (hs : s < 12) : ∀ (n i : Nat) (acc : Int32), i + n = 12 → X11_holdsOn_p4 (n + 1) st (nI s) acc (nI i) = some (sumF (hoF (mB st) s) n i acc / 10, st) := by
  intro n
  induction n with
  | zero =>
    intro i acc h
    have h : i = 12 := by omega
    subst h
    rw [X11_holdsOn_p4_s, if_pos n12_t]
    unfold X11_holdsOn_p44
    rw [dvi_10]
    rfl
  | succ n ih =>
    intro i acc h
    have hi : i < 12 := by omega
    rw [X11_holdsOn_p4_s, if_neg (n12_f hi), X11_alike_s hM hi hs, bnd_s, alk_c i s]
    show _ = some (sumF _ n (i + 1) (acc + (if alk s i ≤ 0 then 0 else mB st i * alk s i)) / 10, st)
    unfold X11_holdsOn_p36
    by_cases c : alk s i ≤ 0
    · rw [if_pos c, if_pos c, nm_s, nm_s, nI_1]
      exact ih (i + 1) _ (by omega)
    · rw [if_neg c, if_neg c, X11_bearsOf_s st hi, bnd_s, X11_alike_s hM hi hs, bnd_s, nm_s, nm_s, nI_1, alk_c i s]
      exact ih (i + 1) _ (by omega)
theorem X11_holdsOn_s {st : MS} (hM : mCon st) {s : Nat} (hs : s < 12) : X11_holdsOn st (nI s) = some (hoP (mB st) s, st) := by
  have h := X11_holdsOn_l hM hs 12 0 0 (by decide)
  rw [nI_0] at h
  exact h
theorem X11_lacksOn_s {st : MS} (hM : mCon st) {s : Nat} (hs : s < 12) (h0 : isN 12 (gA st 4 0)) (h2 : isN 12 (gA st 4 2)) : X11_lacksOn st (nI s) = some (lkP (gA st 4) (mB st) s, st) := by
  unfold X11_lacksOn
  rw [X11_pressesTo_s hM hs h0 h2, bnd_s, X11_holdsOn_s hM hs, bnd_s]
  rfl
theorem X11_weakestSide_l {st : MS} (hM : mCon st) (h0 : isN 12 (gA st 4 0)) (h2 : isN 12 (gA st 4 2)) (F : Nat → Int32) (hF : F = lkP (gA st 4) (mB st)) (f : Nat) : ∀ (n i b : Nat), i + n = 12 → b < 12 → X11_weakestSide_p4 (f + n + 1) st (nI b) (nI i) = some (nI (wkL F n i b), st) := by
  intro n
  induction n with
  | zero =>
    intro i b h _
    have h : i = 12 := by omega
    subst h
    rw [X11_weakestSide_p4_s, if_pos n12_t]
    rfl
  | succ n ih =>
    intro i b h hb
    have hi : i < 12 := by omega
    rw [show f + (n + 1) + 1 = (f + n + 1) + 1 from rfl, X11_weakestSide_p4_s, if_neg (n12_f hi), X11_lacksOn_s hM hi h0 h2, bnd_s, X11_lacksOn_s hM hb h0 h2, bnd_s, ← hF]
    show _ = some (nI (if F i ≤ F b then wkL F n (i + 1) b else wkL F n (i + 1) i), st)
    unfold X11_weakestSide_p28
    by_cases c : F i ≤ F b
    · rw [if_pos c, if_pos c, nm_s, nI_1]
      exact ih (i + 1) _ (by omega) hb
    · rw [if_neg c, if_neg c, nm_s, nI_1]
      exact ih (i + 1) _ (by omega) hi
theorem X11_weakestSide_s {st : MS} (hM : mCon st) (h0 : isN 12 (gA st 4 0)) (h2 : isN 12 (gA st 4 2)) : X11_weakestSide st = some (nI (weakF (lkP (gA st 4) (mB st))), st) := by
  have h := X11_weakestSide_l hM h0 h2 _ rfl 1 11 1 0 (by decide) (by decide)
  rw [nI_0] at h
  exact h
theorem X11_fallSide_s {st : MS} (hM : mCon st) (h0 : isN 12 (gA st 4 0)) (h2 : isN 12 (gA st 4 2)) : X11_fallSide st = some (fallF (lkP (gA st 4) (mB st)), st) := by
  unfold X11_fallSide X11_fallSide_p19
  rw [X11_weakestSide_s hM h0 h2, bnd_s, X11_lacksOn_s hM (weakF_lt _) h0 h2, bnd_s, fall_weak]
  by_cases c : lkP (gA st 4) (mB st) (weakF (lkP (gA st 4) (mB st))) ≤ 0
  · rw [if_pos c, if_pos c]
  · rw [if_neg c, if_neg c]
theorem X11_stands_s {st : MS} (hM : mCon st) (h0 : isN 12 (gA st 4 0)) (h2 : isN 12 (gA st 4 2)) : X11_stands st = some ((if fallF (lkP (gA st 4) (mB st)) = -4 then 1 else 0), st) := by
  unfold X11_stands X11_stands_p12
  rw [X11_fallSide_s hM h0 h2, bnd_s]
  rcases fallF_r (lkP (gA st 4) (mB st)) with e | ⟨i, hi, e⟩
  · rw [e, if_neg (by decide), if_pos rfl, gz_1]
  · rw [e, if_pos (nI_pos' (by omega)), if_neg (nI_z (by omega)), gz_0]
theorem X11_settle_s {st : MS} (hM : mCon st) (h0 : isN 12 (gA st 4 0)) (h2 : isN 12 (gA st 4 2)) (h7 : gF st 7 = 0 ∨ gF st 7 = 1) : X11_settle st = some ((), sF st 7 (if gF st 7 = 0 then (if fallF (lkP (gA st 4) (mB st)) = -4 then 0 else 1) else 1)) := by
  unfold X11_settle X11_settle_p15 X11_settle_p20
  by_cases c : gF st 7 = 0
  · rw [if_pos c, if_pos c, X11_stands_s hM h0 h2, bnd_s]
    by_cases d : fallF (lkP (gA st 4) (mB st)) = -4
    · rw [if_pos d, if_neg (by decide), if_pos d, gz_0, nm_s]
    · rw [if_neg d, if_pos rfl, if_neg d, gz_1, nm_s]
  · rw [if_neg c, if_neg c, gz_1, nm_s]
