/-! a Town's questions answer by its numbers -/
theorem X8_alike_s {i j : Nat} (hi : i < 12) (hj : j < 12) : X8_alike (nI i) (nI j) = some (alk i j) := by
  unfold X8_alike
  rw [inr_i hi, inr_i hj, inr_i hi, inr_i hj, nI_cl hi, nI_cl hj]
  rfl
theorem X8_bearsAt_s (ts : MS) (m : Int32) {c : Nat} (hc : c < 12) : X8_bearsAt ts (nI c) m = some (bAt (gA ts 1) (gA ts 2) m c, ts) := by
  unfold X8_bearsAt X8_bearsAt_p25 X8_bearsAt_p31 bAt
  rw [inr_i hc, inr_i hc, inr_i hc, nI_cl hc]
  by_cases h1 : gA ts 2 c = -4
  · rw [if_pos h1, if_pos h1]
  · rw [if_neg h1, if_neg h1]
    by_cases h2 : m < gA ts 2 c
    · rw [if_pos h2, if_pos h2]
    · rw [if_neg h2, if_neg h2]
theorem X8_holdOn_l (ts : MS) (m : Int32) {s : Nat} (hs : s < 12) (F : Nat → Int32) (hF : F = hoF (bAt (gA ts 1) (gA ts 2) m) s) : ∀ (n i : Nat) (acc : Int32), i + n = 12 → X8_holdOn_p5 (n + 1) ts (nI s) m acc (nI i) = some (sumF F n i acc / 10, ts) := by
  intro n
  induction n with
  | zero =>
    intro i acc h
    have h : i = 12 := by omega
    subst h
    rw [X8_holdOn_p5_s, if_pos n12_t]
    unfold X8_holdOn_p44
    rw [dvi_10]
    rfl
  | succ n ih =>
    intro i acc h
    have hi : i < 12 := by omega
    rw [X8_holdOn_p5_s, if_neg (n12_f hi), X8_alike_s hs hi, bd1_s]
    by_cases c : alk s i ≤ 0
    · have e : sumF F (n + 1) i acc = sumF F n (i + 1) acc := by
        show sumF F n (i + 1) (acc + F i) = _
        rw [show F i = 0 by rw [hF]; exact if_pos c, Int32.add_zero]
      rw [if_pos c, e]
      unfold X8_holdOn_p38
      rw [nm_s, nI_1]
      exact ih (i + 1) acc (by omega)
    · have e : sumF F (n + 1) i acc = sumF F n (i + 1) (acc + bAt (gA ts 1) (gA ts 2) m i * alk s i) := by
        show sumF F n (i + 1) (acc + F i) = _
        rw [show F i = bAt (gA ts 1) (gA ts 2) m i * alk s i by rw [hF]; exact if_neg c]
      rw [if_neg c, e, X8_bearsAt_s ts m hi, bnd_s, nm_s]
      unfold X8_holdOn_p38
      rw [nm_s, nI_1]
      exact ih (i + 1) _ (by omega)
theorem X8_holdOn_s (ts : MS) (m : Int32) {s : Nat} (hs : s < 12) : X8_holdOn ts (nI s) m = some (hoP (bAt (gA ts 1) (gA ts 2) m) s, ts) := by
  have h := X8_holdOn_l ts m hs _ rfl 12 0 0 (by decide)
  rw [nI_0] at h
  exact h
theorem X8_pressOn_s (ts : MS) {s : Nat} (hs : s < 12) (h0 : isN 12 (gA ts 3 0)) (h2 : isN 12 (gA ts 3 2)) : X8_pressOn ts (nI s) = some (preP (gA ts 3) s, ts) := by
  obtain ⟨a, ha, ea⟩ := h0
  obtain ⟨b, hb, eb⟩ := h2
  unfold X8_pressOn preP
  rw [ic_0, cz_0, ea, X8_alike_s hs ha, bd1_s, ic_1, ic_2, cz_2, eb, X8_alike_s hs hb, bd1_s, ic_3, nm_s, ic_4, dvi_10, cz_1, cz_3, cz_4, nI_cl ha, nI_cl hb]
theorem X8_lackOn_s (ts : MS) (m : Int32) {s : Nat} (hs : s < 12) (h0 : isN 12 (gA ts 3 0)) (h2 : isN 12 (gA ts 3 2)) : X8_lackOn ts (nI s) m = some (lkT (gA ts 1) (gA ts 2) (gA ts 3) m s, ts) := by
  unfold X8_lackOn
  rw [X8_pressOn_s ts hs h0 h2, bnd_s, X8_holdOn_s ts m hs, bnd_s]
  rfl
theorem X8_fallSideAt_l (ts : MS) (m : Int32) (h0 : isN 12 (gA ts 3 0)) (h2 : isN 12 (gA ts 3 2)) : ∀ (n i : Nat) (fo mo : Int32), i + n = 12 → X8_fallSideAt_p8 (n + 1) ts m fo mo (nI i) = some (flL (lkT (gA ts 1) (gA ts 2) (gA ts 3) m) n i fo mo, ts) := by
  intro n
  induction n with
  | zero =>
    intro i fo mo h
    have h : i = 12 := by omega
    subst h
    rw [X8_fallSideAt_p8_s, if_pos n12_t]
    rfl
  | succ n ih =>
    intro i fo mo h
    have hi : i < 12 := by omega
    rw [X8_fallSideAt_p8_s, if_neg (n12_f hi), X8_lackOn_s ts m hi h0 h2, bnd_s]
    show _ = some ((if lkT (gA ts 1) (gA ts 2) (gA ts 3) m i ≤ mo then flL _ n (i + 1) fo mo else flL _ n (i + 1) (nI i) (lkT (gA ts 1) (gA ts 2) (gA ts 3) m i)), ts)
    unfold X8_fallSideAt_p36
    by_cases c : lkT (gA ts 1) (gA ts 2) (gA ts 3) m i ≤ mo
    · rw [if_pos c, if_pos c, nm_s, nI_1]
      exact ih (i + 1) _ _ (by omega)
    · rw [if_neg c, if_neg c, nm_s, nI_1]
      exact ih (i + 1) _ _ (by omega)
theorem X8_fallSideAt_s (ts : MS) (m : Int32) (h0 : isN 12 (gA ts 3 0)) (h2 : isN 12 (gA ts 3 2)) : X8_fallSideAt ts m = some (flT (gA ts 1) (gA ts 2) (gA ts 3) m, ts) := by
  have h := X8_fallSideAt_l ts m h0 h2 12 0 (-4) 0 (by decide)
  rw [nI_0] at h
  exact h
theorem X8_weakestSide_l (ts : MS) (h0 : isN 12 (gA ts 3 0)) (h2 : isN 12 (gA ts 3 2)) (F : Nat → Int32) (hF : F = lkT (gA ts 1) (gA ts 2) (gA ts 3) (gF ts 8)) (f : Nat) : ∀ (n i b : Nat), i + n = 12 → X8_weakestSide_p14 (f + n + 1) ts (nI b) (F b) (nI i) = some (nI (wkL F n i b), ts) := by
  intro n
  induction n with
  | zero =>
    intro i b h
    have h : i = 12 := by omega
    subst h
    rw [X8_weakestSide_p14_s, if_pos n12_t]
    rfl
  | succ n ih =>
    intro i b h
    have hi : i < 12 := by omega
    rw [show f + (n + 1) + 1 = (f + n + 1) + 1 from rfl, X8_weakestSide_p14_s, if_neg (n12_f hi), X8_lackOn_s ts _ hi h0 h2, bnd_s, ← hF]
    show _ = some (nI (if F i ≤ F b then wkL F n (i + 1) b else wkL F n (i + 1) i), ts)
    unfold X8_weakestSide_p42
    by_cases c : F i ≤ F b
    · rw [if_pos c, if_pos c, nm_s, nI_1]
      exact ih (i + 1) _ (by omega)
    · rw [if_neg c, if_neg c, nm_s, nI_1]
      exact ih (i + 1) _ (by omega)
theorem X8_weakestSide_s (ts : MS) (h0 : isN 12 (gA ts 3 0)) (h2 : isN 12 (gA ts 3 2)) : X8_weakestSide ts = some (nI (weakF (lkT (gA ts 1) (gA ts 2) (gA ts 3) (gF ts 8))), ts) := by
  unfold X8_weakestSide
  have e := X8_lackOn_s ts (gF ts 8) (s := 0) (by decide) h0 h2
  rw [nI_0] at e
  rw [e, bnd_s]
  have h := X8_weakestSide_l ts h0 h2 _ rfl 1 11 1 0 (by decide)
  rw [nI_0] at h
  exact h
theorem X8_greatestLack_s (ts : MS) (h0 : isN 12 (gA ts 3 0)) (h2 : isN 12 (gA ts 3 2)) : X8_greatestLack ts = some (lkT (gA ts 1) (gA ts 2) (gA ts 3) (gF ts 8) (weakF (lkT (gA ts 1) (gA ts 2) (gA ts 3) (gF ts 8))), ts) := by
  unfold X8_greatestLack
  rw [X8_weakestSide_s ts h0 h2, bnd_s, X8_lackOn_s ts _ (weakF_lt _) h0 h2, bnd_s]
def cbF (bu : Nat → Int32) (c : Nat) : Int32 := if bu c = -4 then 0 else 1
def cnF (b : Nat → Int32) (c : Nat) : Int32 := if b c ≤ 0 then 0 else 1
theorem X8_countBurning_l (ts : MS) : ∀ (n i : Nat) (acc : Int32), i + n = 12 → X8_countBurning_p4 (n + 1) ts acc (nI i) = some (sumF (cbF (gA ts 2)) n i acc, ts) := by
  intro n
  induction n with
  | zero =>
    intro i acc h
    have h : i = 12 := by omega
    subst h
    rw [X8_countBurning_p4_s, if_pos n12_t]
    rfl
  | succ n ih =>
    intro i acc h
    have hi : i < 12 := by omega
    rw [X8_countBurning_p4_s, if_neg (n12_f hi), inr_i hi, nI_cl hi]
    show _ = some (sumF _ n (i + 1) (acc + (if gA ts 2 i = -4 then 0 else 1)), ts)
    unfold X8_countBurning_p27
    by_cases c : gA ts 2 i = -4
    · rw [if_pos c, if_pos c, nm_s, nm_s, nI_1]
      exact ih (i + 1) _ (by omega)
    · rw [if_neg c, if_neg c, nm_s, nm_s, nI_1]
      exact ih (i + 1) _ (by omega)
theorem X8_countBurning_s (ts : MS) : X8_countBurning ts = some (sumF (cbF (gA ts 2)) 12 0 0, ts) := by
  have h := X8_countBurning_l ts 12 0 0 (by decide)
  rw [nI_0] at h
  exact h
theorem X8_countBearing_l (ts : MS) (m : Int32) (F : Nat → Int32) (hF : F = bAt (gA ts 1) (gA ts 2) m) : ∀ (n i : Nat) (acc : Int32), i + n = 12 → X8_countBearing_p4 (n + 1) ts m acc (nI i) = some (sumF (cnF F) n i acc, ts) := by
  intro n
  induction n with
  | zero =>
    intro i acc h
    have h : i = 12 := by omega
    subst h
    rw [X8_countBearing_p4_s, if_pos n12_t]
    rfl
  | succ n ih =>
    intro i acc h
    have hi : i < 12 := by omega
    rw [X8_countBearing_p4_s, if_neg (n12_f hi), X8_bearsAt_s ts m hi, bnd_s, ← hF]
    show _ = some (sumF _ n (i + 1) (acc + (if F i ≤ 0 then 0 else 1)), ts)
    unfold X8_countBearing_p25
    by_cases c : F i ≤ 0
    · rw [if_pos c, if_pos c, nm_s, nm_s, nI_1]
      exact ih (i + 1) _ (by omega)
    · rw [if_neg c, if_neg c, nm_s, nm_s, nI_1]
      exact ih (i + 1) _ (by omega)
theorem X8_countBearing_s (ts : MS) (m : Int32) : X8_countBearing ts m = some (sumF (cnF (bAt (gA ts 1) (gA ts 2) m)) 12 0 0, ts) := by
  have h := X8_countBearing_l ts m _ rfl 12 0 0 (by decide)
  rw [nI_0] at h
  exact h
theorem X8_allBears_l (ts : MS) (F : Nat → Int32) (hF : F = bAt (gA ts 1) (gA ts 2) (gF ts 8)) : ∀ (n i : Nat) (acc : Int32), i + n = 12 → X8_allBears_p4 (n + 1) ts acc (nI i) = some (sumF F n i acc, ts) := by
  intro n
  induction n with
  | zero =>
    intro i acc h
    have h : i = 12 := by omega
    subst h
    rw [X8_allBears_p4_s, if_pos n12_t]
    rfl
  | succ n ih =>
    intro i acc h
    have hi : i < 12 := by omega
    rw [X8_allBears_p4_s, if_neg (n12_f hi), X8_bearsAt_s ts _ hi, bnd_s, ← hF, nm_s, nm_s, nI_1]
    exact ih (i + 1) _ (by omega)
theorem X8_allBears_s (ts : MS) : X8_allBears ts = some (sumF (bAt (gA ts 1) (gA ts 2) (gF ts 8)) 12 0 0, ts) := by
  have h := X8_allBears_l ts _ rfl 12 0 0 (by decide)
  rw [nI_0] at h
  exact h
theorem X8_isDown_s (ts : MS) : X8_isDown ts = some ((if gF ts 9 = -4 then 0 else 1), ts) := by
  unfold X8_isDown X8_isDown_p14
  by_cases c : gF ts 9 = -4
  · rw [if_pos c, if_pos c, gz_0]
  · rw [if_neg c, if_neg c, gz_1]
/-! minutes ahead -/
theorem X8_burnsOutAt_l (ts : MS) (m : Int32) : ∀ (n i : Nat), i + n = 12 → ∃ y, X8_burnsOutAt_p2 (n + 1) ts m (nI i) = some (y, ts) ∧ (y = 0 → ∀ c, i ≤ c → c < 12 → ¬ gA ts 2 c = m) := by
  intro n
  induction n with
  | zero =>
    intro i h
    have h : i = 12 := by omega
    subst h
    refine ⟨0, ?_, fun _ c h1 h2 => by omega⟩
    rw [X8_burnsOutAt_p2_s, if_pos n12_t, gz_0]
  | succ n ih =>
    intro i h
    have hi : i < 12 := by omega
    rw [X8_burnsOutAt_p2_s, if_neg (n12_f hi), inr_i hi, nI_cl hi]
    by_cases c : gA ts 2 i = m
    · exact ⟨1, by rw [if_pos c, gz_1], fun h => absurd h (by decide)⟩
    · rw [if_neg c, nm_s, nI_1]
      obtain ⟨y, h1, h2⟩ := ih (i + 1) (by omega)
      refine ⟨y, h1, fun hy j h3 h4 => ?_⟩
      by_cases e : j = i
      · rw [e]; exact c
      · exact h2 hy j (by omega) h4
theorem X8_burnsOutAt_s (ts : MS) (m : Int32) : ∃ y, X8_burnsOutAt ts m = some (y, ts) ∧ (y = 0 → ∀ c, c < 12 → ¬ gA ts 2 c = m) := by
  obtain ⟨y, h1, h2⟩ := X8_burnsOutAt_l ts m 12 0 (by decide)
  rw [nI_0] at h1
  exact ⟨y, h1, fun hy c hc => h2 hy c (Nat.zero_le _) hc⟩
/-- how many minutes on it falls first (g k: where it falls k minutes on), and where to -/
def faL (g : Nat → Int32) : Nat → Nat → Int32
  | 0, _ => -4
  | n + 1, k => if g k = -4 then faL g n (k + 1) else nI k
def faS (g : Nat → Int32) : Nat → Nat → Int32
  | 0, _ => -4
  | n + 1, k => if g k = -4 then faS g n (k + 1) else g k
theorem fa_r (g : Nat → Int32) : ∀ n k : Nat, (faL g n k = -4 ∧ faS g n k = -4 ∧ ∀ j, k ≤ j → j < k + n → g j = -4) ∨ ∃ j, k ≤ j ∧ j < k + n ∧ faL g n k = nI j ∧ faS g n k = g j ∧ ¬ g j = -4 ∧ ∀ i, k ≤ i → i < j → g i = -4 := by
  intro n
  induction n with
  | zero => intro k; exact Or.inl ⟨rfl, rfl, fun j h1 h2 => by omega⟩
  | succ n ih =>
    intro k
    by_cases c : g k = -4
    · rw [show faL g (n + 1) k = faL g n (k + 1) from if_pos c, show faS g (n + 1) k = faS g n (k + 1) from if_pos c]
      rcases ih (k + 1) with ⟨h1, h2, h3⟩ | ⟨j, h1, h2, h3, h4, h5, h6⟩
      · refine Or.inl ⟨h1, h2, fun j g1 g2 => ?_⟩
        by_cases e : j = k
        · rw [e]; exact c
        · exact h3 j (by omega) (by omega)
      · refine Or.inr ⟨j, by omega, by omega, h3, h4, h5, fun i g1 g2 => ?_⟩
        by_cases e : i = k
        · rw [e]; exact c
        · exact h6 i (by omega) g2
    · exact Or.inr ⟨k, by omega, by omega, if_neg c, if_neg c, c, fun i h1 h2 => by omega⟩
theorem bAt_step {be bu : Nat → Int32} {a : Nat} (ha : a + 1 < 2 ^ 31) {c : Nat} (h : ¬ bu c = nI (a + 1)) : bAt be bu (nI (a + 1)) c = bAt be bu (nI a) c := by
  unfold bAt
  by_cases h1 : bu c = -4
  · rw [if_pos h1, if_pos h1]
  · rw [if_neg h1, if_neg h1]
    rw [i_eq, nI_toInt ha] at h
    by_cases h2 : nI a < bu c
    · rw [if_pos h2, if_pos ?_]
      rw [i_lt, nI_toInt (by omega)] at h2
      rw [i_lt, nI_toInt ha]
      omega
    · rw [if_neg h2, if_neg ?_]
      rw [i_lt, nI_toInt (by omega)] at h2
      rw [i_lt, nI_toInt ha]
      omega
theorem X8_fallAfter_l (ts : MS) (h0 : isN 12 (gA ts 3 0)) (h2 : isN 12 (gA ts 3 2)) {a M : Nat} (ha : gF ts 8 = nI a) (hb : a + M < 2 ^ 30) (g : Nat → Int32) (hg : g = fun k => flT (gA ts 1) (gA ts 2) (gA ts 3) (nI (a + k))) (f : Nat) : ∀ (n k : Nat), k + n = M + 1 → (k = 0 ∨ g (k - 1) = -4) → X8_fallAfter_p2 (f + n + 1) ts (nI M) (nI k) = some (faL g n k, ts) := by
  intro n
  induction n with
  | zero =>
    intro k h hp
    rw [X8_fallAfter_p2_s, if_pos (nI_lt (by omega) (by omega))]
    rfl
  | succ n ih =>
    intro k h hp
    have hm : gF ts 8 + nI k = nI (a + k) := by rw [ha, nI_add]
    have hgk : g k = flT (gA ts 1) (gA ts 2) (gA ts 3) (nI (a + k)) := by rw [hg]
    rw [show f + (n + 1) + 1 = (f + n + 1) + 1 from rfl, X8_fallAfter_p2_s, if_neg (nI_nlt (by omega) (by omega))]
    have h3 : ∀ (t0 : Int32), ¬ t0 = 0 → X8_fallAfter_p29 (fun st v1 v2 => X8_fallAfter_p2 (f + n + 1) st v1 v2) ts (nI M) (nI k) t0 = some (faL g (n + 1) k, ts) := fun t0 ht => by
      unfold X8_fallAfter_p29 X8_fallAfter_p51 X8_fallAfter_p49
      rw [if_neg ht, hm, X8_fallSideAt_s ts _ h0 h2, bnd_s, ← hgk]
      show _ = some ((if g k = -4 then faL g n (k + 1) else nI k), ts)
      by_cases c : g k = -4
      · rw [if_pos c, if_pos c, nm_s, nI_1]
        exact ih (k + 1) (by omega) (Or.inr c)
      · rw [if_neg c, if_neg c]
    unfold X8_fallAfter_p24
    by_cases hk : nI k = 0
    · rw [if_pos hk]
      exact h3 1 (by decide)
    · rw [if_neg hk, hm]
      obtain ⟨y, hy1, hy2⟩ := X8_burnsOutAt_s ts (nI (a + k))
      rw [hy1, bnd_s]
      by_cases hy : y = 0
      · rw [if_pos hy]
        have k0 : k ≠ 0 := fun e => hk (by rw [e, nI_0])
        have gk : g k = -4 := by
          rcases hp with hp | hp
          · exact absurd hp k0
          · rw [← hp, hg]
            refine fallF_c fun s _ => lkP_c (fun _ _ => rfl) (fun c hc => ?_) s
            obtain ⟨j, rfl⟩ : ∃ j, k = j + 1 := ⟨k - 1, by omega⟩
            exact bAt_step (a := a + j) (by omega) (hy2 hy c hc)
        unfold X8_fallAfter_p29 X8_fallAfter_p51
        rw [if_pos rfl, nm_s, nI_1, show faL g (n + 1) k = faL g n (k + 1) from if_pos gk]
        exact ih (k + 1) (by omega) (Or.inr gk)
      · rw [if_neg hy]
        exact h3 1 (by decide)
theorem X8_fallAfter_s (ts : MS) (h0 : isN 12 (gA ts 3 0)) (h2 : isN 12 (gA ts 3 2)) {a : Nat} (ha : gF ts 8 = nI a) (hb : a < 1000) : X8_fallAfter ts (60 : Int32) = some (faL (fun k => flT (gA ts 1) (gA ts 2) (gA ts 3) (nI (a + k))) 61 0, ts) := by
  have h := X8_fallAfter_l ts h0 h2 (M := 60) ha (by omega) _ rfl 4938 61 0 (by decide) (Or.inl rfl)
  rw [nI_0] at h
  exact h
theorem X8_fallToLaneAfter_s (ts : MS) (h0 : isN 12 (gA ts 3 0)) (h2 : isN 12 (gA ts 3 2)) {a : Nat} (ha : gF ts 8 = nI a) (hb : a < 1000) (g : Nat → Int32) (hg : g = fun k => flT (gA ts 1) (gA ts 2) (gA ts 3) (nI (a + k))) (h6 : isN 12 (gA ts 3 6)) :
    X8_fallToLaneAfter ts = some ((if faS g 61 0 = gA ts 3 6 then faL g 61 0 else -4), ts) := by
  have h4 : ¬ gA ts 3 6 = -4 := by
    obtain ⟨i, hi, e⟩ := h6
    rw [e]
    exact nI_z (by omega)
  unfold X8_fallToLaneAfter X8_fallToLaneAfter_p39
  rw [X8_fallAfter_s ts h0 h2 ha hb, ← hg, bnd_s]
  rcases fa_r g 61 0 with ⟨e1, e2, _⟩ | ⟨j, h1, h3, e1, e2, h5, _⟩
  · rw [e1, e2, if_pos rfl, if_neg (fun e => h4 e.symm)]
  · rw [e1, if_neg (nI_z (by omega)), ha, nI_add, X8_fallSideAt_s ts _ h0 h2, bnd_s, ic_6, cz_6, e2]
    have e3 : g j = flT (gA ts 1) (gA ts 2) (gA ts 3) (nI (a + j)) := by rw [hg]
    rw [e3]
    by_cases c : flT (gA ts 1) (gA ts 2) (gA ts 3) (nI (a + j)) = gA ts 3 6
    · rw [if_pos c, if_pos c]
    · rw [if_neg c, if_neg c]
