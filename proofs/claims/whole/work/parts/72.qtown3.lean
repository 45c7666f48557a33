/-! fire, minutes, a new foot, the image, what is counted -/
def aLit (A : AT) : AT := ((1, aM A, aD A, aH A), A.2)
theorem okD_lit {A : AT} (h : okD A) : okD (aLit A) := by
  obtain ⟨⟨h1, h2, h3, h4, h5, h6, h7⟩, hD⟩ := h
  exact ⟨⟨Or.inr rfl, h2, h3, h4, h5, h6, fun q => absurd q n10⟩, hD⟩
theorem X8_kindle_s {A : AT} {ts : MS} {B : Nat → BK} (hc : ct A ts B) (hA : okD A) (h9 : gF ts 9 = aFall A (aM A)) : X8_kindle ts = if aL A = 0 ∧ aD A = 0 then some (1, sF ts 7 1) else some (0, ts) := by
  unfold X8_kindle
  rw [hc.L, X8_isDown_a hA h9, bnd_s]
  by_cases c : aL A = 0
  · rw [if_pos c]
    by_cases d : aD A = 0
    · rw [if_pos d, if_pos ⟨c, d⟩, gz_1, nm_s, gz_1]
    · rw [if_neg d, if_neg (fun q => d q.2), gz_0]
  · rw [if_neg c, if_neg (fun q => c q.1), gz_0]
theorem X11_light_l {A : AT} {st : MS} (hR : mR A st) {N : Nat} (hok : okB N A) : ∀ (n i : Nat) (acc : Int32), i + n = 12 → X11_light_p35 (n + 1) st acc (nI i) = some (sumF (cbF (aBu A)) n i acc, st) := by
  intro n
  induction n with
  | zero =>
    intro i acc h
    have h : i = 12 := by omega
    subst h
    rw [X11_light_p35_s, if_pos n12_t]
    rfl
  | succ n ih =>
    intro i acc h
    have hi : i < 12 := by omega
    rw [X11_light_p35_s, if_neg (n12_f hi), X11_burnsOf_a hR hi, bnd_s]
    show _ = some (sumF _ n (i + 1) (acc + (if aBu A i = -4 then 0 else 1)), st)
    unfold X11_light_p55
    have hr : aBu A i = -4 ∨ ∃ b, 2 ≤ b ∧ b < 45 ∧ aBu A i = nI b := buK_r (hok.KF hi).2
    rcases hr with e | ⟨b, hb1, hb2, e⟩
    · rw [e, if_neg (by decide), if_pos rfl, nm_s, nm_s, nI_1]
      exact ih (i + 1) _ (by omega)
    · rw [e, if_pos (nI_pos' (by omega)), if_neg (nI_z (by omega)), nm_s, nm_s, nI_1]
      exact ih (i + 1) _ (by omega)
theorem aSet_id {A : AT} (hA : okD A) : aSet A = A := by
  have e : (if aD A = 0 then (if aFall A (aM A) = -4 then 0 else 1) else 1) = aD A := by
    rw [← hA.2]
    rcases hA.D with c | c
    · rw [c, if_pos rfl]
    · rw [c, if_neg n10]
  unfold aSet
  rw [e]
  rfl
theorem qm_light {xs : XS} {ms : MS} (h : RR xs ms) : Cm (X10_light xs) (X11_light ms) := by
  have h' := RR_17 h 0
  obtain ⟨A, hA, hc, h9, hR⟩ := h'.1
  unfold X10_light X10_light_p22 X11_light
  rw [nm_s (sF ms 17 0), X8_kindle_s hc hA h9, hR.2.2.L, hR.2.2.D]
  by_cases c : aL A = 0
  · rw [if_pos c]
    by_cases d : aD A = 0
    · rw [if_pos ⟨c, d⟩, if_pos d, bnd_s, nm_s, if_neg n10, gz_1, nm_s]
      have hm1 : mt (aLit A) (sF (sF ms 17 0) 5 1) := by
        obtain ⟨m1, m2, m3, m4, m5, m6, m7⟩ := hR.2.2
        exact ⟨rfl, m2, m3, m4, m5, m6, m7⟩
      have hf1 : FR (sF ms 17 0) (sF (sF ms 17 0) 5 1) := FR_sF _ (by decide) _
      have hL := okD_lit hA
      have hR1 := FR_mR hR hf1 hm1
      have hc1 : ct (aLit A) (sF (xT xs 0) 7 1) (xB xs 0) := by
        obtain ⟨c1, c2, c3, c4, c5, c6⟩ := hc
        exact ⟨c1, c2, c3, c4, rfl, c6⟩
      obtain ⟨s2, e2, m2, g1, g2, g3⟩ := X11_settle_a hR1 hL.1 (Or.inl d)
      rw [aSet_id hL] at m2
      have hf2 : FR (sF ms 17 0) s2 := hf1.tr ⟨fun k _ => g1 k, g2 16, g3 28 (by decide)⟩
      have hR2 := FR_mR hR hf2 m2
      have lp := X11_light_l hR2 hL.1 12 0 0 (by decide)
      rw [nI_0] at lp
      rw [e2, bnd_s, lp, show X8_countBurning (xT (uT xs 0 (sF (xT xs 0) 7 1)) 0) = some (sumF (cbF (aBu (aLit A))) 12 0 0, sF (xT xs 0) 7 1) from X8_countBurning_a hc1, bnd_s, nm_s]
      refine ⟨_, _, _, rfl, rfl, ?_⟩
      exact RR_n h' (A := aLit A) hL (xs' := uT (uT xs 0 (sF (xT xs 0) 7 1)) 0 (sF (xT xs 0) 7 1)) hc1 h9 m2 ((FX_u0 _ _).tr (FX_u0 _ _)) hf2
    · rw [if_neg (fun q => d q.2), if_neg d, bnd_s, uT_self, nm_s, if_pos rfl]
      exact ⟨_, _, _, rfl, rfl, h'⟩
  · rw [if_neg (fun q => c q.1), if_neg c, bnd_s, uT_self, nm_s, if_pos rfl]
    exact ⟨_, _, _, rfl, rfl, h'⟩
/-! minutes go by -/
def aMin (A : AT) (m : Int32) : AT := ((aL A, m, aD A, aH A), A.2)
theorem okA_min {A : AT} (h : okA A) {m : Nat} (hm : m < 1000) (hL : ¬ aL A = 0) : okA (aMin A (nI m)) := by
  obtain ⟨h1, h2, h3, h4, h5, h6, h7⟩ := h
  exact ⟨h1, ⟨m, hm, rfl⟩, h3, h4, h5, h6, fun q => absurd q hL⟩
theorem go_l (B : Nat → BK) (N : Nat) (hN : N < 100) (f1 f2 : Nat) : ∀ (n i : Nat) (A : AT) (ts st : MS), i + n = N → okD A → ct A ts B → gF ts 9 = aFall A (aM A) → mR A st → ¬ aL A = 0 → (∃ a, aM A = nI a ∧ a + n < 1000) →
    ∃ A' ts' st', X8_passes_p35 (f1 + n + 1) ts (nI N) (nI i) = some (1, ts') ∧ X11_goMinutes_p2 (f2 + n + 1) st (nI N) (nI i) = some ((), st') ∧ okD A' ∧ ct A' ts' B ∧ gF ts' 9 = aFall A' (aM A') ∧ mt A' st' ∧ FR st st' ∧ (∀ k, k ≠ 6 → k ≠ 7 → gF st' k = gF st k) ∧ (∀ k, gA st' k = gA st k) := by
  intro n
  induction n with
  | zero =>
    intro i A ts st h hA hc h9 hR hL hM
    refine ⟨A, ts, st, ?_, ?_, hA, hc, h9, hR.2.2, FR.rf, fun _ _ _ => rfl, fun _ => rfl⟩
    · rw [X8_passes_p35_s, if_pos (nI_le (by omega) (by omega)), gz_1]
    · rw [X11_goMinutes_p2_s, if_pos (nI_le (by omega) (by omega))]
      rfl
  | succ n ih =>
    intro i A ts st h hA hc h9 hR hL hM
    obtain ⟨a, ha, hb⟩ := hM
    rw [show f1 + (n + 1) + 1 = (f1 + n + 1) + 1 from rfl, show f2 + (n + 1) + 1 = (f2 + n + 1) + 1 from rfl, X8_passes_p35_s, if_neg (nI_ge (by omega) (by omega)), X11_goMinutes_p2_s, if_neg (nI_ge (by omega) (by omega)), X8_isDown_a hA h9, bnd_s, hR.2.2.D]
    by_cases d : aD A = 0
    · rw [if_pos d, if_pos d, nm_s, hc.M, ha, nI_1, nm_s, hR.2.2.M, ha, nI_1]
      have okm : okA (aMin A (nI (a + 1))) := okA_min hA.1 (by omega) hL
      have hc1 : ct (aMin A (nI (a + 1))) (sF ts 8 (nI (a + 1))) B := by
        obtain ⟨c1, c2, c3, c4, c5, c6⟩ := hc
        exact ⟨c1, c2, c3, c4, c5, rfl⟩
      have hm1 : mt (aMin A (nI (a + 1))) (sF st 6 (nI (a + 1))) := by
        obtain ⟨m1, m2, m3, m4, m5, m6, m7⟩ := hR.2.2
        exact ⟨m1, rfl, m3, m4, m5, m6, m7⟩
      have hf1 : FR st (sF st 6 (nI (a + 1))) := FR_sF _ (by decide) _
      obtain ⟨s2, e2, m2, g1, g2, g3⟩ := X11_settle_a (FR_mR hR hf1 hm1) okm (Or.inl d)
      have hf2 : FR st s2 := hf1.tr ⟨fun k _ => g1 k, g2 16, g3 28 (by decide)⟩
      rw [show gF (sF ts 8 (nI (a + 1))) 8 = nI (a + 1) from rfl, X8_fallSideAt_a hc1 okm, bnd_s, nm_s, nm_s, nI_1, e2, bnd_s, nm_s]
      obtain ⟨A', t', s', p1, p2, p3, p4, p5, p6, p7, p8, p9⟩ := ih (i + 1) (aSet (aMin A (nI (a + 1)))) (sF (sF ts 8 (nI (a + 1))) 9 (aFall (aMin A (nI (a + 1))) (nI (a + 1)))) s2 (by omega) (okD_set okm d) hc1 rfl (FR_mR hR hf2 m2) hL ⟨a + 1, rfl, by omega⟩
      refine ⟨A', t', s', p1, p2, p3, p4, p5, p6, hf2.tr p7, fun k k6 k7 => ?_, fun k => ?_⟩
      · rw [p8 k k6 k7, g3 k k7, gF_sF, if_neg k6]
      · rw [p9 k, g1 k]; rfl
    · rw [if_neg d, if_neg d, gz_1]
      exact ⟨A, ts, st, rfl, rfl, hA, hc, h9, hR.2.2, FR.rf, fun _ _ _ => rfl, fun _ => rfl⟩
theorem mAdd {a n : Nat} (ha : a < 1000) (hn : n < 100) : (nI a + nI n ≤ (999 : Int32)) ↔ a + n < 1000 := by
  rw [nI_add]
  constructor
  · intro h
    rw [i_le, nI_toInt (by omega), show (999 : Int32).toInt = 999 from rfl] at h
    omega
  · intro h
    exact nI_le (a := a + n) (b := 999) (by omega) (by decide)
theorem pass_a {xs : XS} {ms : MS} {A : AT} (hA : okD A) (hc : ct A (xT xs 0) (xB xs 0)) (h9 : gF (xT xs 0) 9 = aFall A (aM A)) (hR : mR A ms) {n : Nat} (h1 : 0 < n) (hn : n < 100) (B : Nat → BK) {ts : MS} (hct : ct A ts B) (ht9 : gF ts 9 = aFall A (aM A)) :
    (aL A = 0 ∨ ¬ aD A = 0 ∨ ¬ gF ms 6 + nI n ≤ 999 → X8_passes ts (nI n) = some (0, ts)) ∧
    (¬ aL A = 0 → aD A = 0 → gF ms 6 + nI n ≤ 999 → ∃ A' ts' st', X8_passes ts (nI n) = some (1, ts') ∧ X11_goMinutes ms (nI n) = some ((), st') ∧ okD A' ∧ ct A' ts' B ∧ gF ts' 9 = aFall A' (aM A') ∧ mt A' st' ∧ FR ms st' ∧ (∀ k, k ≠ 6 → k ≠ 7 → gF st' k = gF ms k) ∧ (∀ k, gA st' k = gA ms k)) := by
  have l1 : ¬ nI n < 1 := nI_nlt (a := n) (b := 1) (by omega) (by omega)
  obtain ⟨a, ha, ea⟩ := hA.1.M
  constructor
  · intro q
    unfold X8_passes
    rw [if_neg l1, hct.L, X8_isDown_a hA ht9, bnd_s, hct.M]
    by_cases c : aL A = 0
    · rw [if_pos c, gz_0]
    rw [if_neg c]
    by_cases d : aD A = 0
    · rw [if_pos d, if_neg (by
        rcases q with q | q | q
        · exact absurd q c
        · exact absurd d q
        · rw [← hR.2.2.M]; exact q), gz_0]
    · rw [if_neg d, gz_0]
  · intro c d q
    rw [hR.2.2.M, ea] at q
    have hs := (mAdd ha hn).mp q
    obtain ⟨A', t', s', p1, p2, p3⟩ := go_l B n hn (4999 - n) (4999 - n) n 0 A ts ms (by omega) hA hct ht9 hR c ⟨a, ea, by omega⟩
    rw [show 4999 - n + n + 1 = 5000 by omega, nI_0] at p1 p2
    refine ⟨A', t', s', ?_, p2, p3⟩
    unfold X8_passes
    rw [if_neg l1, hct.L, if_neg c, X8_isDown_a hA ht9, bnd_s, if_pos d, hct.M, ea, if_pos q]
    exact p1
theorem qm_minutes {xs : XS} {ms : MS} (h : RR xs ms) (v : Int32) : Cm (X10_minutes xs v) (X11_minutes ms v) := by
  have h' := RR_17 h 0
  obtain ⟨A, hA, hc, h9, hR⟩ := h'.1
  unfold X10_minutes X10_minutes_p36 X11_minutes
  rw [nm_s (sF ms 17 0)]
  by_cases v1 : v < 1
  · rw [if_pos v1, X11_in_f (lo := 1) (hi := 99) (by decide) (by decide) (Or.inl v1), bd1_s, if_pos rfl]
    exact ⟨_, _, _, rfl, rfl, h'⟩
  rw [if_neg v1]
  by_cases v2 : v ≤ 99
  · rw [if_pos v2, X11_in_t (lo := 1) (hi := 99) (by decide) (by decide) (Int32.not_lt.mp v1) v2, bd1_s, if_neg n10, hR.2.2.L, hR.2.2.D]
    obtain ⟨n, hn, e⟩ := nI_of2 (M := 99) (n := 99) (x := v) (by decide) (fun q => v1 (by rw [i_lt] at q ⊢; rw [t_0] at q; rw [show (1 : Int32).toInt = 1 from rfl]; omega)) v2
    subst e
    have n0 : 0 < n := by
      rcases Nat.eq_zero_or_pos n with e | e
      · exact absurd (by rw [e]; decide) v1
      · exact e
    obtain ⟨q1, q2⟩ := pass_a hA hc h9 hR n0 (by omega) (xB xs 0) hc h9
    by_cases c : aL A = 0
    · rw [q1 (Or.inl c), bnd_s, uT_self, nm_s, if_pos rfl, if_pos c]
      exact ⟨_, _, _, rfl, rfl, h'⟩
    rw [if_neg c]
    by_cases d : aD A = 0
    · rw [if_pos d]
      by_cases l : gF (sF ms 17 0) 6 + nI n ≤ 999
      · obtain ⟨A', t', s', p1, p2, p3, p4, p5, p6, p7, _⟩ := q2 c d l
        rw [p1, bnd_s, nm_s, if_neg n10, if_pos l, p2, bnd_s]
        refine ⟨_, _, _, rfl, ?_, RR_n h' p3 (xs' := uT xs 0 t') p4 p5 p6 (FX_u0 _ _) p7⟩
        rw [p6.M, show gF (xT (uT xs 0 t') 0) 8 = aM A' from p4.M]
      · rw [q1 (Or.inr (Or.inr l)), bnd_s, uT_self, nm_s, if_pos rfl, if_neg l]
        exact ⟨_, _, _, rfl, rfl, h'⟩
    · rw [q1 (Or.inr (Or.inl d)), bnd_s, uT_self, nm_s, if_pos rfl, if_neg d]
      exact ⟨_, _, _, rfl, rfl, h'⟩
  · rw [if_neg v2, X11_in_f (lo := 1) (hi := 99) (by decide) (by decide) (Or.inr (Int32.not_le.mp v2)), bd1_s, if_pos rfl]
    exact ⟨_, _, _, rfl, rfl, h'⟩
