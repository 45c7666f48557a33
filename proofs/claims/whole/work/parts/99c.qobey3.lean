/-! a town obeys: the fire, the minutes, the houses, the cells -/
theorem go_L (B : Nat → BK) (N : Nat) (hN : N < 100) (f1 f2 : Nat) : ∀ (n i : Nat) (A : AT) (ts st : MS), i + n = N → okD A → ct A ts B → gF ts 9 = aFall A (aM A) → mR A st → ¬ aL A = 0 → (∃ a, aM A = nI a ∧ a + n < 1000) →
    ∃ A' ts' st', X8_passes_p35 (f1 + n + 1) ts (nI N) (nI i) = some (1, ts') ∧ X11_goMinutes_p2 (f2 + n + 1) st (nI N) (nI i) = some ((), st') ∧ okD A' ∧ ct A' ts' B ∧ gF ts' 9 = aFall A' (aM A') ∧ mt A' st' ∧ FR st st' ∧ (∀ k, k ≠ 6 → k ≠ 7 → gF st' k = gF st k) ∧ (∀ k, gA st' k = gA st k) ∧ (∀ k, gL st' k = gL st k) := by
  intro n
  induction n with
  | zero =>
    intro i A ts st h hA hc h9 hR hL hM
    refine ⟨A, ts, st, ?_, ?_, hA, hc, h9, hR.2.2, FR.rf, fun _ _ _ => rfl, fun _ => rfl, fun _ => rfl⟩
    · rw [X8_passes_p35_s, if_pos (nI_le (by omega) (by omega)), gz_1]
    · rw [X11_goMinutes_p2_s, if_pos (nI_le (by omega) (by omega))]
      rfl
  | succ n ih =>
    intro i A ts st h hA hc h9 hR hL hM
    obtain ⟨a, ha, hb⟩ := hM
    rw [show f1 + (n + 1) + 1 = (f1 + n + 1) + 1 from rfl, show f2 + (n + 1) + 1 = (f2 + n + 1) + 1 from rfl, X8_passes_p35_s, if_neg (nI_ge (by omega) (by omega)), X11_goMinutes_p2_s, if_neg (nI_ge (by omega) (by omega)), X8_isDown_a hA h9, bnd_s, hR.2.2.D]
    by_cases d : aD A = 0
    · rw [if_pos d, if_pos d, nm_s, hc.M, ha, nI_1, nm_s, hR.2.2.M, ha, nI_1]
      have okm : okA (aMin A (nI (a + 1))) := okA_min hA.1 (by omega) hL
      have hc1 : ct (aMin A (nI (a + 1))) (sF ts 8 (nI (a + 1))) B := by
        obtain ⟨c1, c2, c3, c4, c5, c6⟩ := hc
        exact ⟨c1, c2, c3, c4, c5, rfl⟩
      have hm1 : mt (aMin A (nI (a + 1))) (sF st 6 (nI (a + 1))) := by
        obtain ⟨m1, m2, m3, m4, m5, m6, m7⟩ := hR.2.2
        exact ⟨m1, rfl, m3, m4, m5, m6, m7⟩
      have hf1 : FR st (sF st 6 (nI (a + 1))) := FR_sF _ (by decide) _
      obtain ⟨s2, e2, m2, g1, g2, g3⟩ := X11_settle_a (FR_mR hR hf1 hm1) okm (Or.inl d)
      have hf2 : FR st s2 := hf1.tr ⟨fun k _ => g1 k, g2 16, g3 28 (by decide)⟩
      rw [show gF (sF ts 8 (nI (a + 1))) 8 = nI (a + 1) from rfl, X8_fallSideAt_a hc1 okm, bnd_s, nm_s, nm_s, nI_1, e2, bnd_s, nm_s]
      obtain ⟨A', t', s', p1, p2, p3, p4, p5, p6, p7, p8, p9, p10⟩ := ih (i + 1) (aSet (aMin A (nI (a + 1)))) (sF (sF ts 8 (nI (a + 1))) 9 (aFall (aMin A (nI (a + 1))) (nI (a + 1)))) s2 (by omega) (okD_set okm d) hc1 rfl (FR_mR hR hf2 m2) hL ⟨a + 1, rfl, by omega⟩
      refine ⟨A', t', s', p1, p2, p3, p4, p5, p6, hf2.tr p7, fun k k6 k7 => ?_, fun k => ?_, fun k => (p10 k).trans (g2 k)⟩
      · rw [p8 k k6 k7, g3 k k7, gF_sF, if_neg k6]
      · rw [p9 k, g1 k]; rfl
    · rw [if_neg d, if_neg d, gz_1]
      exact ⟨A, ts, st, rfl, rfl, hA, hc, h9, hR.2.2, FR.rf, fun _ _ _ => rfl, fun _ => rfl, fun _ => rfl⟩
theorem pass_A {ms : MS} {A : AT} (hA : okD A) (hR : mR A ms) {n : Nat} (h1 : 0 < n) (hn : n < 100) (B : Nat → BK) {ts : MS} (hct : ct A ts B) (ht9 : gF ts 9 = aFall A (aM A)) :
    (aL A = 0 ∨ ¬ aD A = 0 ∨ ¬ gF ms 6 + nI n ≤ 999 → X8_passes ts (nI n) = some (0, ts)) ∧
    (¬ aL A = 0 → aD A = 0 → gF ms 6 + nI n ≤ 999 → ∃ A' ts' st', X8_passes ts (nI n) = some (1, ts') ∧ X11_goMinutes ms (nI n) = some ((), st') ∧ okD A' ∧ ct A' ts' B ∧ gF ts' 9 = aFall A' (aM A') ∧ mt A' st' ∧ FR ms st' ∧ (∀ k, k ≠ 6 → k ≠ 7 → gF st' k = gF ms k) ∧ (∀ k, gA st' k = gA ms k) ∧ (∀ k, gL st' k = gL ms k)) := by
  have l1 : ¬ nI n < 1 := nI_nlt (a := n) (b := 1) (by omega) (by omega)
  obtain ⟨a, ha, ea⟩ := hA.1.M
  constructor
  · intro q
    unfold X8_passes
    rw [if_neg l1, hct.L, X8_isDown_a hA ht9, bnd_s, hct.M]
    by_cases c : aL A = 0
    · rw [if_pos c, gz_0]
    rw [if_neg c]
    by_cases d : aD A = 0
    · rw [if_pos d, if_neg (by
        rcases q with q | q | q
        · exact absurd q c
        · exact absurd d q
        · rw [← hR.2.2.M]; exact q), gz_0]
    · rw [if_neg d, gz_0]
  · intro c d q
    rw [hR.2.2.M, ea] at q
    have hs := (mAdd ha hn).mp q
    obtain ⟨A', t', s', p1, p2, p3⟩ := go_L B n hn (4999 - n) (4999 - n) n 0 A ts ms (by omega) hA hct ht9 hR c ⟨a, ea, by omega⟩
    rw [show 4999 - n + n + 1 = 5000 by omega, nI_0] at p1 p2
    refine ⟨A', t', s', ?_, p2, p3⟩
    unfold X8_passes
    rw [if_neg l1, hct.L, if_neg c, X8_isDown_a hA ht9, bnd_s, if_pos d, hct.M, ea, if_pos q]
    exact p1
theorem mo_lt5 {A B : AT} {m0 s : MS} (h : mo A B m0 s) : mo A (aLit B) m0 (sF s 5 1) := by
  obtain ⟨⟨m1, m2, m3, m4, m5, m6, m7⟩, g2, g3, g4, g5⟩ := h
  refine ⟨⟨rfl, m2, m3, m4, m5, m6, m7⟩, g2, g3, g4, fun k hk => ?_⟩
  rw [gF_sF, if_neg (fun e => hk (by rw [e]; decide))]
  exact g5 k hk
theorem p344_s (s : MS) : X11_comes_p344 s = some (0, sF s 5 1) := by
  unfold X11_comes_p344 X11_comes_p345
  rw [gz_1, nm_s, p374_0]
theorem ob_102 {xs : XS} {A B A0 : AT} {m0 : MS} (h0 : mR A0 m0) {d n : Nat} {st : MS} (hr : xR xs d = some (n, st)) (hn : n ≤ 100) {i q : Nat} (hi : i < 200) (hq51 : q < 51) {x : XS} {s : MS} (hT : TK 1 xs x) (hc : ct B (xT x 1) (xB x 1)) (h9 : gF (xT x 1) 9 = aFall B (aM B)) (hB : okD B) (ho : mo A B m0 s) (hq : okQ (chN (gA st 1) n) m0 q i) (hy : chN (gA st 1) n i = 102) : OB xs A m0 d i q x s := by
  obtain ⟨q1, q2, q3⟩ := hq
  rw [hy] at q2 q3
  have hx := (xR_tk hT d).trans hr
  have a24 : gA s 24 q = 102 := by rw [ho.2.2.1 24 (by decide)]; exact q2
  have ec := comes_s ho hq51
  have en := fun j (hj : j < 300) kk (hk : kk < 100) w (hw : w = nI kk) => X7_number_a hn st (i := j) hj (kk := kk) hk (w := w) hw
  unfold X11_comes_p32 at ec
  rw [inr_i hq51, nm_s, nI_cl hq51, a24, if_neg (show ¬ (102 : Int32) = 97 by decide), if_neg (show ¬ (102 : Int32) = 98 by decide), if_neg (show ¬ (102 : Int32) = 99 by decide), if_neg (show ¬ (102 : Int32) = 100 by decide), if_neg (show ¬ (102 : Int32) = 101 by decide), if_pos rfl] at ec
  by_cases D : aD B = 0
  · rw [if_pos D, if_neg n10, ho.1.L] at ec
    have eo : X10_obeys x d (nI i) = (bnd (X8_kindle (xT x 1)) fun y_39 st_40 => nm (uT x 1 st_40) fun xs_42 => gz y_39 <| some (y_39, xs_42)) := by
      unfold X10_obeys
      rw [hx, bd1_s, X7_at_c hn st (by omega), bnd_s, uR_id hx, nm_s x, hy, if_neg (show ¬ (102 : Int32) = 111 by decide), X8_isDown_a hB h9, bnd_s, uT_self, nm_s x, if_pos D, if_neg (show ¬ (102 : Int32) = 97 by decide), if_neg (show ¬ (102 : Int32) = 98 by decide), if_neg (show ¬ (102 : Int32) = 99 by decide), if_neg (show ¬ (102 : Int32) = 100 by decide), if_neg (show ¬ (102 : Int32) = 101 by decide), if_pos rfl]
    rw [X8_kindle_s hc hB h9] at eo
    by_cases c : aL B = 0
    · rw [if_pos ⟨c, D⟩, bnd_s, nm_s, gz_1] at eo
      rw [if_pos c] at ec
      unfold X11_comes_p345 at ec
      rw [gz_1, nm_s] at ec
      have hc1 : ct (aLit B) (sF (xT x 1) 7 1) (xB x 1) := by
        obtain ⟨c1, c2, c3, c4, c5, c6⟩ := hc
        exact ⟨c1, c2, c3, c4, rfl, c6⟩
      have x1 : xT (uT x 1 (sF (xT x 1) 7 1)) 1 = sF (xT x 1) 7 1 := xT_d
      obtain ⟨t', s', e1, e2, B', p1, p2, p3, p4⟩ := setl h0 (mo_lt5 ho) (okD_lit hB).1 D hc1 (by show gF (xT x 1) 9 = -4; rw [h9]; exact aD_0 hB D)
      exact ⟨1, _, s', eo, ec.trans e2, hT.uT _, Or.inr ⟨rfl, t', by rw [x1]; exact e1, B', p1, p2, p3, p4⟩⟩
    · rw [if_neg (fun z => c z.1), bnd_s, uT_self, nm_s, gz_0] at eo
      rw [if_neg c] at ec
      exact ⟨0, x, _, eo, ec.trans (p344_s s), hT, Or.inl ⟨rfl, _, mo_lt5 ho⟩⟩
  · rw [if_neg D, if_pos rfl] at ec
    have eo : X10_obeys x d (nI i) = some (0, x) := by
      unfold X10_obeys
      rw [hx, bd1_s, X7_at_c hn st (by omega), bnd_s, uR_id hx, nm_s x, hy, if_neg (show ¬ (102 : Int32) = 111 by decide), X8_isDown_a hB h9, bnd_s, uT_self, nm_s x, if_neg D, gz_0]
    exact ⟨0, x, _, eo, ec.trans (p344_s s), hT, Or.inl ⟨rfl, _, mo_lt5 ho⟩⟩
theorem p373_0 (s : MS) : X11_comes_p373 s 0 = some (0, s) := by
  unfold X11_comes_p373
  rw [gz_0]
theorem ob_110 {xs : XS} {A B A0 : AT} {m0 : MS} (h0 : mR A0 m0) {d n : Nat} {st : MS} (hr : xR xs d = some (n, st)) (hn : n ≤ 100) {i q : Nat} (hi : i < 200) (hq51 : q < 51) {x : XS} {s : MS} (hT : TK 1 xs x) (hc : ct B (xT x 1) (xB x 1)) (h9 : gF (xT x 1) 9 = aFall B (aM B)) (hB : okD B) (ho : mo A B m0 s) (hq : okQ (chN (gA st 1) n) m0 q i) (hf : fdL (chN (gA st 1) n) 2 (i + 1) = none) (hy : chN (gA st 1) n i = 110) : OB xs A m0 d i q x s := by
  obtain ⟨q1, q2, q3⟩ := hq
  rw [hy] at q2 q3
  have hx := (xR_tk hT d).trans hr
  have a24 : gA s 24 q = 110 := by rw [ho.2.2.1 24 (by decide)]; exact q2
  have ec := comes_s ho hq51
  have en := fun j (hj : j < 300) kk (hk : kk < 100) w (hw : w = nI kk) => X7_number_a hn st (i := j) hj (kk := kk) hk (w := w) hw
  have f0 : gA m0 25 (3 * q) = numF (chN (gA st 1) n) 2 (i + 1) 0 := q3.1 (Or.inr (Or.inr (Or.inr (Or.inl rfl))))
  rw [f0] at ec
  obtain ⟨j, ej, hj⟩ := num_r hf
  have hj : j < 100 := hj
  unfold X11_comes_p32 at ec
  rw [inr_i hq51, nm_s, nI_cl hq51, a24, if_neg (show ¬ (110 : Int32) = 97 by decide), if_neg (show ¬ (110 : Int32) = 98 by decide), if_neg (show ¬ (110 : Int32) = 99 by decide), if_neg (show ¬ (110 : Int32) = 100 by decide), if_neg (show ¬ (110 : Int32) = 101 by decide), if_neg (show ¬ (110 : Int32) = 102 by decide), if_neg (show ¬ (110 : Int32) = 103 by decide), if_neg (show ¬ (110 : Int32) = 104 by decide), if_neg (show ¬ (110 : Int32) = 105 by decide), if_neg (show ¬ (110 : Int32) = 106 by decide), if_neg (show ¬ (110 : Int32) = 107 by decide), if_neg (show ¬ (110 : Int32) = 108 by decide), if_neg (show ¬ (110 : Int32) = 109 by decide), if_pos rfl] at ec
  have hR := mo_mR ho h0
  by_cases D : aD B = 0
  · rw [if_pos D, if_neg n10, ej] at ec
    have eo : X10_obeys x d (nI i) = (bnd (X8_passes (xT x 1) (nI j)) fun y_90 st_91 => nm (uT x 1 st_91) fun xs_93 => gz y_90 <| some (y_90, xs_93)) := by
      unfold X10_obeys
      rw [hx, bd1_s, X7_at_c hn st (by omega), bnd_s, uR_id hx, nm_s x, hy, if_neg (show ¬ (110 : Int32) = 111 by decide), X8_isDown_a hB h9, bnd_s, uT_self, nm_s x, if_pos D, if_neg (show ¬ (110 : Int32) = 97 by decide), if_neg (show ¬ (110 : Int32) = 98 by decide), if_neg (show ¬ (110 : Int32) = 99 by decide), if_neg (show ¬ (110 : Int32) = 100 by decide), if_neg (show ¬ (110 : Int32) = 101 by decide), if_neg (show ¬ (110 : Int32) = 102 by decide), if_neg (show ¬ (110 : Int32) = 103 by decide), if_neg (show ¬ (110 : Int32) = 104 by decide), if_neg (show ¬ (110 : Int32) = 105 by decide), if_neg (show ¬ (110 : Int32) = 106 by decide), if_neg (show ¬ (110 : Int32) = 107 by decide), if_neg (show ¬ (110 : Int32) = 108 by decide), if_neg (show ¬ (110 : Int32) = 109 by decide), if_pos rfl, hx, bd1_s, nI_1, en (i + 1) (by omega) 2 (by decide) 2 rfl, bnd_s, uR_id hx, nm_s x, ej]
    have fail : X8_passes (xT x 1) (nI j) = some (0, xT x 1) → X11_minutesCome s (nI j) = some (0, s) → OB xs A m0 d i q x s := fun h1 h2 => by
      rw [h1, bnd_s, uT_self, nm_s, gz_0] at eo
      rw [h2, bnd_s, if_pos rfl] at ec
      exact ⟨0, x, _, eo, ec.trans (p373_0 s), hT, Or.inl ⟨rfl, B, ho⟩⟩
    have mc : X11_minutesCome_p27 s (nI j) = some (0, s) := by
      unfold X11_minutesCome_p27 X11_minutesCome_p28 X11_minutesCome_p38
      rw [if_pos rfl, gz_0]
    by_cases j0 : j = 0
    · refine fail ?_ ?_
      · unfold X8_passes
        rw [if_pos (show nI j < 1 by rw [j0]; decide), gz_0]
      · unfold X11_minutesCome
        rw [if_pos (show nI j ≤ 0 by rw [j0]; decide), mc]
        exact ite_self _
    · obtain ⟨w1, w2⟩ := pass_A hB hR (n := j) (by omega) hj (xB x 1) hc h9
      have nle : ¬ nI j ≤ 0 := nI_nle (by omega) (by omega)
      by_cases c : aL B = 0
      · refine fail (w1 (Or.inl c)) ?_
        unfold X11_minutesCome
        rw [if_pos (show gF s 5 = 0 by rw [ho.1.L]; exact c), mc]
      by_cases l : gF s 6 + nI j ≤ 999
      · obtain ⟨A', t', s', p1, p2, p3, p4, p5, p6, p7, p8, p9, p10⟩ := w2 c D l
        rw [p1, bnd_s, nm_s, gz_1] at eo
        have e2 : X11_minutesCome s (nI j) = some (1, s') := by
          unfold X11_minutesCome X11_minutesCome_p28 X11_minutesCome_p38
          rw [if_neg (show ¬ gF s 5 = 0 by rw [ho.1.L]; exact c), if_neg nle, if_neg (Int32.not_lt.mpr l), if_neg n10, p2, bnd_s, gz_1]
        rw [e2, bnd_s, if_neg n10] at ec
        have e3 : X11_comes_p373 s' 1 = some (1, s') := by unfold X11_comes_p373; rw [gz_1]
        have x1 : xT (uT x 1 t') 1 = t' := xT_d
        obtain ⟨t2, g1, g2, g3⟩ := settled p3 p4 p5
        obtain ⟨o1, o2, o3, o4, o5⟩ := ho
        refine ⟨1, _, s', eo, ec.trans e3, hT.uT _, Or.inr ⟨rfl, t2, by rw [x1]; exact g1, A', p3, g2, g3, p6, by rw [p9]; exact o2, fun k hk => (p9 k).trans (o3 k hk), fun k => (p10 k).trans (o4 k), fun k hk => (p8 k (fun z => hk (by rw [z]; decide)) (fun z => hk (by rw [z]; decide))).trans (o5 k hk)⟩⟩
      · refine fail (w1 (Or.inr (Or.inr l))) ?_
        unfold X11_minutesCome
        rw [if_neg (show ¬ gF s 5 = 0 by rw [ho.1.L]; exact c), if_neg nle, if_pos (Int32.not_le.mp l), mc]
  · rw [if_neg D, if_pos rfl] at ec
    have eo : X10_obeys x d (nI i) = some (0, x) := by
      unfold X10_obeys
      rw [hx, bd1_s, X7_at_c hn st (by omega), bnd_s, uR_id hx, nm_s x, hy, if_neg (show ¬ (110 : Int32) = 111 by decide), X8_isDown_a hB h9, bnd_s, uT_self, nm_s x, if_neg D, gz_0]
    exact ⟨0, x, s, eo, ec.trans (p373_0 s), hT, Or.inl ⟨rfl, B, ho⟩⟩
