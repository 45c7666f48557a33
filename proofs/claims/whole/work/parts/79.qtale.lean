/-! how it fell, forged, judged -/
def feF (A : AT) (f : Nat → Int32) (sk : Int32) (n s : Nat) : Int32 := if fnS A f sk n s = n then biI s else 0
theorem fnS_le (A : AT) (f : Nat → Int32) (sk : Int32) (n s : Nat) : fnS A f sk n s ≤ n := by
  have := fnL_le f sk (stP A (aM A) s).toNatClampNeg n 0
  unfold fnS
  omega
theorem X11_wt_s {ms : MS} {A : AT} (hm : mt A ms) {d n H : Nat} (hd : d < 8) (hn : n ≤ 100) (hH7 : H < 7) (hH : aH A = nI H) (hw : X11_wrongRow ms (nI d) = some (0, ms)) (e15 : gA ms 15 d = nI n) : X11_wrongTale ms (nI d) = some ((if n ≤ H then 0 else -13), ms) := by
  unfold X11_wrongTale X11_wrongTale_p28 X11_wrongTale_p29
  rw [hw, bnd_s, if_pos rfl, inr_i hd, nI_cl hd, e15, hm.H, hH]
  by_cases c : n ≤ H
  · rw [if_pos c, if_pos (nI_le c (by omega))]
  · rw [if_neg c, if_neg (nI_ge (by omega) (by omega))]
theorem X11_wt_n {ms : MS} {v y : Int32} (hy : ¬ y = 0) (hw : X11_wrongRow ms v = some (y, ms)) : X11_wrongTale ms v = some (y, ms) := by
  unfold X11_wrongTale X11_wrongTale_p28 X11_wrongTale_p29
  rw [hw, bnd_s, if_neg hy]
theorem qm_fell {xs : XS} {ms : MS} (h : RR xs ms) (v : Int32) : Cm (X10_fell xs v) (X11_fell ms v) := by
  have h' := RR_17 h 0
  obtain ⟨A, hA, hc, h9, hR⟩ := h'.1
  obtain ⟨H, hH7, hH⟩ := hA.1.H
  unfold X10_fell X11_fell
  rw [nm_s (sF ms 17 0)]
  rcases sh_cases h' v with ⟨_, a1, a2, a3, a4, a5⟩ | ⟨d, hd, e, a1, a2, a3, a4, a5⟩ | ⟨d, hd, e, k, a1, a3, a4, a6, a7, b1, b2, b3, b4, b5⟩ | ⟨d, hd, e, n, st, a1, a2, a3, a4, a5, a6, b1, b2, b3, b4, b5⟩
  · exact ⟨_, _, _, by rw [a2, bnd_s, ob_n, a3, bnd_s], by rw [X11_wt_n (by decide) a5, bnd_s, if_neg (by decide)], h'⟩
  · exact ⟨_, _, _, by rw [a2, bnd_s, ob_n, a3, bnd_s], by rw [X11_wt_n (by decide) a5, bnd_s, if_neg (by decide)], h'⟩
  · exact ⟨_, _, _, by rw [b2, bnd_s, ob_n, b3, bnd_s], by rw [X11_wt_n (by decide) b5, bnd_s, if_neg (by decide)], h'⟩
  · subst e
    rw [b2, bnd_s, ob_s, a1, bd1_s, X11_wt_s hR.2.2 hd a2 hH7 hH b5 a5, bnd_s]
    unfold X7_size
    rw [bnd_s, uR_id a1, nm_s, hc.H, hH]
    by_cases c : n ≤ H
    · rw [if_pos (nI_le c (by omega)), if_pos c, if_pos (by decide)]
      have l1 : ∀ (k i : Nat) (acc : Int32), i + k = 12 → X10_fell_p38 (k + 1) xs d acc (nI i) = some (orL (feF A (gA st 1) (skI (gF st 0)) n) k i acc, xs) := by
        intro k
        induction k with
        | zero =>
          intro i acc e
          have e : i = 12 := by omega
          subst e
          rw [X10_fell_p38_s, if_pos n12_t]
          rfl
        | succ k ih =>
          intro i acc e
          have hi : i < 12 := by omega
          rw [X10_fell_p38_s, if_neg (n12_f hi), X10_firstNotSo_a hA.1 hc a1 (by omega) a3 hi, bnd_s, a1, bd1_s]
          unfold X7_size
          rw [bnd_s, uR_id a1, nm_s]
          show _ = some (orL _ k (i + 1) (acc ||| (if fnS A (gA st 1) (skI (gF st 0)) n i = n then biI i else 0)), xs)
          have hle := fnS_le A (gA st 1) (skI (gF st 0)) n i
          unfold X10_fell_p66
          by_cases q : fnS A (gA st 1) (skI (gF st 0)) n i = n
          · rw [q, if_pos rfl, if_pos rfl, nm_s, nm_s, nI_1]
            exact ih (i + 1) _ (by omega)
          · rw [if_neg (fun z => q ((nI_eq (by omega) (by omega)).mp z)), if_neg q, or_0, nm_s, nI_1]
            exact ih (i + 1) _ (by omega)
      have l2 : ∀ (k i : Nat) (acc : Int32), i + k = 12 → X11_fell_p22 (k + 1) (sF ms 17 0) (nI d) acc (nI i) = some (orL (feF A (gA st 1) (skI (gF st 0)) n) k i acc, sF ms 17 0) := by
        intro k
        induction k with
        | zero =>
          intro i acc e
          have e : i = 12 := by omega
          subst e
          rw [X11_fell_p22_s, if_pos n12_t]
          rfl
        | succ k ih =>
          intro i acc e
          have hi : i < 12 := by omega
          rw [X11_fell_p22_s, if_neg (n12_f hi), X11_fitsUpTo_a hR.2.2 hA.1 hd (by omega) a3 a4 a5 a6 hi, bnd_s, inr_i hd, nI_cl hd, a5]
          show _ = some (orL _ k (i + 1) (acc ||| (if fnS A (gA st 1) (skI (gF st 0)) n i = n then biI i else 0)), sF ms 17 0)
          have hle := fnS_le A (gA st 1) (skI (gF st 0)) n i
          unfold X11_fell_p54
          by_cases q : fnS A (gA st 1) (skI (gF st 0)) n i = n
          · rw [q, if_pos rfl, if_pos rfl, nm_s, nm_s, nI_1]
            exact ih (i + 1) _ (by omega)
          · rw [if_neg (fun z => q ((nI_eq (by omega) (by omega)).mp z)), if_neg q, nm_s, nm_s, nI_1]
            exact ih (i + 1) _ (by omega)
      have r1 := l1 12 0 0 (by decide)
      have r2 := l2 12 0 0 (by decide)
      rw [nI_0] at r1 r2
      exact ⟨_, _, _, r1, r2, h'⟩
    · rw [if_neg (nI_ge (by omega) (by omega)), if_neg c, if_neg (by decide)]
      exact ⟨_, _, _, rfl, rfl, h'⟩
def mxL (f : Nat → Int32) : Nat → Nat → Int32 → Int32
  | 0, _, acc => acc
  | n + 1, i, acc => mxL f n (i + 1) (if acc < f i then f i else acc)
theorem qm_forged {xs : XS} {ms : MS} (h : RR xs ms) (v : Int32) : Cm (X10_forged xs v) (X11_forged ms v) := by
  have h' := RR_17 h 0
  obtain ⟨A, hA, hc, h9, hR⟩ := h'.1
  obtain ⟨H, hH7, hH⟩ := hA.1.H
  unfold X10_forged X11_forged
  rw [nm_s (sF ms 17 0)]
  rcases sh_cases h' v with ⟨_, a1, a2, a3, a4, a5⟩ | ⟨d, hd, e, a1, a2, a3, a4, a5⟩ | ⟨d, hd, e, k, a1, a3, a4, a6, a7, b1, b2, b3, b4, b5⟩ | ⟨d, hd, e, n, st, a1, a2, a3, a4, a5, a6, b1, b2, b3, b4, b5⟩
  · exact ⟨_, _, _, by rw [a2, bnd_s, ob_n, a3, bnd_s], by rw [X11_wt_n (by decide) a5, bnd_s, if_neg (by decide)], h'⟩
  · exact ⟨_, _, _, by rw [a2, bnd_s, ob_n, a3, bnd_s], by rw [X11_wt_n (by decide) a5, bnd_s, if_neg (by decide)], h'⟩
  · exact ⟨_, _, _, by rw [b2, bnd_s, ob_n, b3, bnd_s], by rw [X11_wt_n (by decide) b5, bnd_s, if_neg (by decide)], h'⟩
  · subst e
    rw [b2, bnd_s, ob_s, a1, bd1_s, X11_wt_s hR.2.2 hd a2 hH7 hH b5 a5, bnd_s]
    unfold X7_size
    rw [bnd_s, uR_id a1, nm_s, hc.H, hH]
    by_cases c : n ≤ H
    · rw [if_pos (nI_le c (by omega)), if_pos c, if_pos (by decide)]
      have l1 : ∀ (k i : Nat) (acc : Int32), i + k = 12 → X10_forged_p38 (k + 1) xs d acc (nI i) = some ((if mxL (fun s => nI (fnS A (gA st 1) (skI (gF st 0)) n s)) k i acc = nI n then -4 else mxL (fun s => nI (fnS A (gA st 1) (skI (gF st 0)) n s)) k i acc), xs) := by
        intro k
        induction k with
        | zero =>
          intro i acc e
          have e : i = 12 := by omega
          subst e
          rw [X10_forged_p38_s, if_pos n12_t]
          unfold X10_forged_p63 X10_forged_p77 X7_size
          rw [a1, bd1_s, bnd_s, uR_id a1, nm_s]
          show _ = some ((if acc = nI n then -4 else acc), xs)
          by_cases q : acc = nI n
          · rw [if_pos q, if_pos q]
          · rw [if_neg q, if_neg q]
        | succ k ih =>
          intro i acc e
          have hi : i < 12 := by omega
          rw [X10_forged_p38_s, if_neg (n12_f hi), X10_firstNotSo_a hA.1 hc a1 (by omega) a3 hi, bnd_s, nm_s, nm_s, nI_1]
          exact ih (i + 1) _ (by omega)
      have l2 : ∀ (k i : Nat) (acc : Int32), i + k = 12 → X11_forged_p22 (k + 1) (sF ms 17 0) (nI d) acc (nI i) = some ((if mxL (fun s => nI (fnS A (gA st 1) (skI (gF st 0)) n s)) k i acc = nI n then -4 else mxL (fun s => nI (fnS A (gA st 1) (skI (gF st 0)) n s)) k i acc), sF ms 17 0) := by
        intro k
        induction k with
        | zero =>
          intro i acc e
          have e : i = 12 := by omega
          subst e
          rw [X11_forged_p22_s, if_pos n12_t]
          unfold X11_forged_p47 X11_forged_p63
          rw [inr_i hd, nI_cl hd, a5]
          show _ = some ((if acc = nI n then -4 else acc), sF ms 17 0)
          by_cases q : acc = nI n
          · rw [if_pos q, if_pos q]
          · rw [if_neg q, if_neg q]
        | succ k ih =>
          intro i acc e
          have hi : i < 12 := by omega
          rw [X11_forged_p22_s, if_neg (n12_f hi), X11_fitsUpTo_a hR.2.2 hA.1 hd (by omega) a3 a4 a5 a6 hi, bnd_s, greater_s, bd1_s, nm_s, nI_1]
          exact ih (i + 1) _ (by omega)
      have r1 := l1 12 0 0 (by decide)
      have r2 := l2 12 0 0 (by decide)
      rw [nI_0] at r1 r2
      exact ⟨_, _, _, r1, r2, h'⟩
    · rw [if_neg (nI_ge (by omega) (by omega)), if_neg c, if_neg (by decide)]
      exact ⟨_, _, _, rfl, rfl, h'⟩
/-! judged -/
/-- the first place from i on that is not so; fallen before: from place e on -/
def juL (f : Nat → Int32) (sk : Int32) (e : Nat) (b : Nat → Int32) : Nat → Nat → Int32
  | 0, _ => -4
  | n + 1, i => if f i = sk ∨ (i < e ∧ f i = b i) then juL f sk e b n (i + 1) else nI i
def bcN (B : AT) (m : Int32) : Int32 := sumF (cnF (bAt (aBe B) (aBu B) m)) 12 0 0
theorem X10_judge_l {xs : XS} {A : AT} (hc : ct A (xT xs 0) (xB xs 0)) {a : Nat} (ha : aM A = nI a) {d n : Nat} {st : MS} (h : xR xs d = some (n, st)) (hn : n ≤ 100) (hs : isN 3 (gF st 0)) {e : Nat} (he : e < 100) (f : Nat) : ∀ (k i : Nat), i + k = n → X10_judge_p56 (f + k + 1) xs d (nI e) (nI i) = some (juL (gA st 1) (skI (gF st 0)) e (fun i => bcN A (nI (a + i))) k i, xs) := by
  intro k
  induction k with
  | zero =>
    intro i q
    have q : i = n := by omega
    subst q
    rw [X10_judge_p56_s, h, bd1_s]
    unfold X7_size
    rw [bnd_s, uR_id h, nm_s, if_pos (Int32.le_refl _)]
    rfl
  | succ k ih =>
    intro i q
    have hi : i < n := by omega
    rw [show f + (k + 1) + 1 = (f + k + 1) + 1 from rfl, X10_judge_p56_s, h, bd1_s]
    unfold X7_size
    rw [bnd_s, uR_id h, nm_s, if_neg (nI_ge hi (by omega)), h, bd1_s, X7_isSkipped_a hn hs hi, bnd_s, uR_id h, nm_s, h, bd1_s, X7_at_t hn st hi, bnd_s, uR_id h, nm_s, hc.M, ha, nI_add, X8_countBearing_a hc, bnd_s, uT_self, nm_s]
    show _ = some ((if gA st 1 i = skI (gF st 0) ∨ (i < e ∧ gA st 1 i = bcN A (nI (a + i))) then juL (gA st 1) (skI (gF st 0)) e (fun i => bcN A (nI (a + i))) k (i + 1) else nI i), xs)
    unfold X10_judge_p110 X10_judge_p107
    by_cases c : gA st 1 i = skI (gF st 0)
    · rw [if_pos c, if_neg n10, if_pos (Or.inl c), nm_s, nI_1]
      exact ih (i + 1) (by omega)
    · rw [if_neg c, if_pos rfl]
      by_cases g : e ≤ i
      · rw [if_pos (nI_le g (by omega)), if_neg (fun z => z.elim c (fun z => by omega))]
      · rw [if_neg (nI_ge (by omega) (by omega))]
        by_cases t : gA st 1 i = sumF (cnF (bAt (aBe A) (aBu A) (nI (a + i)))) 12 0 0
        · rw [if_pos t, if_pos (Or.inr ⟨by omega, t⟩), nm_s, nI_1]
          exact ih (i + 1) (by omega)
        · rw [if_neg t, if_neg (fun z => z.elim c (fun z => t z.2))]
theorem mo_min {A B : AT} {m0 st : MS} (h : mo A B m0 st) (m : Int32) : mo A (aMin B m) m0 (sF st 6 m) := by
  obtain ⟨⟨m1, m2, m3, m4, m5, m6, m7⟩, g2, g3, g4, g5⟩ := h
  refine ⟨⟨m1, rfl, m3, m4, m5, m6, m7⟩, g2, g3, g4, fun k hk => ?_⟩
  rw [gF_sF, if_neg (fun e => hk (by rw [e]; decide))]
  exact g5 k hk
theorem mo_lit {A B : AT} {m0 st : MS} (h : mo A B m0 st) : mo A (aLit B) m0 (sF st 5 1) := by
  obtain ⟨⟨m1, m2, m3, m4, m5, m6, m7⟩, g2, g3, g4, g5⟩ := h
  refine ⟨⟨rfl, m2, m3, m4, m5, m6, m7⟩, g2, g3, g4, fun k hk => ?_⟩
  rw [gF_sF, if_neg (fun e => hk (by rw [e]; decide))]
  exact g5 k hk
theorem X11_judge_l {A : AT} {m0 : MS} (h0 : mR A m0) (hA : okD A) {a : Nat} (ha : a < 1000) (ea : aM A = nI a) {d n : Nat} (hd : d < 8) (hn : n ≤ 100) {s : Int32} (hs : isN 3 s) (e14 : gA m0 14 d = s) (e15 : gA m0 15 d = nI n) {F : Nat → Int32} (hF : ∀ i, i < n → gL m0 16 (100 * d + i) = (F i).toInt64) {e : Nat} (he1 : ∀ i, i < e → gT A a i = -4) (he2 : e < 61 → ¬ gT A a e = -4) (he : e ≤ 61) (f : Nat) :
    ∀ (k i : Nat) (st : MS) (fl : Int32), i + k = n → mo A (aMin (aLit A) (nI (a + (i - 1)))) m0 st → (fl = 0 ∨ fl = 1) → (fl = 0 → ∀ j, j < i → gT A a j = -4) → (fl = 1 → e < i) → ∃ s', X11_judge_p53 (f + 1 + k + 1) st (nI d) (-4) fl (nI i) = some (juL F (skI s) e (fun i => bcN A (nI (a + i))) k i, s') ∧ mo A A m0 s' := by
  have en : ∀ (st : MS) (B : AT) (v : Int32), mo A B m0 st → ∃ s', X11_judge_p180 st v = some (v, s') ∧ mo A A m0 s' := fun st B v hm => by
    obtain ⟨s', e1, o, _⟩ := mo_cl hm hA.1.L hA.D
    exact ⟨s', by unfold X11_judge_p180; rw [e1, bnd_s], o⟩
  intro k
  induction k with
  | zero =>
    intro i st fl q hm _ _ _
    have q : i = n := by omega
    subst q
    obtain ⟨s', e1, o⟩ := en st _ (-4) hm
    refine ⟨s', ?_, o⟩
    rw [X11_judge_p53_s, inr_i hd, nI_cl hd, (mo_FR hm).1 15 (by decide), e15, if_pos (Int32.le_refl _)]
    exact e1
  | succ k ih =>
    intro i st fl q hm hf hf0 hf1
    have hi : i < n := by omega
    have F15 : gA st 15 d = nI n := by rw [(mo_FR hm).1 15 (by decide)]; exact e15
    have hm1 := mo_min hm (nI (a + i))
    have hm1 : mo A (aMin (aLit A) (nI (a + i))) m0 (sF st 6 (nI (a + i))) := hm1
    have hR1 := mo_mR hm1 h0
    have ok1 : okB 2000 (aMin (aLit A) (nI (a + i))) := okB_lit hA.1 (by omega)
    have l16 : gL (sF st 6 (nI (a + i))) 16 (100 * d + i) = (F i).toInt64 := by
      rw [(mo_FR hm1).2.1]; exact hF i hi
    have s14 : gA (sF st 6 (nI (a + i))) 14 d = s := by rw [(mo_FR hm1).1 14 (by decide)]; exact e14
    have so : ∀ t0, (t0 = 0 ∨ t0 = 1) → (t0 = 0 → ∀ j, j < i + 1 → gT A a j = -4) → (t0 = 1 → e < i + 1) → ∃ s', X11_judge_p173 (fun st v1 v3 v4 v5 => X11_judge_p53 (f + 1 + k + 1) st v1 v3 v4 v5) (sF st 6 (nI (a + i))) (nI d) t0 (nI i) (-4) = some (juL F (skI s) e (fun i => bcN A (nI (a + i))) k (i + 1), s') ∧ mo A A m0 s' := fun t0 h1 h2 h3 => by
      unfold X11_judge_p173
      rw [nm_s, nI_1]
      exact ih (i + 1) _ t0 (by omega) hm1 h1 h2 h3
    have nso : ∀ t0, ∃ s', X11_judge_p173 (fun st v1 v3 v4 v5 => X11_judge_p53 (f + 1 + k + 1) st v1 v3 v4 v5) (sF st 6 (nI (a + i))) (nI d) t0 (nI i) (nI i) = some (nI i, s') ∧ mo A A m0 s' := fun t0 => by
      unfold X11_judge_p173
      rw [nm_s, nI_1]
      obtain ⟨s', e1, o⟩ := en _ _ (nI i) hm1
      refine ⟨s', ?_, o⟩
      show X11_judge_p53 (f + 1 + k + 1) (sF st 6 (nI (a + i))) (nI d) (nI i) t0 (nI (i + 1)) = _
      rw [X11_judge_p53_s, inr_i hd, if_pos (nI_pos' (by omega))]
      rw [e1, ite_self]
    have k104 : ∀ t0, (t0 = 0 ∨ t0 = 1) → (t0 = 0 → ∀ j, j < i + 1 → gT A a j = -4) → (t0 = 1 → e < i + 1) → ∃ s', X11_judge_p104 (fun st v1 v3 v4 v5 => X11_judge_p53 (f + 1 + k + 1) st v1 v3 v4 v5) (sF st 6 (nI (a + i))) (nI d) (nI i) t0 = some (juL F (skI s) e (fun i => bcN A (nI (a + i))) (k + 1) i, s') ∧ mo A A m0 s' := fun t0 h1 h2 h3 => by
      unfold X11_judge_p104 X11_judge_p154 X11_judge_p158 X11_judge_p159
      rw [n100, nI_add, inr_i (by omega : 100 * d + i < 800), nI_cl (by omega : 100 * d + i < 800), nm_s, X11_skipped_a hd hs s14, bnd_s, l16, if_neg n10, if_pos rfl]
      show ∃ s', _ = some ((if F i = skI s ∨ (i < e ∧ F i = bcN A (nI (a + i))) then juL F (skI s) e (fun i => bcN A (nI (a + i))) k (i + 1) else nI i), s') ∧ mo A A m0 s'
      by_cases c : F i = skI s
      · rw [if_pos ((lg_cmp_eq _ _).mpr (l_eq.mpr c)), if_pos (Or.inl c)]
        exact so t0 h1 h2 h3
      rw [if_neg (fun q => c (l_eq.mp ((lg_cmp_eq _ _).mp q)))]
      by_cases g : i < e
      · have t00 : t0 = 0 := by
          rcases h1 with z | z
          · exact z
          · exact absurd (h3 z) (by omega)
        rw [if_pos t00, if_neg (show ¬ (60 : Int32) < nI i from nI_nlt (a := 60) (by omega) (by decide)), X11_bearing_a hR1 ok1, bnd_s]
        show ∃ s', (if lg_cmp (F i).toInt64 (bcN A (nI (a + i))).toInt64 = 0 then _ else _) = _ ∧ _
        by_cases t : F i = bcN A (nI (a + i))
        · rw [if_pos ((lg_cmp_eq _ _).mpr (l_eq.mpr t)), if_pos (Or.inr ⟨g, t⟩)]
          exact so t0 h1 h2 h3
        · rw [if_neg (fun q => t (l_eq.mp ((lg_cmp_eq _ _).mp q))), if_neg (show ¬ (F i = skI s ∨ (i < e ∧ F i = bcN A (nI (a + i)))) from fun z => z.elim c (fun z => t z.2))]
          exact nso t0
      · rw [if_neg (show ¬ (F i = skI s ∨ (i < e ∧ F i = bcN A (nI (a + i)))) from fun z => z.elim c (fun z => g z.1))]
        by_cases t : t0 = 0
        · have e61 : ¬ e < 61 := fun z => he2 z (h2 t e (by omega))
          rw [if_pos t, if_pos (show (60 : Int32) < nI i from nI_lt (a := 60) (by omega) (by omega))]
          exact nso t0
        · rw [if_neg t]
          exact nso t0
    have k83 : ∀ t2, gF st 6 + t2 = nI (a + i) → ∃ s', X11_judge_p83 (fun st v1 v3 v4 v5 => X11_judge_p53 (f + 1 + k + 1) st v1 v3 v4 v5) st (nI d) fl (nI i) (gF st 6) t2 = some (juL F (skI s) e (fun i => bcN A (nI (a + i))) (k + 1) i, s') ∧ mo A A m0 s' := fun t2 h2 => by
      unfold X11_judge_p83 X11_judge_p99
      rw [h2, nm_s, X11_stands_a hR1 ok1, bnd_s]
      show ∃ s', (if fl = 0 then (if (if gT A a i = -4 then (1 : Int32) else 0) = 0 then _ else _) else _) = _ ∧ _
      by_cases c : fl = 0
      · rw [if_pos c]
        by_cases g : gT A a i = -4
        · rw [if_pos g, if_neg n10]
          refine k104 0 (Or.inl rfl) (fun _ j hj => ?_) (fun z => absurd z (by decide))
          by_cases t : j = i
          · rw [t]; exact g
          · exact hf0 c j (by omega)
        · rw [if_neg g, if_pos rfl]
          refine k104 1 (Or.inr rfl) (fun z => absurd z (by decide)) (fun _ => ?_)
          rcases Nat.lt_or_ge i e with t | t
          · exact absurd (he1 i t) g
          · omega
      · rw [if_neg c]
        have c1 : fl = 1 := hf.resolve_left c
        exact k104 1 (Or.inr rfl) (fun z => absurd z (by decide)) (fun _ => by have := hf1 c1; omega)
    rw [show f + 1 + (k + 1) + 1 = (f + 1 + k + 1) + 1 from rfl, X11_judge_p53_s, inr_i hd, nI_cl hd, F15, if_neg (nI_ge hi (by omega)), if_neg (by decide)]
    have g6 : gF st 6 = nI (a + (i - 1)) := hm.1.2.1
    by_cases i0 : i = 0
    · rw [i0, nI_0, if_pos (Int32.le_refl _)]
      have := k83 0 (by rw [g6, i0]; exact Int32.add_zero _)
      rw [i0, nI_0] at this
      exact this
    · rw [if_neg (nI_nle (by omega) (by omega))]
      exact k83 1 (by rw [g6, nI_1, show a + (i - 1) + 1 = a + i by omega])
theorem qm_judge {xs : XS} {ms : MS} (h : RR xs ms) (v : Int32) : Cm (X10_judge xs v) (X11_judge ms v) := by
  have h' := RR_17 h 0
  obtain ⟨A, hA, hc, h9, hR⟩ := h'.1
  obtain ⟨a, ha, ea⟩ := hA.1.M
  unfold X10_judge X10_judge_p51 X11_judge
  rw [nm_s (sF ms 17 0)]
  have neg : ∀ y : Int32, ¬ 0 ≤ y → X11_judge_p27 (sF ms 17 0) v y = some (y, sF ms 17 0) := fun y hy => by
    unfold X11_judge_p27 X11_judge_p28
    rw [if_neg hy]
  rcases sh_cases h' v with ⟨_, a1, a2, a3, a4, a5⟩ | ⟨d, hd, e, a1, a2, a3, a4, a5⟩ | ⟨d, hd, e, k, a1, a3, a4, a6, a7, b1, b2, b3, b4, b5⟩ | ⟨d, hd, e, n, st, a1, a2, a3, a4, a5, a6, b1, b2, b3, b4, b5⟩
  · exact ⟨_, _, _, by rw [a2, bnd_s, ob_n, a3, bnd_s], by rw [a5, bnd_s, if_neg (by decide), neg _ (by decide)], h'⟩
  · exact ⟨_, _, _, by rw [a2, bnd_s, ob_n, a3, bnd_s], by rw [a5, bnd_s, if_neg (by decide), neg _ (by decide)], h'⟩
  · exact ⟨_, _, _, by rw [b2, bnd_s, ob_n, b3, bnd_s], by rw [b5, bnd_s, if_neg (by decide), neg _ (by decide)], h'⟩
  · rw [b2, bnd_s, ob_s, X8_isDown_a hA h9, bnd_s, uT_self, nm_s xs, b5, bnd_s, if_pos rfl, hR.2.2.D]
    by_cases D : aD A = 0
    · rw [if_pos D, if_pos D, X8_fallAfter_a hc hA.1 ea ha, bnd_s, uT_self, nm_s]
      obtain ⟨s1, e1, o1⟩ := mo_op hR.2.2 hA.1.L hA.D
      obtain ⟨E, hE1, hE2, hE3, hE4⟩ : ∃ E : Nat, (∀ i, i < E → gT A a i = -4) ∧ (E < 61 → ¬ gT A a E = -4) ∧ E ≤ 61 ∧ (if faL (gT A a) 61 0 = -4 then X10_judge_p56 5000 xs d 61 0 else X10_judge_p56 5000 xs d (faL (gT A a) 61 0) 0) = X10_judge_p56 5000 xs d (nI E) 0 := by
        rcases fa_r (gT A a) 61 0 with ⟨q1, q2, q3⟩ | ⟨j, j1, j2, q1, q2, q3, q4⟩
        · exact ⟨61, fun i hi => q3 i (by omega) (by omega), fun z => absurd z (by omega), Nat.le_refl _, by rw [if_pos q1]; rfl⟩
        · exact ⟨j, fun i hi => q4 i (by omega) hi, fun _ => q3, by omega, by rw [q1, if_neg (nI_z (by omega))]⟩
      have o2 : mo A (aMin (aLit A) (nI (a + (0 - 1)))) (sF ms 17 0) (sF s1 5 1) := by
        have := mo_lit o1
        have em : aMin (aLit A) (nI (a + (0 - 1))) = aLit A := by
          show aMin (aLit A) (nI a) = aLit A
          rw [← ea]
          rfl
        rw [em]
        exact this
      obtain ⟨s2, e2, o3⟩ := X11_judge_l hR hA ha ea hd a2 a3 a4 a5 a6 hE1 hE2 hE3 (4998 - n) n 0 (sF s1 5 1) 0 (by omega) o2 (Or.inl rfl) (fun _ j hj => absurd hj (Nat.not_lt_zero _)) (fun z => absurd z (by decide))
      have e4 := X10_judge_l hc ea a1 a2 a3 (e := E) (by omega) (4999 - n) n 0 (by omega)
      rw [show 4998 - n + 1 + n + 1 = 5000 by omega, nI_0] at e2
      rw [show 4999 - n + n + 1 = 5000 by omega, nI_0] at e4
      have x1 : (if faL (fun k => aFall A (nI (a + k))) 61 0 = -4 then X10_judge_p56 5000 xs d 61 0 else X10_judge_p56 5000 xs d (faL (fun k => aFall A (nI (a + k))) 61 0) 0) = some (juL (gA st 1) (skI (gF st 0)) E (fun i => bcN A (nI (a + i))) n 0, xs) := hE4.trans e4
      rw [x1]
      refine ⟨_, _, s2, rfl, ?_, RR_q h' hA hc h9 o3.1 TK.rf (mo_FR o3)⟩
      unfold X11_judge_p27 X11_judge_p28
      rw [if_pos (by decide), e1, bnd_s, gz_1, nm_s, e]
      exact e2
    · rw [if_neg D, if_neg D]
      exact ⟨_, _, _, rfl, by unfold X11_judge_p28; rw [if_neg (by decide)], h'⟩
