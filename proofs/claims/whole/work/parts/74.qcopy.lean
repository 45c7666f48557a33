/-! what is counted; copies -/
theorem X11_bearing_l {A : AT} {st : MS} (hR : mR A st) {N : Nat} (hok : okB N A) : ∀ (n i : Nat) (acc : Int32), i + n = 12 → X11_bearing_p4 (n + 1) st acc (nI i) = some (sumF (cnF (bAt (aBe A) (aBu A) (aM A))) n i acc, st) := by
  intro n
  induction n with
  | zero =>
    intro i acc h
    have h : i = 12 := by omega
    subst h
    rw [X11_bearing_p4_s, if_pos n12_t]
    rfl
  | succ n ih =>
    intro i acc h
    have hi : i < 12 := by omega
    rw [X11_bearing_p4_s, if_neg (n12_f hi), X11_bearsOf_a hR hok hi, bnd_s]
    show _ = some (sumF _ n (i + 1) (acc + (if bAt (aBe A) (aBu A) (aM A) i ≤ 0 then 0 else 1)), st)
    unfold X11_bearing_p24
    by_cases c : bAt (aBe A) (aBu A) (aM A) i ≤ 0
    · rw [if_pos c, if_pos c, nm_s, nm_s, nI_1]
      exact ih (i + 1) _ (by omega)
    · rw [if_neg c, if_neg c, nm_s, nm_s, nI_1]
      exact ih (i + 1) _ (by omega)
theorem X11_bearing_a {A : AT} {st : MS} (hR : mR A st) {N : Nat} (hok : okB N A) : X11_bearing st = some (sumF (cnF (bAt (aBe A) (aBu A) (aM A))) 12 0 0, st) := by
  have h := X11_bearing_l hR hok 12 0 0 (by decide)
  rw [nI_0] at h
  exact h
theorem X11_count_l {A : AT} {st : MS} (hR : mR A st) {N : Nat} (hok : okB N A) : ∀ (n i : Nat) (acc : Int32), i + n = 12 → X11_count_p99 (n + 1) st acc (nI i) = some (sumF (bAt (aBe A) (aBu A) (aM A)) n i acc, st) := by
  intro n
  induction n with
  | zero =>
    intro i acc h
    have h : i = 12 := by omega
    subst h
    rw [X11_count_p99_s, if_pos n12_t]
    rfl
  | succ n ih =>
    intro i acc h
    have hi : i < 12 := by omega
    rw [X11_count_p99_s, if_neg (n12_f hi), X11_bearsOf_a hR hok hi, bnd_s, nm_s, nm_s, nI_1]
    exact ih (i + 1) _ (by omega)
theorem ic_6' {γ : Type} {X : Option γ} : inr (6 : Int32) 7 X = X := ic_6
theorem qm_count {xs : XS} {ms : MS} (h : RR xs ms) (v : Int32) : Cm (X10_count xs v) (X11_count ms v) := by
  have h' := RR_17 h 0
  obtain ⟨A, hA, hc, h9, hR⟩ := h'.1
  unfold X10_count X10_count_p79 X10_count_p95 X11_count X11_count_p78 X11_count_p91
  rw [nm_s (sF ms 17 0)]
  by_cases v0 : v = 0
  · rw [if_pos v0, if_pos v0, hc.H, hR.2.2.H]
    exact ⟨_, _, _, rfl, rfl, h'⟩
  rw [if_neg v0, if_neg v0]
  by_cases v1 : v = 1
  · rw [if_pos v1, if_pos v1, hc.M, hR.2.2.M]
    exact ⟨_, _, _, rfl, rfl, h'⟩
  rw [if_neg v1, if_neg v1]
  by_cases v2 : v = 2
  · rw [if_pos v2, if_pos v2, hc.L, hR.2.2.L]
    by_cases c : aL A = 0
    · rw [if_pos c, if_pos c]
      exact ⟨_, _, _, rfl, rfl, h'⟩
    · rw [if_neg c, if_neg c]
      exact ⟨_, _, _, rfl, rfl, h'⟩
  rw [if_neg v2, if_neg v2]
  by_cases v3 : v = 3
  · rw [if_pos v3, if_pos v3, X8_isDown_a hA h9, bnd_s, uT_self, nm_s, hR.2.2.D]
    by_cases c : aD A = 0
    · rw [if_pos c, if_pos c]
      exact ⟨_, _, _, rfl, rfl, h'⟩
    · rw [if_neg c, if_neg c]
      exact ⟨_, _, _, rfl, rfl, h'⟩
  rw [if_neg v3, if_neg v3]
  by_cases v4 : v = 4
  · rw [if_pos v4, if_pos v4, X8_countBearing_a hc, bnd_s, uT_self, nm_s, X11_bearing_a hR hA.1, bnd_s, hc.M]
    exact ⟨_, _, _, rfl, rfl, h'⟩
  rw [if_neg v4, if_neg v4]
  by_cases v5 : v = 5
  · have e := X11_count_l hR hA.1 12 0 0 (by decide)
    rw [nI_0] at e
    rw [if_pos v5, if_pos v5, X8_allBears_a hc, bnd_s, uT_self, nm_s]
    exact ⟨_, _, _, rfl, e, h'⟩
  rw [if_neg v5, if_neg v5]
  by_cases v6 : v = 6
  · rw [if_pos v6, if_pos v6, ic_6, ic_6, cz_6, hc.T (by decide), hR.2.2.T (by decide)]
    exact ⟨_, _, _, rfl, rfl, h'⟩
  rw [if_neg v6, if_neg v6]
  by_cases v7 : v = 7
  · rw [if_pos v7, if_pos v7, ic_5, ic_5, cz_5, hc.T (by decide), hR.2.2.T (by decide)]
    exact ⟨_, _, _, rfl, rfl, h'⟩
  rw [if_neg v7, if_neg v7]
  exact ⟨_, _, _, rfl, rfl, h'⟩
/-! copies -/
theorem copy_1 {d e i j N : Nat} (hd : d < 8) (hi : i + N ≤ 100) (f : Nat) : ∀ (n k : Nat) (st : MS), k + n = N → ∃ st', X11_copy_p137 (f + n + 1) st (nI d) (nI i) (nI e) (nI j) (nI N) (nI k) = X11_copy_p171 st' (nI e) (nI j) (nI N) ∧ (∀ q, gA st' q = gA st q) ∧ (∀ q, gF st' q = gF st q) ∧ (∀ x, gL st' 16 x = gL st 16 x) ∧ (∀ x, (k ≤ x ∧ x < N → gL st' 36 x = gL st 16 (100 * d + i + x)) ∧ (x < k → gL st' 36 x = gL st 36 x)) := by
  intro n
  induction n with
  | zero =>
    intro k st h
    refine ⟨st, ?_, fun _ => rfl, fun _ => rfl, fun _ => rfl, fun x => ⟨fun q => by omega, fun _ => rfl⟩⟩
    rw [X11_copy_p137_s, if_pos (nI_le (by omega) (by omega))]
  | succ n ih =>
    intro k st h
    have hk : k < N := by omega
    obtain ⟨s1, e1, g1, g2, g3, g4⟩ := ih (k + 1) (sL st 36 k (gL st 16 (100 * d + i + k))) (by omega)
    refine ⟨s1, ?_, g1, g2, fun x => ?_, fun x => ⟨fun q => ?_, fun q => ?_⟩⟩
    · rw [show f + (n + 1) + 1 = (f + n + 1) + 1 from rfl, X11_copy_p137_s, if_neg (nI_ge hk (by omega)), n100, nI_add, nI_add, inr_i (by omega : 100 * d + i + k < 800), inr_i (by omega : k < 100), nm_s, nI_1, nm_s, nI_cl (by omega : k < 100), nI_cl (by omega : 100 * d + i + k < 800)]
      exact e1
    · rw [g3 x, gL_sL, if_neg (by decide)]
    · by_cases c : x = k
      · rw [(g4 x).2 (by omega), gL_sL, if_pos rfl, if_pos c, c]
      · rw [(g4 x).1 (by omega), gL_sL, if_neg (by decide)]
    · rw [(g4 x).2 (by omega), gL_sL, if_pos rfl, if_neg (by omega)]
theorem copy_2 {e j N : Nat} (he : e < 8) (hj : j + N ≤ 100) (f : Nat) : ∀ (n k : Nat) (st : MS), k + n = N → ∃ st', X11_copy_p174 (f + n + 1) st (nI e) (nI j) (nI N) (nI k) = some (nI N, st') ∧ (∀ q, gA st' q = gA st q) ∧ (∀ q, gF st' q = gF st q) ∧ (∀ x, (100 * e + j + k ≤ x ∧ x < 100 * e + j + N → gL st' 16 x = gL st 36 (x - (100 * e + j))) ∧ (x < 100 * e + j + k ∨ 100 * e + j + N ≤ x → gL st' 16 x = gL st 16 x)) := by
  intro n
  induction n with
  | zero =>
    intro k st h
    refine ⟨st, ?_, fun _ => rfl, fun _ => rfl, fun x => ⟨fun q => by omega, fun _ => rfl⟩⟩
    rw [X11_copy_p174_s, if_pos (nI_le (by omega) (by omega))]
    rfl
  | succ n ih =>
    intro k st h
    have hk : k < N := by omega
    obtain ⟨s1, e1, g1, g2, g4⟩ := ih (k + 1) (sL st 16 (100 * e + j + k) (gL st 36 k)) (by omega)
    refine ⟨s1, ?_, g1, g2, fun x => ⟨fun q => ?_, fun q => ?_⟩⟩
    · rw [show f + (n + 1) + 1 = (f + n + 1) + 1 from rfl, X11_copy_p174_s, if_neg (nI_ge hk (by omega)), n100, nI_add, nI_add, inr_i (by omega : k < 100), inr_i (by omega : 100 * e + j + k < 800), nm_s, nI_1, nm_s, nI_cl (by omega : k < 100), nI_cl (by omega : 100 * e + j + k < 800)]
      exact e1
    · by_cases c : x = 100 * e + j + k
      · rw [(g4 x).2 (by omega), gL_sL, if_pos rfl, if_pos c, show x - (100 * e + j) = k by omega]
      · rw [(g4 x).1 (by omega), gL_sL, if_neg (by decide)]
    · rw [(g4 x).2 (by omega), gL_sL, if_pos rfl, if_neg (by omega)]
theorem X7_has_y {n : Nat} (hn : n ≤ 100) (st : MS) {v w : Int32} (h : 0 ≤ v.toInt ∧ 0 ≤ w.toInt ∧ v.toInt + w.toInt ≤ n) : X7_has n st v w = some (1, st) := by rw [X7_has_s hn, if_pos h]
theorem X7_has_n {n : Nat} (hn : n ≤ 100) (st : MS) {v w : Int32} (h : ¬ (0 ≤ v.toInt ∧ 0 ≤ w.toInt ∧ v.toInt + w.toInt ≤ n)) : X7_has n st v w = some (0, st) := by rw [X7_has_s hn, if_neg h]
theorem gA_sAA (st : MS) (k : Nat) (f : Nat → Int32) (j : Nat) : gA (sAA st k f) j = if j = k then f else gA st j := rfl
theorem qm_copy {xs : XS} {ms : MS} (h : RR xs ms) (v1 v2 v3 v4 v5 : Int32) : Cm (X10_copy xs v1 v2 v3 v4 v5) (X11_copy ms v1 v2 v3 v4 v5) := by
  have h' := RR_17 h 0
  unfold X10_copy X11_copy
  rw [nm_s (sF ms 17 0)]
  by_cases hv1 : isN 8 v1
  · obtain ⟨d, hd, rfl⟩ := hv1
    rw [X10_isShelf_t ⟨d, hd, rfl⟩, bd1_s, if_neg n10, X11_in_n (n := 7) (by decide) (by decide) ⟨d, hd, rfl⟩, bd1_s, if_neg n10]
    by_cases hv3 : isN 8 v3
    · obtain ⟨e, he, rfl⟩ := hv3
      rw [X10_isShelf_t ⟨e, he, rfl⟩, bd1_s, if_neg n10, X11_in_n (n := 7) (by decide) (by decide) ⟨e, he, rfl⟩, bd1_s, if_neg n10]
      simp only [inr_i hd, inr_i he, nI_cl hd, nI_cl he]
      have bare : ∀ x, x < 8 → (X10_isBare xs (nI x) = some (1, xs) ∧ gA (sF ms 17 0) 11 x = 0) ∨ (X10_isBare xs (nI x) = some (0, xs) ∧ ¬ gA (sF ms 17 0) 11 x = 0) := fun x hx => by
        rcases h'.2.2 x hx with ⟨a1, a2, a3⟩ | ⟨k, a1, a2, a3, a4, a5, a6, a7⟩ | ⟨n, st, a1, a2, a3, a4, a5, a6, a7, a8⟩
        · exact Or.inl ⟨X10_ib_n hx a1 a2, a3⟩
        · exact Or.inr ⟨X10_ib_k hx a1, by rw [a5]; decide⟩
        · exact Or.inr ⟨X10_ib_r hx a1 a2, by rw [a5]; decide⟩
      rcases bare d hd with ⟨b1, b2⟩ | ⟨b1, b2⟩
      · rw [b1, bnd_s, if_neg n10, if_pos b2]
        exact ⟨_, _, _, rfl, rfl, h'⟩
      rw [b1, bnd_s, if_pos rfl, if_neg b2]
      rcases bare e he with ⟨b3, b4⟩ | ⟨b3, b4⟩
      · rw [b3, bnd_s, if_neg n10, if_pos b4]
        exact ⟨_, _, _, rfl, rfl, h'⟩
      rw [b3, bnd_s, if_pos rfl, if_neg b4]
      have row : ∀ x, x < 8 → ¬ gA (sF ms 17 0) 11 x = 0 → (oR xs x = none ∧ ¬ gA (sF ms 17 0) 11 x = 2) ∨ ∃ n st, oR xs x = some x ∧ xR xs x = some (n, st) ∧ n ≤ 100 ∧ isN 3 (gF st 0) ∧ gA (sF ms 17 0) 11 x = 2 ∧ gA (sF ms 17 0) 14 x = gF st 0 ∧ gA (sF ms 17 0) 15 x = nI n ∧ xK xs x = none ∧ ∀ i, i < n → gL (sF ms 17 0) 16 (100 * x + i) = (gA st 1 i).toInt64 := fun x hx hn => by
        rcases h'.2.2 x hx with ⟨a1, a2, a3⟩ | ⟨k, a1, a2, a3, a4, a5, a6, a7⟩ | ⟨n, st, a1, a2, a3, a4, a5, a6, a7, a8⟩
        · exact absurd a3 hn
        · exact Or.inl ⟨by unfold oR; rw [a2]; rfl, by rw [a5]; decide⟩
        · exact Or.inr ⟨n, st, by unfold oR; rw [a2]; rfl, a2, a3, a4, a5, a6, a7, a1, a8⟩
      rcases row d hd b2 with ⟨r1, r2⟩ | ⟨n, st, r1, r2, r3, r4, r5, r6, r7, r8, r9⟩
      · rw [r1, ob_n, if_neg r2]
        exact ⟨_, _, _, rfl, rfl, h'⟩
      rw [r1, ob_s, if_pos r5]
      rcases row e he b4 with ⟨t1, t2⟩ | ⟨n', st', t1, t2, t3, t4, t5, t6, t7, t8, t9⟩
      · rw [t1, ob_n, if_neg t2]
        exact ⟨_, _, _, rfl, rfl, h'⟩
      rw [t1, ob_s, if_pos t5, r2, bd1_s, t2, bd1_s, r6, t6]
      by_cases hs : gF st 0 = gF st' 0
      · rw [if_pos hs, if_pos hs, bd1_s, r7, t7]
        have tn : (nI n).toInt = n := nI_toInt (by omega)
        have tn' : (nI n').toInt = n' := nI_toInt (by omega)
        by_cases c1 : v5 < 0
        · rw [if_pos c1]
          rw [i_lt, t_0] at c1
          rw [X7_has_n r3 st (by omega), bnd_s, uR_id r2, nm_s, if_pos rfl]
          exact ⟨_, _, _, rfl, rfl, h'⟩
        rw [if_neg c1]
        by_cases c2 : v2 < 0
        · rw [if_pos c2]
          rw [i_lt, t_0] at c2
          rw [X7_has_n r3 st (by omega), bnd_s, uR_id r2, nm_s, if_pos rfl]
          exact ⟨_, _, _, rfl, rfl, h'⟩
        rw [if_neg c2]
        have c1' := c1
        have c2' := c2
        rw [i_lt, t_0] at c1' c2'
        have ts : (nI n - v5).toInt = (n : Int) - v5.toInt := by
          have := v5.toInt_lt
          rw [q_sub (by rw [tn]; omega) (by rw [tn]; omega), tn]
        have ts' : (nI n' - v5).toInt = (n' : Int) - v5.toInt := by
          have := v5.toInt_lt
          rw [q_sub (by rw [tn']; omega) (by rw [tn']; omega), tn']
        by_cases c3 : v4 < 0
        · rw [if_pos c3]
          by_cases q : 0 ≤ v2.toInt ∧ 0 ≤ v5.toInt ∧ v2.toInt + v5.toInt ≤ n
          · rw [i_lt, t_0] at c3
            rw [X7_has_y r3 st q, bnd_s, uR_id r2, nm_s, if_neg n10, t2, bd1_s, X7_has_n t3 st' (by omega), bnd_s, uR_id t2, nm_s, if_pos rfl]
            exact ⟨_, _, _, rfl, rfl, h'⟩
          · rw [X7_has_n r3 st q, bnd_s, uR_id r2, nm_s, if_pos rfl]
            exact ⟨_, _, _, rfl, rfl, h'⟩
        rw [if_neg c3]
        have c3' := c3
        rw [i_lt, t_0] at c3'
        by_cases c4 : nI n - v5 < v2
        · rw [if_pos c4]
          rw [i_lt, ts] at c4
          rw [X7_has_n r3 st (by omega), bnd_s, uR_id r2, nm_s, if_pos rfl]
          exact ⟨_, _, _, rfl, rfl, h'⟩
        rw [if_neg c4]
        rw [i_lt, ts] at c4
        rw [X7_has_y r3 st (by omega), bnd_s, uR_id r2, nm_s, if_neg n10, t2, bd1_s]
        by_cases c5 : v4 ≤ nI n' - v5
        · rw [if_pos c5]
          rw [i_le, ts'] at c5
          rw [X7_has_y t3 st' (by omega), bnd_s, uR_id t2, nm_s, if_neg n10, r2, bd1_s, t2, bd1_s]
          obtain ⟨N, hN, eN⟩ := nI_of c1
          obtain ⟨i, hi, ei⟩ := nI_of c2
          obtain ⟨j, hj, ej⟩ := nI_of c3
          subst eN; subst ei; subst ej
          rw [nI_toInt hN, nI_toInt hi] at c4
          rw [nI_toInt hN, nI_toInt hj] at c5
          have hN5 : N < 5000 := by omega
          obtain ⟨s1, e1, g1, g2, g3, g4⟩ := copy_1 (e := e) (j := j) (N := N) hd (i := i) (by omega) (4999 - N) N 0 (sF ms 17 0) (by omega)
          obtain ⟨s2, e2, k1, k2, k4⟩ := copy_2 (e := e) (j := j) (N := N) he (by omega) (4999 - N) N 0 s1 (by omega)
          rw [show 4999 - N + N + 1 = 5000 by omega, nI_0] at e1 e2
          have cN : (nI N).toNatClampNeg = N := nI_clamp hN
          have ci : (nI i).toNatClampNeg = i := nI_clamp hi
          have cj : (nI j).toNatClampNeg = j := nI_clamp hj
          have ec : ∀ X : Option (Int32 × XS), cpk (nI i) (nI j) (nI N) n n' X = X := fun X => by
            unfold cpk
            rw [cN, ci, cj]
            refine if_neg ?_
            rintro (q | q | q | q | q)
            · exact c2 q
            · exact c3 q
            · exact c1 q
            · omega
            · omega
          rw [bd1_s, bd1_s, ec, nm_s, e1]
          unfold X11_copy_p171
          rw [cN, ci, cj]
          refine ⟨_, _, _, rfl, e2, ?_⟩
          refine RR_s (d := e) h' (fun _ => rfl) (fun _ => rfl) rfl (fun q _ => by rw [k1, g1]) (fun q hq => by rw [k2, g2]) (fun x hx hne => ⟨rfl, ?_, fun q _ => by rw [k1, g1], fun y hy => ?_⟩) ?_
          · rw [xR_uR, if_neg hne]
          · rw [(k4 _).2 (by omega), g3]
          · rw [xR_uR, if_pos rfl]
            refine Or.inr (Or.inr ⟨n', _, t8, rfl, t3, t4, ?_, ?_, ?_, fun y hy => ?_⟩)
            · rw [k1, g1]; exact t5
            · rw [k1, g1]; exact t6
            · rw [k1, g1]; exact t7
            · rw [gA_sAA, if_pos rfl]
              unfold va_cpy
              by_cases q : j ≤ y ∧ y < j + N
              · rw [if_pos q, (k4 _).1 (by omega), (g4 _).1 (by omega), show 100 * d + i + (100 * e + y - (100 * e + j)) = 100 * d + (i + (y - j)) by omega]
                exact r9 _ (by omega)
              · rw [if_neg q, (k4 _).2 (by omega), g3]
                exact t9 y hy
        · rw [if_neg c5]
          rw [i_le, ts'] at c5
          rw [X7_has_n t3 st' (by omega), bnd_s, uR_id t2, nm_s, if_pos rfl]
          exact ⟨_, _, _, rfl, rfl, h'⟩
      · rw [if_neg hs, if_neg hs]
        exact ⟨_, _, _, rfl, rfl, h'⟩
    · rw [X10_isShelf_f hv3, bd1_s, if_pos rfl, X11_in_nf (n := 7) (by decide) (by decide) hv3, bd1_s, if_pos rfl]
      exact ⟨_, _, _, rfl, rfl, h'⟩
  · rw [X10_isShelf_f hv1, bd1_s, if_pos rfl, X11_in_nf (n := 7) (by decide) (by decide) hv1, bd1_s, if_pos rfl]
    exact ⟨_, _, _, rfl, rfl, h'⟩
