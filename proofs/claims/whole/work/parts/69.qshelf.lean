/-! shelves -/
theorem qm_cost {xs : XS} {ms : MS} (h : RR xs ms) (v : Int32) : Cm (X10_cost xs v) (X11_cost ms v) := by
  have h' := RR_17 h 0
  unfold X10_cost X10_cost_p22 X11_cost X11_cost_p36
  rw [nm_s]
  rcases sh_cases h' v with ⟨_, a1, a2, a3, a4, a5⟩ | ⟨d, hd, e, a1, a2, a3, a4, a5⟩ | ⟨d, hd, e, k, a1, a3, a4, a6, a7, b1, b2, b3, b4, b5⟩ | ⟨d, hd, e, n, st, _, _, _, _, _, _, a1, a2, a3, a4, a5⟩
  · exact ⟨_, _, _, by rw [a1, bnd_s, ob_n, a3, bnd_s], by rw [a4, bnd_s, if_neg (by decide), a4, bnd_s], h'⟩
  · exact ⟨_, _, _, by rw [a1, bnd_s, ob_n, a3, bnd_s], by rw [a4, bnd_s, if_neg (by decide), a4, bnd_s], h'⟩
  · refine ⟨_, _, _, by rw [b1, bnd_s, ob_s], ?_, h'⟩
    rw [b4, bnd_s, if_pos (by decide), e, inr_i hd, inr_i hd, nI_cl hd, a6, a7, pr_k a3, bd1_s]
  · exact ⟨_, _, _, by rw [a1, bnd_s, ob_n, a3, bnd_s], by rw [a4, bnd_s, if_neg (by decide), a4, bnd_s], h'⟩
theorem ts_k {k : BK} (hk : k.1 < 8) (st : MS) : (if kiB k = (1 : Int32) then some ((-15 : Int32), st) else if k.2 = 0 then some ((-15 : Int32), st) else if kiB k = (2 : Int32) then X11_toss_p55 st k.2 else if kiB k = (3 : Int32) then X11_toss_p55 st k.2 else if kiB k = (6 : Int32) then (bd1 (X11_costOf (kiB k) k.2) fun y_15 => X11_toss_p81 st ((200 : Int32) + y_15)) else X11_toss_p81 st k.2) = some (tossB k, st) := by
  rw [pr_k hk, bd1_s]
  unfold X11_toss_p55 X11_toss_p81
  obtain ⟨n, f⟩ := k
  have h : n < 8 := hk
  have hn : n = 0 ∨ n = 1 ∨ n = 2 ∨ n = 3 ∨ n = 4 ∨ n = 5 ∨ n = 6 ∨ n = 7 := by omega
  rcases hn with e | e | e | e | e | e | e | e <;> subst e
  · show (if (0 : Int32) = 1 then _ else if f = 0 then _ else if (0 : Int32) = 2 then _ else if (0 : Int32) = 3 then _ else if (0 : Int32) = 6 then _ else _) = some ((if f = 0 then (-15 : Int32) else f), st)
    by_cases c : f = 0
    · rw [if_neg (by decide), if_pos c, if_pos c]
    · rw [if_neg (by decide), if_neg c, if_neg (by decide), if_neg (by decide), if_neg (by decide), if_neg c]
  · exact if_pos rfl
  · show (if (2 : Int32) = 1 then _ else if f = 0 then _ else if (2 : Int32) = 2 then _ else if (2 : Int32) = 3 then _ else if (2 : Int32) = 6 then _ else _) = some ((if f = 0 then (-15 : Int32) else 100 + f), st)
    by_cases c : f = 0
    · rw [if_neg (by decide), if_pos c, if_pos c]
    · rw [if_neg (by decide), if_neg c, if_pos rfl, if_neg c]
  · show (if (3 : Int32) = 1 then _ else if f = 0 then _ else if (3 : Int32) = 2 then _ else if (3 : Int32) = 3 then _ else if (3 : Int32) = 6 then _ else _) = some ((if f = 0 then (-15 : Int32) else 100 + f), st)
    by_cases c : f = 0
    · rw [if_neg (by decide), if_pos c, if_pos c]
    · rw [if_neg (by decide), if_neg c, if_neg (by decide), if_pos rfl, if_neg c]
  · show (if (4 : Int32) = 1 then _ else if f = 0 then _ else if (4 : Int32) = 2 then _ else if (4 : Int32) = 3 then _ else if (4 : Int32) = 6 then _ else _) = some ((if f = 0 then (-15 : Int32) else f), st)
    by_cases c : f = 0
    · rw [if_neg (by decide), if_pos c, if_pos c]
    · rw [if_neg (by decide), if_neg c, if_neg (by decide), if_neg (by decide), if_neg (by decide), if_neg c]
  · show (if (5 : Int32) = 1 then _ else if f = 0 then _ else if (5 : Int32) = 2 then _ else if (5 : Int32) = 3 then _ else if (5 : Int32) = 6 then _ else _) = some ((if f = 0 then (-15 : Int32) else f), st)
    by_cases c : f = 0
    · rw [if_neg (by decide), if_pos c, if_pos c]
    · rw [if_neg (by decide), if_neg c, if_neg (by decide), if_neg (by decide), if_neg (by decide), if_neg c]
  · show (if (6 : Int32) = 1 then _ else if f = 0 then _ else if (6 : Int32) = 2 then _ else if (6 : Int32) = 3 then _ else if (6 : Int32) = 6 then _ else _) = some ((if f = 0 then (-15 : Int32) else 200 + prB ((6, f) : BK)), st)
    by_cases c : f = 0
    · rw [if_neg (by decide), if_pos c, if_pos c]
    · rw [if_neg (by decide), if_neg c, if_neg (by decide), if_neg (by decide), if_pos rfl, if_neg c]
  · show (if (7 : Int32) = 1 then _ else if f = 0 then _ else if (7 : Int32) = 2 then _ else if (7 : Int32) = 3 then _ else if (7 : Int32) = 6 then _ else _) = some ((if f = 0 then (-15 : Int32) else f), st)
    by_cases c : f = 0
    · rw [if_neg (by decide), if_pos c, if_pos c]
    · rw [if_neg (by decide), if_neg c, if_neg (by decide), if_neg (by decide), if_neg (by decide), if_neg c]
theorem qm_toss {xs : XS} {ms : MS} (h : RR xs ms) (v : Int32) : Cm (X10_toss xs v) (X11_toss ms v) := by
  have h' := RR_17 h 0
  unfold X10_toss X11_toss
  rw [nm_s]
  rcases sh_cases h' v with ⟨_, a1, a2, a3, a4, a5⟩ | ⟨d, hd, e, a1, a2, a3, a4, a5⟩ | ⟨d, hd, e, k, a1, a3, a4, a6, a7, b1, b2, b3, b4, b5⟩ | ⟨d, hd, e, n, st, _, _, _, _, _, _, a1, a2, a3, a4, a5⟩
  · exact ⟨_, _, _, by rw [a1, bnd_s, ob_n, a3, bnd_s], by rw [a4, bnd_s, if_neg (by decide), a4, bnd_s], h'⟩
  · exact ⟨_, _, _, by rw [a1, bnd_s, ob_n, a3, bnd_s], by rw [a4, bnd_s, if_neg (by decide), a4, bnd_s], h'⟩
  · refine ⟨_, _, _, by rw [b1, bnd_s, ob_s], ?_, h'⟩
    rw [b4, bnd_s, if_pos (by decide), e, inr_i hd, nm_s, inr_i hd, nm_s, nI_cl hd, a6, a7]
    exact ts_k a3 _
  · exact ⟨_, _, _, by rw [a1, bnd_s, ob_n, a3, bnd_s], by rw [a4, bnd_s, if_neg (by decide), a4, bnd_s], h'⟩
theorem RR_s {xs xs' : XS} {ms ms' : MS} (h : RR xs ms) {d : Nat} (h0 : ∀ j, xT xs' j = xT xs j) (h1 : ∀ j, xB xs' j = xB xs j) (h2 : xI xs' = xI xs) (hA : ∀ k, k ∉ ([11, 12, 13, 14, 15] : List Nat) → gA ms' k = gA ms k) (hF : ∀ k, k ≠ 17 → gF ms' k = gF ms k)
    (ho : ∀ e, e < 8 → e ≠ d → xK xs' e = xK xs e ∧ xR xs' e = xR xs e ∧ (∀ k, k ∈ ([11, 12, 13, 14, 15] : List Nat) → gA ms' k e = gA ms k e) ∧ ∀ i, i < 100 → gL ms' 16 (100 * e + i) = gL ms 16 (100 * e + i)) (ht : RSd (xK xs' d) (xR xs' d) ms' d) : RR xs' ms' := by
  obtain ⟨⟨A, hA0, hc, h9, hM, h18, m1, m2, m3, m4, m5, m6, m7⟩, hI, hS⟩ := h
  refine ⟨⟨A, hA0, by rw [h0, h1]; exact hc, by rw [h0]; exact h9, ⟨fun i hi => ?_, fun i hi => ?_⟩, fun c hc => ?_, ?_, ?_, ?_, ?_, fun i hi => ?_, fun c hc => ?_, fun x hx => ?_⟩, ?_, fun e he => ?_⟩
  · rw [hA 0 (by decide)]; exact hM.1 i hi
  · rw [hA 1 (by decide)]; exact hM.2 i hi
  · rw [hA 18 (by decide)]; exact h18 c hc
  · rw [hF 5 (by decide)]; exact m1
  · rw [hF 6 (by decide)]; exact m2
  · rw [hF 7 (by decide)]; exact m3
  · rw [hF 8 (by decide)]; exact m4
  · rw [hA 4 (by decide)]; exact m5 i hi
  · rw [hA 2 (by decide), hA 3 (by decide)]; exact m6 c hc
  · rw [hA 9 (by decide), hA 10 (by decide)]; exact m7 x hx
  · rw [h0, h1, h2, hF 28 (by decide), hA 27 (by decide)]; exact hI
  · by_cases c : e = d
    · rw [c]; exact ht
    · obtain ⟨g1, g2, g3, g4⟩ := ho e he c
      rw [g1, g2]
      rcases hS e he with ⟨a1, a2, a3⟩ | ⟨k, a1, a2, a3, a4, a5, a6, a7⟩ | ⟨n, st, a1, a2, a3, a4, a5, a6, a7, a8⟩
      · exact Or.inl ⟨a1, a2, by rw [g3 11 (by decide)]; exact a3⟩
      · exact Or.inr (Or.inl ⟨k, a1, a2, a3, a4, by rw [g3 11 (by decide)]; exact a5, by rw [g3 12 (by decide)]; exact a6, by rw [g3 13 (by decide)]; exact a7⟩)
      · exact Or.inr (Or.inr ⟨n, st, a1, a2, a3, a4, by rw [g3 11 (by decide)]; exact a5, by rw [g3 14 (by decide)]; exact a6, by rw [g3 15 (by decide)]; exact a7, fun i hi => by rw [g4 i (by omega)]; exact a8 i hi⟩)
theorem xK_uK (xs : XS) (d : Nat) (o : Option BK) (e : Nat) : xK (uK xs d o) e = if e = d then o else xK xs e := rfl
theorem X10_keep_p41_s {xs : XS} {d : Nat} (hd : d < 8) (o : Option BK) : X10_keep_p41 xs (nI d) o = some (0, uR (uK xs d o) d none) := by
  unfold X10_keep_p41
  rw [inr_i hd, nm_s, inr_i hd, nm_s, nI_cl hd]
theorem X11_keep_p59_s {st : MS} {d : Nat} (hd : d < 8) (w k f : Int32) : X11_keep_p59 st (nI d) w k f = some (0, sA (sA (sA st 11 d w) 12 d (if w = 1 then k else 0)) 13 d (if w = 1 then f else 0)) := by
  unfold X11_keep_p59 X11_keep_p81 X11_keep_p98
  rw [inr_i hd, nm_s, nI_cl hd]
  by_cases c : w = 1
  · simp only [if_pos c]
    rw [inr_i hd, nm_s, inr_i hd, nm_s]
  · simp only [if_neg c]
    rw [inr_i hd, nm_s, inr_i hd, nm_s]
theorem RR_keep {xs : XS} {ms : MS} (h : RR xs ms) {d : Nat} (hd : d < 8) {o : Option BK} {w k f : Int32} (hh : (o = none ∧ w = 0) ∨ ∃ kb : BK, o = some kb ∧ w = 1 ∧ k = kiB kb ∧ f = kb.2 ∧ kb.1 < 8 ∧ isN 10 kb.2) : RR (uR (uK xs d o) d none) (sA (sA (sA ms 11 d w) 12 d k) 13 d f) := by
  refine RR_s (d := d) h (fun _ => rfl) (fun _ => rfl) rfl (fun j hj => ?_) (fun _ _ => rfl) (fun e he hne => ⟨?_, ?_, fun j hj => ?_, fun _ _ => rfl⟩) ?_
  · rw [gA_sAn _ _ (fun e => hj (by rw [e]; decide)), gA_sAn _ _ (fun e => hj (by rw [e]; decide)), gA_sAn _ _ (fun e => hj (by rw [e]; decide))]
  · show (if e = d then o else xK xs e) = _
    rw [if_neg hne]
  · rw [xR_uR, if_neg hne]
    rfl
  · rw [gA_sA, gA_sA, gA_sA]
    simp only [if_neg hne, ite_self]
  · have r0 : xR (uR (uK xs d o) d none) d = none := by rw [xR_uR, if_pos rfl]
    have k0 : xK (uR (uK xs d o) d none) d = o := by
      show (if d = d then o else xK xs d) = o
      rw [if_pos rfl]
    rw [r0, k0]
    have g11 : gA (sA (sA (sA ms 11 d w) 12 d k) 13 d f) 11 d = w := by rw [gA_sA, if_neg (by decide), gA_sA, if_neg (by decide), gA_sA, if_pos rfl, if_pos rfl]
    have g12 : gA (sA (sA (sA ms 11 d w) 12 d k) 13 d f) 12 d = k := by rw [gA_sA, if_neg (by decide), gA_sA, if_pos rfl, if_pos rfl]
    have g13 : gA (sA (sA (sA ms 11 d w) 12 d k) 13 d f) 13 d = f := by rw [gA_sA, if_pos rfl, if_pos rfl]
    rcases hh with ⟨e1, e2⟩ | ⟨kb, e1, e2, e3, e4, e5, e6⟩
    · exact Or.inl ⟨e1, rfl, by rw [g11, e2]⟩
    · exact Or.inr (Or.inl ⟨kb, e1, rfl, e5, e6, by rw [g11, e2], by rw [g12, e3], by rw [g13, e4]⟩)
theorem brickOf_s {xs : XS} {k f : Int32} : (∃ j, j < 8 ∧ k = nI j ∧ isN 10 f ∧ X10_brickOf xs k f = some (some ((j, f) : BK), xs)) ∨ (¬ (isN 8 k ∧ isN 10 f) ∧ X10_brickOf xs k f = some (none, xs)) := by
  unfold X10_brickOf X10_brickOf_p10
  by_cases f0 : f < 0
  · rw [if_pos f0]
    refine Or.inr ⟨fun ⟨_, j, hj, e⟩ => ?_, rfl⟩
    rw [e] at f0
    exact nI_pos (by omega) f0
  rw [if_neg f0]
  by_cases f9 : f ≤ 9
  · rw [if_pos f9]
    have hf : isN 10 f := by
      obtain ⟨j, hj, e⟩ := nI_of2 (M := 9) (n := 9) (by decide) f0 f9
      exact ⟨j, by omega, e⟩
    by_cases k0 : k = 0
    · rw [if_pos k0]; exact Or.inl ⟨0, by decide, k0, hf, rfl⟩
    rw [if_neg k0]
    by_cases k1 : k = 1
    · rw [if_pos k1]; exact Or.inl ⟨1, by decide, k1, hf, rfl⟩
    rw [if_neg k1]
    by_cases k2 : k = 2
    · rw [if_pos k2]; exact Or.inl ⟨2, by decide, k2, hf, rfl⟩
    rw [if_neg k2]
    by_cases k3 : k = 3
    · rw [if_pos k3]; exact Or.inl ⟨3, by decide, k3, hf, rfl⟩
    rw [if_neg k3]
    by_cases k4 : k = 4
    · rw [if_pos k4]; exact Or.inl ⟨4, by decide, k4, hf, rfl⟩
    rw [if_neg k4]
    by_cases k5 : k = 5
    · rw [if_pos k5]; exact Or.inl ⟨5, by decide, k5, hf, rfl⟩
    rw [if_neg k5]
    by_cases k6 : k = 6
    · rw [if_pos k6]; exact Or.inl ⟨6, by decide, k6, hf, rfl⟩
    rw [if_neg k6]
    by_cases k7 : k = 7
    · rw [if_pos k7]; exact Or.inl ⟨7, by decide, k7, hf, rfl⟩
    rw [if_neg k7]
    refine Or.inr ⟨fun ⟨⟨j, hj, e⟩, _⟩ => ?_, rfl⟩
    have hn : j = 0 ∨ j = 1 ∨ j = 2 ∨ j = 3 ∨ j = 4 ∨ j = 5 ∨ j = 6 ∨ j = 7 := by omega
    rcases hn with c | c | c | c | c | c | c | c <;> rw [c] at e <;> contradiction
  · rw [if_neg f9]
    refine Or.inr ⟨fun ⟨_, j, hj, e⟩ => f9 ?_, rfl⟩
    rw [e]
    exact nI_le (a := j) (b := 9) (by omega) (by decide)
theorem qm_keep {xs : XS} {ms : MS} (h : RR xs ms) (v w k f : Int32) : Cm (X10_keep xs v w k f) (X11_keep ms v w k f) := by
  have h' := RR_17 h 0
  by_cases hv : isN 8 v
  · obtain ⟨d, hd, rfl⟩ := hv
    unfold X10_keep X11_keep
    rw [nm_s, X10_isShelf_t ⟨d, hd, rfl⟩, bd1_s, if_neg n10, X11_in_n (n := 7) (by decide) (by decide) ⟨d, hd, rfl⟩, bd1_s, if_neg n10]
    by_cases hw : isN 2 w
    · have w01 : w = 0 ∨ w = 1 := by
        obtain ⟨j, hj, e⟩ := hw
        have : j = 0 ∨ j = 1 := by omega
        rcases this with c | c <;> rw [c] at e
        · exact Or.inl e
        · exact Or.inr e
      rw [X11_in_n (n := 1) (by decide) (by decide) hw, bd1_s, if_neg n10]
      rcases w01 with e | e
      · subst e
        rw [if_neg (by decide), if_pos (by decide), if_neg (by decide), if_neg (by decide), X10_keep_p41_s hd, X11_keep_p59_s hd]
        exact ⟨_, _, _, rfl, rfl, RR_keep h' hd (Or.inl ⟨rfl, rfl⟩)⟩
      · subst e
        rw [if_neg (by decide), if_pos (by decide), if_pos rfl, if_pos rfl]
        rcases brickOf_s (xs := xs) (k := k) (f := f) with ⟨j, hj, ek, hf, eb⟩ | ⟨hn, eb⟩
        · rw [eb, bnd_s, ob_s, X10_keep_p41_s hd, X11_in_n (n := 7) (by decide) (by decide) ⟨j, hj, ek⟩, bd1_s, if_neg n10, X11_in_n (n := 9) (by decide) (by decide) hf, bd1_s, if_neg n10, X11_keep_p59_s hd]
          exact ⟨_, _, _, rfl, rfl, RR_keep h' hd (Or.inr ⟨(j, f), rfl, rfl, by rw [if_pos rfl, ek]; exact (ki_n (k := ((j, f) : BK)) hj).symm, if_pos rfl, hj, hf⟩)⟩
        · rw [eb, bnd_s, ob_n]
          by_cases hk : isN 8 k
          · have hf : ¬ isN 10 f := fun hf => hn ⟨hk, hf⟩
            rw [X11_in_n (n := 7) (by decide) (by decide) hk, bd1_s, if_neg n10, X11_in_nf (n := 9) (by decide) (by decide) hf, bd1_s, if_pos rfl]
            exact ⟨_, _, _, rfl, rfl, h'⟩
          · rw [X11_in_nf (n := 7) (by decide) (by decide) hk, bd1_s, if_pos rfl]
            exact ⟨_, _, _, rfl, rfl, h'⟩
    · rw [X11_in_nf (n := 1) (by decide) (by decide) hw, bd1_s, if_pos rfl]
      rcases isN_f hw (by decide) with g | g
      · rw [if_pos g]
        exact ⟨_, _, _, rfl, rfl, h'⟩
      · have w0 : ¬ w < 0 := fun q => by
          rw [i_le, show (nI 2).toInt = 2 from rfl] at g
          rw [i_lt, t_0] at q
          omega
        have w1 : ¬ w ≤ 1 := fun q => by
          rw [i_le, show (nI 2).toInt = 2 from rfl] at g
          rw [i_le, show (1 : Int32).toInt = 1 from rfl] at q
          omega
        rw [if_neg w0, if_neg w1]
        exact ⟨_, _, _, rfl, rfl, h'⟩
  · apply Cm_i h'
    · unfold X10_keep
      rw [X10_isShelf_f hv, bd1_s, if_pos rfl]
    · unfold X11_keep
      rw [nm_s, X11_in_nf (n := 7) (by decide) (by decide) hv, bd1_s, if_pos rfl]
