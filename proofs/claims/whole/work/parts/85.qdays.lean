/-! days by seeds -/
theorem X11_draw_s {st : MS} {n : Int32} (hn : ¬ n = 0) : X11_drawBelow st n = some ((((gF st 35 * 1103515245 + 12345) &&& 2147483647) / 65536) - (((gF st 35 * 1103515245 + 12345) &&& 2147483647) / 65536) / n * n, sF st 35 (gF st 35 * 1103515245 + 12345)) := by
  unfold X11_drawBelow
  rw [nm_s, dvi_65536, dvi_c hn]
  rfl
theorem X10_next_s (z : Int32) : X10_nextSeed z = some (z * 1103515245 + 12345) := rfl
theorem X10_drawn_s (z : Int32) : X10_drawn z = some ((z &&& 2147483647) / 65536) := by
  unfold X10_drawn
  rw [dvi_65536]
theorem draw_r (z : Int32) : ∃ k, k < 32768 ∧ (z &&& 2147483647) / 65536 = nI k := by
  obtain ⟨j, hj, e⟩ := pk_andE z (m := 2147483647) 31 (by decide)
  rw [e]
  refine ⟨j / 65536, by omega, ?_⟩
  rw [i_eq]
  have h1 : (nI j / (65536 : Int32)).toInt = (nI j).toInt.tdiv (65536 : Int32).toInt := Int32.toInt_div_of_ne_right _ _ (by decide)
  rw [h1, nI_toInt (by omega), nI_toInt (by omega), show (65536 : Int32).toInt = ((65536 : Nat) : Int) from rfl]
  rfl
theorem mo_35 {A B : AT} {m0 st : MS} (h : mo A B m0 st) (v : Int32) : mo A B m0 (sF st 35 v) := by
  obtain ⟨g1, g2, g3, g4, g5⟩ := h
  refine ⟨g1, g2, g3, g4, fun k hk => ?_⟩
  rw [gF_sF, if_neg (fun e => hk (by rw [e]; decide))]
  exact g5 k hk
theorem mo_op2 {A : AT} {st : MS} (hm : mt A st) (hL : aL A = 0 ∨ aL A = 1) (hD : aD A = 0 ∨ aD A = 1) : ∃ st', X11_open st = some ((), st') ∧ mo A A st st' ∧ ∀ k, k ≠ 29 → k ≠ 30 → gF st' k = gF st k := by
  obtain ⟨s1, e1, h1, h2, h3, h4, h5⟩ := ca_t (jj := 18) (Or.inl rfl) hm hL hD
  obtain ⟨s2, e2, o⟩ := mo_op hm hL hD
  have e3 : X11_open st = some ((), s1) := by unfold X11_open; rw [e1, bnd_s]
  rw [e3] at e2
  have e4 : s1 = s2 := congrArg Prod.snd (Option.some.inj e2)
  exact ⟨s1, e3, by rw [e4]; exact o, h5⟩
theorem days_l {xs : XS} {A : AT} (hA : okD A) {m0 : MS} (hR : mR A m0) {a : Nat} (ha : a < 1000) (ea : aM A = nI a) {N : Nat} (hN : N < 21) (w : Int32) (f : Nat) : ∀ (n k : Nat) (z right struck : Int32) (t : Nat → Int32) (x : XS) (s : MS), k + n = N → TK 1 xs x → ct (A.1, t, A.2.2) (xT x 1) (xB x 1) → (∀ j, j < 7 → j ≠ 2 → j ≠ 3 → t j = aT A j) → mo A A m0 s → gF s 35 = z → ∃ r x' s', X10_days_p58 (f + n + 1) x (nI N) w z right struck (nI k) = some (r, x') ∧ X11_days_p57 (f + n + 1) s (nI N) w right struck (nI k) = some (r, s') ∧ TK 1 xs x' ∧ mo A A m0 s' := by
  intro n
  induction n with
  | zero =>
    intro k z right struck t x s e hT ht he ho hz
    have e : k = N := by omega
    subst e
    by_cases q : w = 0
    · refine ⟨right, x, s, ?_, ?_, hT, ho⟩
      · rw [X10_days_p58_s, if_pos (Int32.le_refl _)]
        exact if_pos q
      · rw [X11_days_p57_s, if_pos (Int32.le_refl _)]
        exact if_pos q
    · refine ⟨struck, x, s, ?_, ?_, hT, ho⟩
      · rw [X10_days_p58_s, if_pos (Int32.le_refl _)]
        exact if_neg q
      · rw [X11_days_p57_s, if_pos (Int32.le_refl _)]
        exact if_neg q
  | succ n ih =>
    intro k z right struck t x s e hT ht he ho hz
    have hk : k < N := by omega
    obtain ⟨z1, ez1⟩ : ∃ z1, z1 = z * 1103515245 + 12345 := ⟨_, rfl⟩
    obtain ⟨z2, ez2⟩ : ∃ z2, z2 = z1 * 1103515245 + 12345 := ⟨_, rfl⟩
    obtain ⟨d1, hd1, ed1⟩ := draw_r z1
    obtain ⟨d2, hd2, ed2⟩ := draw_r z2
    have ok1 : okB 1000 (aStT A 2 (nI (d1 % 12))) := okB_st hA.1 ⟨d1 % 12, by show d1 % 12 < 12; omega, rfl⟩
    have ok2 : okB 1000 (aStT (aStT A 2 (nI (d1 % 12))) 3 (nI (d2 % 21))) := okB_st ok1 ⟨d2 % 21, by show d2 % 21 < 21; omega, rfl⟩
    obtain ⟨C, eC⟩ : ∃ C, C = aStT (aStT A 2 (nI (d1 % 12))) 3 (nI (d2 % 21)) := ⟨_, rfl⟩
    have c2 : ct C (sA (sA (xT x 1) 3 2 (nI (d1 % 12))) 3 3 (nI (d2 % 21))) (xB x 1) := by
      rw [eC]
      refine ct_pt (ct_st (ct_st ht 2 (nI (d1 % 12))) 3 (nI (d2 % 21))) rfl (fun j hj => ?_) (fun _ _ => ⟨rfl, rfl⟩) (fun _ _ => ⟨rfl, rfl⟩)
      show (if j = 3 then nI (d2 % 21) else (if j = 2 then nI (d1 % 12) else t j)) = (if j = 3 then nI (d2 % 21) else (if j = 2 then nI (d1 % 12) else aT A j))
      by_cases q3 : j = 3
      · rw [if_pos q3, if_pos q3]
      · rw [if_neg q3, if_neg q3]
        by_cases q2 : j = 2
        · rw [if_pos q2, if_pos q2]
        · rw [if_neg q2, if_neg q2]
          exact he j hj q2 q3
    have o2 : mo A C m0 (sA (sF (sA (sF s 35 z1) 4 2 (nI (d1 % 12))) 35 z2) 4 3 (nI (d2 % 21))) := by
      rw [eC]
      exact mo_st (mo_35 (mo_st (mo_35 ho z1) 2 (nI (d1 % 12))) z2) 3 (nI (d2 % 21))
    rw [← eC] at ok2
    have eaC : aM C = nI a := by rw [eC]; exact ea
    obtain ⟨s3, e3, f33, f34, m, hm, o3, hj, b6⟩ := mo_burn o2 hR ok2 eaC
    obtain ⟨s4, e4, o4, f4, _⟩ := mo_cl o3 hA.1.L hA.D
    have g35 : gF s4 35 = z2 := by
      rw [f4 35 (by decide), b6 35 (by decide)]
      rfl
    obtain ⟨l, hl, el⟩ := hA.1.T6
    have elC : aT C 6 = nI l := by rw [eC]; exact el
    have m6 : gA s3 4 6 = nI l := by rw [o3.1.T (i := 6) (by decide)]; exact elC
    obtain ⟨y, ey⟩ : ∃ y, y = uT (uT x 1 (sA (xT x 1) 3 2 (nI (d1 % 12)))) 1 (sA (sA (xT x 1) 3 2 (nI (d1 % 12))) 3 3 (nI (d2 % 21))) := ⟨_, rfl⟩
    have y1 : xT y 1 = sA (sA (xT x 1) 3 2 (nI (d1 % 12))) 3 3 (nI (d2 % 21)) := by rw [ey]; exact xT_d
    have yB : xB y = xB x := by rw [ey]; rfl
    have hTy : TK 1 xs y := by rw [ey]; exact (hT.uT _).uT _
    have cy : ct C (xT y 1) (xB y 1) := by rw [y1, yB]; exact c2
    have cy2 : ct (A.1, aT C, A.2.2) (xT y 1) (xB y 1) := by
      have : (A.1, aT C, A.2.2) = C := by rw [eC]; rfl
      rw [this]
      exact cy
    have hey : ∀ j, j < 7 → j ≠ 2 → j ≠ 3 → aT C j = aT A j := fun j _ q2 q3 => by
      rw [eC]
      show (if j = 3 then nI (d2 % 21) else (if j = 2 then nI (d1 % 12) else aT A j)) = aT A j
      rw [if_neg q3, if_neg q2]
    have X1 : X10_days_p58 (f + (n + 1) + 1) x (nI N) w z right struck (nI k) = (if faL (gT C a) 61 0 = -4 then X10_days_p197 (fun xs v1 v3 v4 v5 v6 v7 => X10_days_p58 (f + n + 1) xs v1 v3 v4 v5 v6 v7) y (nI N) w z2 right struck (nI k) else
        bnd (X8_fallSideAt (xT y 1) (gF (xT y 1) 8 + faL (gT C a) 61 0)) fun y_32 st_33 => nm (uT y 1 st_33) fun xs_35 => inr (6 : Int32) 7 <|
          if y_32 = (gA (xT xs_35 1) 3 (6 : Int32).toNatClampNeg) then
            (X10_days_p175 (fun xs v1 v3 v4 v5 v6 v7 => X10_days_p58 (f + n + 1) xs v1 v3 v4 v5 v6 v7) xs_35 (nI N) w z2 struck (nI k) (gF (xT y 1) 8 + faL (gT C a) 61 0) y_32 right (1 : Int32))
          else
          X10_days_p175 (fun xs v1 v3 v4 v5 v6 v7 => X10_days_p58 (f + n + 1) xs v1 v3 v4 v5 v6 v7) xs_35 (nI N) w z2 struck (nI k) (gF (xT y 1) 8 + faL (gT C a) 61 0) y_32 right (0 : Int32)) := by
      rw [show f + (n + 1) + 1 = (f + n + 1) + 1 from rfl, X10_days_p58_s, if_neg (nI_ge hk (by omega)), X10_next_s, bd1_s, ← ez1, X10_drawn_s, bd1_s, dvi_12, ic_2, cz_2, ed1, rm_12 (by omega), nm_s, X10_next_s, bd1_s, ← ez2, X10_drawn_s, bd1_s, dvi_21, ic_3, cz_3, ed2, rm_21 (by omega), xT_d, nm_s, ← ey, X8_fallAfter_a cy ok2 eaC ha, bnd_s, uT_self, nm_s y, nm_s]
      rfl
    have M1 : X11_days_p57 (f + (n + 1) + 1) s (nI N) w right struck (nI k) = (if faS (gT C a) 61 0 = nI l then X11_days_p112 (fun st v1 v3 v4 v5 v6 => X11_days_p57 (f + n + 1) st v1 v3 v4 v5 v6) s3 (nI N) w struck (nI k) right (1 : Int32) else X11_days_p112 (fun st v1 v3 v4 v5 v6 => X11_days_p57 (f + n + 1) st v1 v3 v4 v5 v6) s3 (nI N) w struck (nI k) right (0 : Int32)) := by
      rw [show f + (n + 1) + 1 = (f + n + 1) + 1 from rfl, X11_days_p57_s, if_neg (nI_ge hk (by omega)), X11_draw_s (by decide), bnd_s, hz, ← ez1, ed1, rm_12 (by omega), ic_2, cz_2, nm_s, X11_draw_s (by decide), bnd_s, show gF (sA (sF s 35 z1) 4 2 (nI (d1 % 12))) 35 = z1 from rfl, ← ez2, ed2, rm_21 (by omega), ic_3, cz_3, nm_s, e3, bnd_s, ic_6, cz_6, f34, m6]
    rw [X1, M1]
    unfold X11_days_p112 X11_days_p139
    rw [f34]
    rcases fa_r (gT C a) 61 0 with ⟨q1, q2, _⟩ | ⟨j, j1, j2, q1, q2, q3, _⟩
    · rw [q1, q2, if_pos rfl, if_neg (fun q => nI_z (i := l) (by omega) q.symm), nm_s, if_neg (by decide), nm_s, Int32.add_zero, Int32.add_zero, e4, bnd_s, nm_s, nI_1]
      unfold X10_days_p197
      rw [nm_s, nI_1]
      exact ih (k + 1) z2 right struck (aT C) y s4 (by omega) hTy cy2 hey o4 g35
    · have hmj : m = j := hj j (by omega) q1
      subst hmj
      have gr : ∃ sd, sd < 12 ∧ gT C a m = nI sd := by
        rcases aFall_r C (nI (a + m)) with z | z
        · exact absurd z q3
        · exact z
      obtain ⟨sd, hsd, esd⟩ := gr
      have esd' : aFall C (nI (a + m)) = nI sd := esd
      have ok3 : okB 2000 (aMin (aLit C) (nI (a + m))) := okB_lit ok2 (by omega)
      have es : X11_struckBy s3 (nI sd) = some (stP C (nI (a + m)) sd, s3) := X11_struckBy_a o3.1 ok3 hsd
      rw [q1, q2, esd, if_neg (nI_z (by omega)), cy.M, eaC, nI_add, X8_fallSideAt_a cy ok2, bnd_s, uT_self, nm_s y, esd', ic_6, cz_6, cy.T (by decide), elC]
      unfold X10_days_p175 X10_days_p197
      simp only [nm_s]
      have p0 : (0 : Int32) ≤ nI sd := nI_pos' (by omega)
      by_cases c : nI sd = nI l
      · rw [if_pos c, if_pos c, if_pos p0, es, bnd_s, (cnS_s ok2 (nI (a + m)) sd).2.1, bd1_s, e4, bnd_s, X8_struckBy_a cy ok2 _ hsd, bnd_s, uT_self, (cnS_s ok2 (nI (a + m)) sd).1, bd1_s, nI_1]
        exact ih (k + 1) z2 (right + 1) (struck + cnS C (nI (a + m)) sd) (aT C) y s4 (by omega) hTy cy2 hey o4 g35
      · rw [if_neg c, if_neg c, if_pos p0, es, bnd_s, (cnS_s ok2 (nI (a + m)) sd).2.1, bd1_s, e4, bnd_s, X8_struckBy_a cy ok2 _ hsd, bnd_s, uT_self, (cnS_s ok2 (nI (a + m)) sd).1, bd1_s, nI_1]
        exact ih (k + 1) z2 (right + 0) (struck + cnS C (nI (a + m)) sd) (aT C) y s4 (by omega) hTy cy2 hey o4 g35
theorem qm_days {xs : XS} {ms : MS} (h : RR xs ms) (n z w : Int32) : Cm (X10_days xs n z w) (X11_days ms n z w) := by
  have h' := RR_17 h 0
  obtain ⟨A, hA, hc, h9, hR⟩ := h'.1
  obtain ⟨a, ha, ea⟩ := hA.1.M
  unfold X10_days X11_days
  rw [nm_s (sF ms 17 0)]
  by_cases n1 : n < 1
  · rw [if_pos n1, X11_in_f (lo := 1) (hi := 20) (by decide) (by decide) (Or.inl n1), bd1_s, if_pos rfl]
    exact ⟨_, _, _, rfl, rfl, h'⟩
  rw [if_neg n1]
  by_cases n2 : 20 < n
  · rw [if_pos n2, X11_in_f (lo := 1) (hi := 20) (by decide) (by decide) (Or.inr n2), bd1_s, if_pos rfl]
    exact ⟨_, _, _, rfl, rfl, h'⟩
  rw [if_neg n2, X11_in_t (lo := 1) (hi := 20) (by decide) (by decide) (Int32.not_lt.mp n1) (Int32.not_lt.mp n2), bd1_s, if_neg n10]
  by_cases hv : isN 2 w
  · obtain ⟨v0, v1⟩ := in01 hv
    rw [if_neg v0, if_pos v1, X8_isDown_a hA h9, bnd_s, uT_self, nm_s xs, X11_in_n (n := 1) (by decide) (by decide) hv, bd1_s, if_neg n10, hR.2.2.D]
    by_cases D : aD A = 0
    · rw [if_pos D, if_pos D]
      obtain ⟨N, hN, eN⟩ := nI_of2 (M := 20) (n := 20) (x := n) (by decide) (fun q => n1 (by rw [i_lt] at q ⊢; rw [t_0] at q; rw [show (1 : Int32).toInt = 1 from rfl]; omega)) (Int32.not_lt.mp n2)
      obtain ⟨x1, e1, t1, c0, c1⟩ := take_a hc hA.1.L
      have hm35 : mt A (sF (sF ms 17 0) 35 z) := hR.2.2
      obtain ⟨s1, e2, o1, f1⟩ := mo_op2 hm35 hA.1.L hA.D
      have hR35 : mR A (sF (sF ms 17 0) 35 z) := FR_mR hR (FR_sF _ (by decide) _) hm35
      have z35 : gF s1 35 = z := by
        rw [f1 35 (by decide) (by decide)]
        rfl
      obtain ⟨r, x2, s2, r1, r2, t2, o2⟩ := days_l (xs := xs) hA hR35 ha ea (N := N) (by omega) w (4999 - N) N 0 z 0 0 (aT A) x1 s1 (by omega) t1 c1 (fun _ _ _ _ => rfl) o1 z35
      rw [show 4999 - N + N + 1 = 5000 by omega, nI_0, ← eN] at r1 r2
      rw [e1, bnd_s, nm_s, e2, bnd_s]
      exact ⟨_, _, _, r1, r2, RR_q h' hA hc h9 o2.1 t2 ((FR_sF _ (by decide) _).tr (mo_FR o2))⟩
    · rw [if_neg D, if_neg D]
      exact ⟨_, _, _, rfl, rfl, h'⟩
  · rw [X11_in_nf (n := 1) (by decide) (by decide) hv, bd1_s, if_pos rfl]
    by_cases v0 : w < 0
    · rw [if_pos v0]
      exact ⟨_, _, _, rfl, rfl, h'⟩
    · rw [if_neg v0, if_neg (in01n hv v0)]
      exact ⟨_, _, _, rfl, rfl, h'⟩
