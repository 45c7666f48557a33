/-! a row's town -/
theorem rd_inr {c : Nat → Int32} {i j : Nat} (h : rdS c i = Sum.inr j) : ∃ k, dN (c i) = some k ∧ fdL c k (i + 1) = none ∧ j = i + k + 2 := by
  unfold rdS at h
  cases e : dN (c i) with
  | none => rw [e] at h; exact absurd h (by simp [rdK])
  | some k =>
    rw [e] at h
    have h : rdT c i k (fdL c k (i + 1)) = Sum.inr j := h
    cases e2 : fdL c k (i + 1) with
    | some q => rw [e2] at h; exact absurd h (by simp [rdT])
    | none =>
      rw [e2] at h
      have h : (if c (i + 1 + k) = 59 then Sum.inr (i + k + 2) else Sum.inl (i + 1 + k)) = (Sum.inr j : Sum Nat Nat) := h
      by_cases z : c (i + 1 + k) = 59
      · rw [if_pos z] at h; injection h with h; exact ⟨k, rfl, e2, h.symm⟩
      · rw [if_neg z] at h; exact absurd h (by simp)
theorem ob_any {xs : XS} {A B A0 : AT} {m0 : MS} (h0 : mR A0 m0) {d n : Nat} {st : MS} (hr : xR xs d = some (n, st)) (hn : n ≤ 100) {i q : Nat} (hi : i < 200) (hq51 : q < 51) {x : XS} {s : MS} (hT : TK 1 xs x) (hc : ct B (xT x 1) (xB x 1)) (h9 : gF (xT x 1) 9 = aFall B (aM B)) (hB : okD B) (ho : mo A B m0 s) (hq : okQ (chN (gA st 1) n) m0 q i) {k : Nat} (hk : dN (chN (gA st 1) n i) = some k) (hf : fdL (chN (gA st 1) n) k (i + 1) = none) : OB xs A m0 d i q x s := by
  by_cases h97 : chN (gA st 1) n i = 97
  · exact ob_97 h0 hr hn hi hq51 hT hc h9 hB ho hq h97
  by_cases h99 : chN (gA st 1) n i = 99
  · rw [h99] at hk; have e : some 4 = some k := hk; injection e with e; subst e
    exact ob_99 h0 hr hn hi hq51 hT hc h9 hB ho hq hf h99
  by_cases h102 : chN (gA st 1) n i = 102
  · exact ob_102 h0 hr hn hi hq51 hT hc h9 hB ho hq h102
  by_cases h103 : chN (gA st 1) n i = 103
  · exact ob_103 h0 hr hn hi hq51 hT hc h9 hB ho hq h103
  by_cases h104 : chN (gA st 1) n i = 104
  · exact ob_104 h0 hr hn hi hq51 hT hc h9 hB ho hq h104
  by_cases h108 : chN (gA st 1) n i = 108
  · exact ob_108 h0 hr hn hi hq51 hT hc h9 hB ho hq h108
  by_cases h110 : chN (gA st 1) n i = 110
  · rw [h110] at hk; have e : some 2 = some k := hk; injection e with e; subst e
    exact ob_110 h0 hr hn hi hq51 hT hc h9 hB ho hq hf h110
  by_cases h111 : chN (gA st 1) n i = 111
  · exact ob_111 h0 hr hn hi hq51 hT hc h9 hB ho hq h111
  by_cases h119 : chN (gA st 1) n i = 119
  · exact ob_119 h0 hr hn hi hq51 hT hc h9 hB ho hq h119
  exfalso
  unfold dN at hk
  rw [if_neg h97, if_neg h99, if_neg h102, if_neg h103, if_neg h104, if_neg h108, if_neg h110, if_neg h111, if_neg h119] at hk
  exact absurd hk (by simp)
theorem len_s {y : Int32} {k : Nat} (hk : dN y = some k) : X10_lengthOf y = some (nI (k + 2)) := by
  have h5 := dN_le hk
  unfold X10_lengthOf
  rw [dN_s, hk, bd1_s, nm_s]
  show some ((if 0 < nI k then nI k else 0) + 2) = _
  by_cases c : k = 0
  · subst c; rfl
  · rw [if_pos (show (0 : Int32) < nI k by rw [← nI_0]; exact nI_lt (by omega) (by omega)), show nI k + 2 = nI (k + 2) from nI_add k 2]
theorem m2000 {j : Nat} : (-2000 : Int32) - nI j = (-2000 : Int32) - nI j := rfl
/-- the statements, obeyed one by one -/
theorem town_l {xs : XS} {ms m0 : MS} (h : RR xs ms) (hFR : FR ms m0) {A : AT} (hA : okD A) (hc0 : ct A (xT xs 0) (xB xs 0)) (h90 : gF (xT xs 0) 9 = aFall A (aM A)) (h0 : mR A m0) {d n : Nat} {st : MS} (hr : xR xs d = some (n, st)) (hn : n ≤ 100) {Q : Nat} (hQ : Q < 51) (e22 : gF m0 22 = nI Q) (hend : n ≤ psN (chN (gA st 1) n) Q) (hx : ∀ x, x < Q → rdS (chN (gA st 1) n) (psN (chN (gA st 1) n) x) = Sum.inr (psN (chN (gA st 1) n) (x + 1)) ∧ okQ (chN (gA st 1) n) m0 x (psN (chN (gA st 1) n) x)) (f1 f2 : Nat) : ∀ (m q : Nat) (B : AT) (x : XS) (s : MS), q + m = Q → psN (chN (gA st 1) n) q ≤ 100 → TK 1 xs x → ct B (xT x 1) (xB x 1) → gF (xT x 1) 9 = aFall B (aM B) → okD B → mo A B m0 s → Cm (X10_town_p60 (f1 + m + 1) x d (nI q) (nI (psN (chN (gA st 1) n) q))) (X11_town_p118 (f2 + m + 1) s (nI q)) := by
  intro m
  induction m with
  | zero =>
    intro q B x s e hp hT hc h9 hB ho
    have e : q = Q := by omega
    subst e
    have hxr := (xR_tk hT d).trans hr
    have g22 : gF s 22 = nI q := by rw [ho.2.2.2.2 22 (by decide), e22]
    obtain ⟨x1, e1, t1, c1, n1⟩ := tk01 (xs := x) hc hB.1.L
    rw [X10_town_p60_s, hxr, bd1_s]
    unfold X7_size
    rw [bnd_s, uR_id hxr, nm_s x, if_pos (nI_le hend (by omega)), X11_town_p118_s, g22, if_pos (Int32.le_refl _)]
    unfold X10_town_p123 X11_town_p160
    rw [e1, bnd_s, g22]
    have fx : FX xs x1 := ⟨(t1.1 2 (by decide)).1.trans (hT.1 2 (by decide)).1, (t1.1 2 (by decide)).2.trans (hT.1 2 (by decide)).2, t1.2.trans hT.2⟩
    exact ⟨_, _, _, rfl, rfl, RR_n h hB c1 (n1.trans h9) ho.1 fx (hFR.tr (mo_FR ho))⟩
  | succ m ih =>
    intro q B x s e hp hT hc h9 hB ho
    have hq : q < Q := by omega
    obtain ⟨r1, r2⟩ := hx q hq
    obtain ⟨l1, l2⟩ := rd_lt r1
    obtain ⟨k, k1, k2, k3⟩ := rd_inr r1
    have hxr := (xR_tk hT d).trans hr
    have g22 : gF s 22 = nI Q := by rw [ho.2.2.2.2 22 (by decide), e22]
    obtain ⟨y, x1, s1, e1, e2, t1, ob⟩ := ob_any h0 hr hn (i := psN (chN (gA st 1) n) q) (q := q) (by omega) (by omega) hT hc h9 hB ho r2 k1 k2
    rw [show f1 + (m + 1) + 1 = (f1 + m + 1) + 1 from rfl, show f2 + (m + 1) + 1 = (f2 + m + 1) + 1 from rfl, X10_town_p60_s, hxr, bd1_s]
    unfold X7_size
    rw [bnd_s, uR_id hxr, nm_s x, if_neg (nI_ge (by omega) (by omega)), if_neg (show ¬ (100 : Int32) ≤ nI q from nI_ge (b := 100) (by omega) (by decide)), e1, bnd_s, X11_town_p118_s, g22, if_neg (nI_ge hq (by omega)), e2, bnd_s]
    rcases ob with ⟨y0, B', o⟩ | ⟨y1, t', e3, B', hB', c', n', o⟩
    · rw [if_pos y0, if_pos y0]
      unfold X10_town_p89 X11_town_p134
      obtain ⟨o1, o2, o3, o4, o5⟩ := o
      obtain ⟨s2, c1, c2, c3, c4, c5⟩ := ca_n (jj := 18) (Or.inl rfl) o2 hA.1.L hA.D
      have g23 : gA s2 23 q = nI (psN (chN (gA st 1) n) q) := by
        rw [c3 23 (by decide), o3 23 (by decide)]
        exact r2.1
      have fr : FR m0 s2 := ⟨fun k hk => by
        have h1 : ∀ z ∈ ([0, 1, 11, 12, 13, 14, 15, 18, 27] : List Nat), z ∉ ([2, 3, 4, 9, 10] : List Nat) ∧ z ∉ ([2, 3, 4, 9, 10, 26] : List Nat) := by decide
        exact (c3 k (h1 k hk).1).trans (o3 k (h1 k hk).2), ((c4 16).trans (o4 16)), ((c5 28 (by decide)).trans (o5 28 (by decide)))⟩
      rw [c1, bnd_s, inr_i (by omega : q < 51), nI_cl (by omega : q < 51), g23]
      exact ⟨_, _, _, rfl, rfl, RR_q h hA hc0 h90 c2 t1 (hFR.tr fr)⟩
    · have hxr1 : xR (uT x1 1 t') d = some (n, st) := (xR_tk (t1.uT t') d).trans hr
      rw [if_neg (show ¬ y = 0 by rw [y1]; exact n10), if_neg (show ¬ y = 0 by rw [y1]; exact n10), e3, bnd_s, nm_s, nm_s, hxr1, bd1_s, X7_at_c hn st (by omega), bnd_s, uR_id hxr1, nm_s (uT x1 1 t'), len_s k1, bd1_s, nm_s, nm_s, nI_1, nI_add, show psN (chN (gA st 1) n) q + (k + 2) = psN (chN (gA st 1) n) (q + 1) by omega]
      have x2 : xT (uT x1 1 t') 1 = t' := xT_d
      exact ih (q + 1) B' (uT x1 1 t') s1 (by omega) (by omega) (t1.uT t') (by rw [x2]; exact c') (by rw [x2]; exact n') hB' o
theorem kS_FR {q : Nat} {s s' : MS} (h : kS q s s') : FR s s' := ⟨fun k hk => by
  have h1 : ∀ z ∈ ([0, 1, 11, 12, 13, 14, 15, 18, 27] : List Nat), z ≠ 23 ∧ z ≠ 24 ∧ z ≠ 25 := by decide
  exact h.2.1 k (h1 k hk).1 (h1 k hk).2.1 (h1 k hk).2.2, h.2.2.1 16, h.1 28 (by decide) (by decide) (by decide)⟩
theorem kS_mt {q : Nat} {A : AT} {s s' : MS} (h : kS q s s') (hm : mt A s) : mt A s' := by
  obtain ⟨m1, m2, m3, m4, m5, m6, m7⟩ := hm
  refine ⟨(h.1 5 (by decide) (by decide) (by decide)).trans m1, (h.1 6 (by decide) (by decide) (by decide)).trans m2, (h.1 7 (by decide) (by decide) (by decide)).trans m3, (h.1 8 (by decide) (by decide) (by decide)).trans m4, fun i hi => ?_, fun c hc => ?_, fun x hx => ?_⟩
  · rw [h.2.1 4 (by decide) (by decide) (by decide)]; exact m5 i hi
  · rw [h.2.1 2 (by decide) (by decide) (by decide), h.2.1 3 (by decide) (by decide) (by decide)]; exact m6 c hc
  · rw [h.2.1 9 (by decide) (by decide) (by decide), h.2.1 10 (by decide) (by decide) (by decide)]; exact m7 x hx
theorem mo_op3 {A : AT} {st : MS} (hm : mt A st) (hL : aL A = 0 ∨ aL A = 1) (hD : aD A = 0 ∨ aD A = 1) : ∃ st', X11_carryAll st 18 (1 : Int32) = some ((), st') ∧ mo A A st st' := by
  obtain ⟨s1, e1, h1, h2, h3, h4, h5⟩ := ca_t (jj := 18) (Or.inl rfl) hm hL hD
  exact ⟨s1, e1, h2, h1, fun k hk => h3 k (fun e => hk (by rw [e]; decide)), h4, fun k hk => h5 k (fun e => hk (by rw [e]; decide)) (fun e => hk (by rw [e]; decide))⟩
theorem tw_neg {ms : MS} {v y : Int32} (hy : ¬ y = 0) (hn : ¬ 0 ≤ y) (hw : X11_wrongRow (sF ms 17 0) v = some (y, sF ms 17 0)) : X11_town ms v = some (y, sF ms 17 0) := by
  unfold X11_town X11_town_p29 X11_town_p30
  rw [nm_s, hw, bnd_s, if_neg hy, if_neg hn]
theorem qm_town {xs : XS} {ms : MS} (h : RR xs ms) (v : Int32) : Cm (X10_town xs v) (X11_town ms v) := by
  have h' := RR_17 h 0
  obtain ⟨A, hA, hc, h9, hR⟩ := h'.1
  rcases sh_cases h' v with ⟨_, a1, a2, a3, a4, a5⟩ | ⟨d, hd, e, a1, a2, a3, a4, a5⟩ | ⟨d, hd, e, k, a1, a3, a4, a6, a7, b1, b2, b3, b4, b5⟩ | ⟨d, hd, e, n, st, a1, a2, a3, a4, a5, a6, b1, b2, b3, b4, b5⟩
  · exact ⟨_, _, _, by unfold X10_town; rw [a2, bnd_s, ob_n, a3, bnd_s], tw_neg (by decide) (by decide) a5, h'⟩
  · exact ⟨_, _, _, by unfold X10_town; rw [a2, bnd_s, ob_n, a3, bnd_s], tw_neg (by decide) (by decide) a5, h'⟩
  · exact ⟨_, _, _, by unfold X10_town; rw [b2, bnd_s, ob_n, b3, bnd_s], tw_neg (by decide) (by decide) b5, h'⟩
  · subst e
    unfold X10_town X11_town X11_town_p29 X11_town_p30
    rw [nm_s (sF ms 17 0), b2, bnd_s, ob_s, a1, bd1_s, b5, bnd_s, if_pos rfl, inr_i hd, nI_cl hd, a4]
    by_cases z : gF st 0 = 0
    · rw [if_pos z, if_pos z, if_pos (Int32.le_refl _), nm_s, nm_s, gz_0, nm_s, nm_s]
      have hfu := fu_l a1 a2 4898 101 0 (by omega) (by omega) (by decide)
      rw [nI_0] at hfu
      have ef : X10_firstUnread xs d = some (fuV (fuL (chN (gA st 1) n) n 101 0), xs) := hfu
      have k0 : kS 0 (sF ms 17 0) (sF (sF (sF (sF (sF ms 17 0) 19 (nI d)) 20 0) 21 0) 22 0) → True := fun _ => trivial
      have f1 : FR (sF ms 17 0) (sF (sF (sF (sF (sF ms 17 0) 19 (nI d)) 20 0) 21 0) 22 0) := (((FR_sF _ (a := 19) (by decide) _).tr (FR_sF _ (a := 20) (by decide) _)).tr (FR_sF _ (a := 21) (by decide) _)).tr (FR_sF _ (a := 22) (by decide) _)
      have hm1 : mt A (sF (sF (sF (sF (sF ms 17 0) 19 (nI d)) 20 0) 21 0) 22 0) := hR.2.2
      have hb1 : bR d (gA st 1) n (sF (sF (sF (sF (sF ms 17 0) 19 (nI d)) 20 0) 21 0) 22 0) := ⟨rfl, a5, a6⟩
      have g1 : gF (sF (sF (sF (sF (sF ms 17 0) 19 (nI d)) 20 0) 21 0) 22 0) 21 = 0 := rfl
      have g2 : gF (sF (sF (sF (sF (sF ms 17 0) 19 (nI d)) 20 0) 21 0) 22 0) 20 = nI 0 := rfl
      have g3 : gF (sF (sF (sF (sF (sF ms 17 0) 19 (nI d)) 20 0) 21 0) 22 0) 22 = nI 0 := rfl
      generalize sF (sF (sF (sF (sF ms 17 0) 19 (nI d)) 20 0) 21 0) 22 0 = m1 at f1 hm1 hb1 g1 g2 g3 ⊢
      obtain ⟨m2, e2, k2, b2', tr⟩ := tr_l hd a2 4897 101 0 m1 (by show n ≤ 0 + 101; omega) (Nat.zero_le _) (by decide) (Or.inl rfl) (Nat.zero_le _) hb1 g1 g2 g3 (fun x hx => absurd hx (Nat.not_lt_zero _))
      have f2 : FR (sF ms 17 0) m2 := f1.tr (kS_FR k2)
      have hm2 : mt A m2 := kS_mt k2 hm1
      rw [ef, bnd_s, e2]
      unfold X11_town_p91
      rcases tr with ⟨j, t1, t2, t3, t4⟩ | ⟨t1, t2, Q, t3, t4, t5, t6, t7⟩
      · have t1 : fuL (chN (gA st 1) n) n 101 0 = some j := t1
        rw [t1, show fuV (some j) = nI j from rfl, if_neg (nI_z (by omega)), t2, if_neg n10, t3]
        exact ⟨_, _, _, rfl, rfl, RR_q h' hA hc h9 hm2 TK.rf f2⟩
      · have t1 : fuL (chN (gA st 1) n) n 101 0 = none := t1
        obtain ⟨x1, e3, tk, c1, n1⟩ := tk10 hc hA.1.L
        obtain ⟨s3, e4, o3⟩ := mo_op3 hm2 hA.1.L hA.D
        rw [t1, show fuV none = (-4 : Int32) from rfl, if_pos rfl, t2, if_pos rfl, e3, bnd_s, e4, bnd_s]
        have r := town_l h' f2 hA hc h9 (FR_mR hR f2 hm2) a1 a2 t4 t6 t5 (fun x hx => ⟨(t7 x hx).1, (t7 x hx).2.2⟩) (100 - Q) (4999 - Q) Q 0 A x1 s3 (by omega) (Nat.zero_le _) tk c1 (n1.trans h9) hA o3
        rw [show 100 - Q + Q + 1 = 101 by omega, show 4999 - Q + Q + 1 = 5000 by omega, nI_0] at r
        exact r
    · rw [if_neg z, if_neg z, if_neg (by decide)]
      exact ⟨_, _, _, rfl, rfl, h'⟩
