/-! the lane's fewest, round, more on, the wedge, sits -/
def foL (g : Nat → Int32) (l : Int32) : Nat → Nat → Nat → Nat
  | 0, _, b => b
  | n + 1, i, b => if (b = 0 ∨ pcN i < pcN b) ∧ g i = l then foL g l n (i + 1) i else foL g l n (i + 1) b
theorem foL_t {g : Nat → Int32} {l : Int32} {n i b : Nat} (h : (b = 0 ∨ pcN i < pcN b) ∧ g i = l) : foL g l (n + 1) i b = foL g l n (i + 1) i := if_pos h
theorem foL_f {g : Nat → Int32} {l : Int32} {n i b : Nat} (h : ¬ ((b = 0 ∨ pcN i < pcN b) ∧ g i = l)) : foL g l (n + 1) i b = foL g l n (i + 1) b := if_neg h
def foR (b : Nat) : Int32 := if b = 0 then -4 else nI b
def foC (b : Nat) : Int32 := if b = 0 then 13 else nI (pcN b)
theorem forLane_1 {xs : XS} {A : AT} {N : Nat} (hok : okB N A) (hc : ct A (xT xs 0) (xB xs 0)) (f : Nat) : ∀ (n i b : Nat) (K F : Nat → Int32) (x : XS), i + n = 4096 → 1 ≤ i → b < 4096 → TK 1 xs x → ct (aKF A K F) (xT x 1) (xB x 1) → ∃ x', X10_forLane_p32 (f + n + 1) x (foR b) (foC b) (nI i) = some (foR (foL (fun v => aFall (aCut A v) (aM A)) (aT A 6) n i b), x') ∧ TK 1 xs x' := by
  intro n
  induction n with
  | zero =>
    intro i b K F x e h1 hb hT ht
    refine ⟨x, ?_, hT⟩
    rw [X10_forLane_p32_s, if_pos (show (4095 : Int32) < nI i from nI_lt (a := 4095) (by omega) (by omega))]
    rfl
  | succ n ih =>
    intro i b K F x e h1 hb hT ht
    have hi : i < 4096 := by omega
    have cx := TK1_c hT hc
    obtain ⟨p1, _, p3⟩ := pc_s hi
    obtain ⟨_, _, p6⟩ := pc_s hb
    obtain ⟨x2, e2, t2, c2⟩ := fallsWithout_a hok cx hi ht
    have cx2 := TK1_c (hT.tr t2) hc
    rw [show f + (n + 1) + 1 = (f + n + 1) + 1 from rfl, X10_forLane_p32_s, if_neg (show ¬ (4095 : Int32) < nI i from nI_nlt (a := 4095) (by omega) (by decide)), p1, bd1_s]
    unfold X10_forLane_p74
    have hle : foC b ≤ nI (pcN i) ↔ ¬ (b = 0 ∨ pcN i < pcN b) := by
      unfold foC
      by_cases q : b = 0
      · rw [if_pos q]
        exact ⟨fun z => absurd z (show ¬ (13 : Int32) ≤ nI (pcN i) from nI_ge (b := 13) p3 (by decide)), fun z => absurd (Or.inl q) z⟩
      · rw [if_neg q, nI_leI (by omega) (by omega)]
        omega
    by_cases q : foC b ≤ nI (pcN i)
    · rw [if_pos q, foL_f (fun z => hle.mp q z.1), nm_s, nI_1]
      exact ih (i + 1) b K F x (by omega) (by omega) hb hT ht
    · rw [if_neg q, e2, bnd_s, ic_6, cz_6, cx2.T (by decide)]
      have q' : b = 0 ∨ pcN i < pcN b := Decidable.not_not.mp (fun z => q (hle.mpr z))
      by_cases z : aFall (aCut A i) (aM A) = aT A 6
      · rw [if_pos z, foL_t ⟨q', z⟩, nm_s, nI_1]
        have i0 : ¬ i = 0 := by omega
        have r := ih (i + 1) i _ _ x2 (by omega) (by omega) hi (hT.tr t2) c2
        rw [show foR i = nI i from if_neg i0, show foC i = nI (pcN i) from if_neg i0] at r
        exact r
      · rw [if_neg z, foL_f (fun y => z y.2), nm_s, nI_1]
        exact ih (i + 1) b _ _ x2 (by omega) (by omega) hb (hT.tr t2) c2
theorem forLane_2 {m0 : MS} {A : AT} (hA : okD A) (hR : mR A m0) (f : Nat) : ∀ (n i b : Nat) (s : MS), i + n = 4096 → 1 ≤ i → b < 4096 → mo A A m0 s → ∃ s', X11_forLane_p24 (f + n + 1) s (foR b) (nI i) = some (foR (foL (fun v => aFall (aCut A v) (aM A)) (aT A 6) n i b), s') ∧ mo A A m0 s' := by
  intro n
  induction n with
  | zero =>
    intro i b s e h1 hb ho
    refine ⟨s, ?_, ho⟩
    rw [X11_forLane_p24_s, if_pos (show (4096 : Int32) ≤ nI i from nI_le (a := 4096) (by omega) (by omega))]
    rfl
  | succ n ih =>
    intro i b s e h1 hb ho
    have hi : i < 4096 := by omega
    obtain ⟨_, p2, p3⟩ := pc_s hi
    obtain ⟨_, p5, p6⟩ := pc_s hb
    obtain ⟨s2, e2, o2⟩ := mo_cutAll ho hi
    obtain ⟨s3, e3, o3, _⟩ := mo_cl o2 hA.1.L hA.D
    have ef := X11_fallSide_a (mo_mR o2 hR) (okB_cut hA.1 i)
    rw [show aM (aCut A i) = aM A from rfl] at ef
    have t6 : gA s2 4 6 = aT A 6 := o2.1.T (i := 6) (by decide)
    have k46 : (b = 0 ∨ pcN i < pcN b) → ∃ s', X11_forLane_p46 (fun st v1 v2 => X11_forLane_p24 (f + n + 1) st v1 v2) s (foR b) (nI i) = some (foR (foL (fun v => aFall (aCut A v) (aM A)) (aT A 6) (n + 1) i b), s') ∧ mo A A m0 s' := fun q => by
      unfold X11_forLane_p46 X11_forLane_p70 X11_forLane_p75
      rw [e2, bnd_s, ef, bnd_s, ic_6, cz_6, t6]
      by_cases z : aFall (aCut A i) (aM A) = aT A 6
      · rw [if_pos z, foL_t ⟨q, z⟩, e3, bnd_s, nm_s, nI_1]
        have r := ih (i + 1) i s3 (by omega) (by omega) hi o3
        rw [show foR i = nI i from if_neg (by omega)] at r
        exact r
      · rw [if_neg z, foL_f (fun y => z y.2), e3, bnd_s, nm_s, nI_1]
        exact ih (i + 1) b s3 (by omega) (by omega) hb o3
    rw [show f + (n + 1) + 1 = (f + n + 1) + 1 from rfl, X11_forLane_p24_s, if_neg (show ¬ (4096 : Int32) ≤ nI i from nI_ge (b := 4096) (by omega) (by decide))]
    by_cases q : b = 0
    · rw [if_pos (show foR b < 0 by rw [show foR b = -4 from if_pos q]; decide)]
      exact k46 (Or.inl q)
    · have eb : foR b = nI b := if_neg q
      rw [if_neg (show ¬ foR b < 0 by rw [eb]; exact nI_pos (by omega)), p2, bd1_s]
      rw [eb] at k46 ⊢
      rw [p5, bd1_s]
      by_cases y : pcN b ≤ pcN i
      · rw [if_pos (nI_le y (by omega)), foL_f (fun z => by rcases z.1 with w | w <;> omega)]
        unfold X11_forLane_p75
        rw [nm_s, nI_1]
        have r := ih (i + 1) b s (by omega) (by omega) hb ho
        rw [eb] at r
        exact r
      · rw [if_neg (nI_ge (by omega) (by omega))]
        exact k46 (Or.inr (by omega))
theorem qm_forLane {xs : XS} {ms : MS} (h : RR xs ms) : Cm (X10_forLane xs) (X11_forLane ms) := by
  have h' := RR_17 h 0
  obtain ⟨A, hA, hc, h9, hR⟩ := h'.1
  unfold X10_forLane X11_forLane
  rw [nm_s (sF ms 17 0), X8_isDown_a hA h9, bnd_s, uT_self, nm_s xs, hR.2.2.D]
  by_cases D : aD A = 0
  · rw [if_pos D, if_pos D]
    obtain ⟨x1, e1, t1, c0, c1⟩ := take_a hc hA.1.L
    obtain ⟨s1, e2, o1⟩ := mo_op hR.2.2 hA.1.L hA.D
    rw [e1, bnd_s, e2, bnd_s]
    obtain ⟨x2, r1, t2⟩ := forLane_1 hA.1 hc 1 4095 1 0 (aK A) (aF A) x1 (by decide) (by decide) (by decide) t1 c1
    obtain ⟨s2, r2, o2⟩ := forLane_2 hA hR 1 4095 1 0 s1 (by decide) (by decide) (by decide) o1
    exact ⟨_, _, _, r1, r2, RR_q h' hA hc h9 o2.1 t2 (mo_FR o2)⟩
  · rw [if_neg D, if_neg D]
    exact ⟨_, _, _, rfl, rfl, h'⟩
/-! round -/
theorem cut_0 {x : XS} {B : AT} (ht : ct B (xT x 1) (xB x 1)) {c : Nat} (hc : c < 12) : ∃ x', X8_replace_1 x (nI c) ((1, 0) : BK) = some ((), x') ∧ TK 1 x x' ∧ ct (aRep B c 1 0) (xT x' 1) (xB x' 1) := by
  obtain ⟨x1, e1, t1, c1, _⟩ := X8_replace_1_a ht hc (k := ((1, 0) : BK)) (by decide)
  exact ⟨x1, e1, t1, c1⟩
theorem okB_cut1 {N : Nat} {B : AT} (h : okB N B) (c : Nat) : okB N (aRep B c 1 0) := okA_rep h ⟨1, by decide, rfl⟩ ⟨0, by decide, rfl⟩
theorem round_l {xs : XS} {A : AT} (hA : okD A) {m0 : MS} (hR : mR A m0) {l : Nat} (hl : l < 12) : ∀ (n k : Nat) (B : AT) (x : XS) (s : MS), k + n = 6 → TK 1 xs x → ct B (xT x 1) (xB x 1) → mo A B m0 s → okB 1000 B → ∃ r x' s', X10_round_p37 (n + 1) x (nI l) (nI k) = some (r, x') ∧ X11_round_p32 (n + 1) s (-4) (nI l) (nI k) = some (r, s') ∧ TK 1 xs x' ∧ mo A A m0 s' := by
  intro n
  induction n with
  | zero =>
    intro k B x s e hT ht ho hok
    have e : k = 6 := by omega
    subst e
    obtain ⟨s3, e3, o3, _⟩ := mo_cl ho hA.1.L hA.D
    refine ⟨-4, x, s3, ?_, ?_, hT, o3⟩
    · rw [X10_round_p37_s, if_pos n6_t]
    · rw [X11_round_p32_s, if_pos n6_t]
      unfold X11_round_p99 X11_round_p113
      rw [e3, bnd_s, if_neg (by decide)]
  | succ n ih =>
    intro k B x s e hT ht ho hok
    have hk : k < 6 := by omega
    obtain ⟨x1, e1, t1, c1⟩ := cut_0 ht (c := (l + k) % 12) (by omega)
    obtain ⟨x2, e2, t2, c2⟩ := cut_0 c1 (c := (l + 12 - k) % 12) (by omega)
    obtain ⟨s1, f1, o1⟩ := mo_cut ho (c := (l + k) % 12) (by omega)
    obtain ⟨s2, f2, o2⟩ := mo_cut o1 (c := (l + 12 - k) % 12) (by omega)
    obtain ⟨s3, f3, o3, _⟩ := mo_cl o2 hA.1.L hA.D
    have ok2 := okB_cut1 (okB_cut1 hok ((l + k) % 12)) ((l + 12 - k) % 12)
    obtain ⟨C, eC⟩ : ∃ C, C = aRep (aRep B ((l + k) % 12) 1 0) ((l + 12 - k) % 12) 1 0 := ⟨_, rfl⟩
    rw [← eC] at c2 o2 ok2
    have R2 := mo_mR o2 hR
    rw [X10_round_p37_s, if_neg (n6_f hk), nI_add, ar_p (l + k) (by omega), bd1_s, e1, bnd_s, ar_m l hl k (by omega), bd1_s, e2, bnd_s, X8_fallSideAt_a c2 ok2, bnd_s, uT_self, nm_s x2, c2.M]
    rw [X11_round_p32_s, if_neg (n6_f hk), if_pos rfl, dvi_12, nI_add, rm_12 (by omega), f1, bnd_s, dvi_12, show nI l + (12 : Int32) = nI (l + 12) from nI_add l 12, pk_sub (by omega), rm_12 (by omega), f2, bnd_s, X11_stands_a R2 ok2, bnd_s, X11_fallSide_a R2 ok2, bnd_s]
    unfold X11_round_p92 X11_round_p93 X10_round_p98 X10_round_p113
    have en : ∀ v : Int32, ¬ v = -4 → X11_round_p32 (n + 1) s2 v (nI l) (nI (k + 1)) = some ((if 0 ≤ v then v else -4), s3) := fun v hv => by
      rw [X11_round_p32_s, if_neg hv]
      unfold X11_round_p99 X11_round_p113
      rw [f3, bnd_s]
      by_cases z : 0 ≤ v
      · rw [if_pos z, ite_self, if_pos z]
      · rw [if_neg z, ite_self, if_neg z]
    by_cases q : aFall C (aM C) = -4
    · rw [if_pos q, if_pos q, if_neg n10, nm_s, nm_s, nI_1]
      exact ih (k + 1) C x2 s2 (by omega) ((hT.tr t1).tr t2) c2 o2 ok2
    · rw [if_neg q, if_neg q, if_pos rfl, nm_s, nm_s, nI_1]
      have e2k : (2 : Int32) * nI k + 1 = nI (2 * k + 1) := by
        rw [show (2 : Int32) * nI k = nI (2 * k) from (Int32.ofNat_mul 2 k).symm, nI_1]
      by_cases z : aFall C (aM C) = nI l
      · refine ⟨nI (2 * k + 1), x2, s3, ?_, ?_, (hT.tr t1).tr t2, o3⟩
        · rw [if_pos z, e2k]
        · rw [if_pos z, e2k]
          have := en (nI (2 * k + 1)) (nI_z (by omega))
          rw [if_pos (nI_pos' (by omega))] at this
          exact this
      · refine ⟨-4, x2, s3, ?_, ?_, (hT.tr t1).tr t2, o3⟩
        · rw [if_neg z]
        · rw [if_neg z]
          have := en (-5) (by decide)
          rw [if_neg (by decide)] at this
          exact this
theorem qm_round {xs : XS} {ms : MS} (h : RR xs ms) : Cm (X10_round xs) (X11_round ms) := by
  have h' := RR_17 h 0
  obtain ⟨A, hA, hc, h9, hR⟩ := h'.1
  obtain ⟨l, hl, el⟩ := hA.1.T6
  unfold X10_round X11_round
  rw [nm_s (sF ms 17 0), X8_isDown_a hA h9, bnd_s, uT_self, nm_s xs, hR.2.2.D]
  by_cases D : aD A = 0
  · rw [if_pos D, if_pos D]
    obtain ⟨x1, e1, t1, c0, c1⟩ := take_a hc hA.1.L
    obtain ⟨s1, e2, o1⟩ := mo_op hR.2.2 hA.1.L hA.D
    obtain ⟨r, x2, s2, r1, r2, t2, o2⟩ := round_l (xs := xs) hA hR hl 6 0 A x1 s1 (by decide) t1 c1 o1 hA.1
    rw [nI_0] at r1 r2
    rw [e1, bnd_s, ic_6, cz_6, c0.T (by decide), el, nm_s (nI l), r1, ic_6, hR.2.2.T (by decide), el, nm_s (nI l), e2, bnd_s, r2]
    exact ⟨_, _, _, rfl, rfl, RR_q h' hA hc h9 o2.1 t2 (mo_FR o2)⟩
  · rw [if_neg D, if_neg D]
    exact ⟨_, _, _, rfl, rfl, h'⟩
