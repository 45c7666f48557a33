/-! every way to burn unlike -/
theorem p3_le : ∀ q, q < 7 → 3 ^ q ≤ 729 := by decide
theorem pt_3 : ∀ q, q < 7 → ∀ g, g < 3 ^ q + 1 → ∀ p, p < 2 → X10_partOf (nI g) (nI (3 ^ q)) (nI p) = X11_partOf ((nI g).toInt64) ((nI (3 ^ q)).toInt64) (nI p) ∧ (X10_partOf (nI g) (nI (3 ^ q)) (nI p)).isSome := by decide +kernel
theorem unlike_l {xs : XS} {A : AT} (hA : okD A) (hc : ct A (xT xs 0) (xB xs 0)) {m0 : MS} (hR : mR A m0) {a : Nat} (ha : a < 1000) (ea : aM A = nI a) {q : Nat} (hq : q < 7) {p : Nat} (hp : p < 2) (f : Nat) : ∀ (n k g : Nat) (x : XS) (w : Nat → Int32) (s : MS), k + n = 3 ^ q → g ≤ k → TK 1 xs x → tB A (xT x 1) → mo A A (m18 m0 w) s → (∀ c, c < 12 → aBu A c = -4 → w c = 0) → (∀ c, 12 ≤ c → w c = gA m0 18 c) → ∃ r x' s', X10_unlike_p79 (f + n + 1) x (nI p) (nI (3 ^ q)) (nI g) (nI k) = some (r, x') ∧ X11_unlike_p106 (f + n + 1) s (nI p) (nI (3 ^ q)) (nI g) (nI k) = some (r, s') ∧ TK 1 xs x' ∧ mo A A m0 s' := by
  have h729 := p3_le q hq
  intro n
  induction n with
  | zero =>
    intro k g x w s e hg hT hB ho h2 h3
    have e : k = 3 ^ q := by omega
    subst e
    obtain ⟨p1, p2⟩ := pt_3 q hq g (by omega) p hp
    obtain ⟨r, er⟩ := Option.isSome_iff_exists.mp p2
    obtain ⟨w', s', e1, o1, w1, w2⟩ := unshift_l (A := A) (m0 := m0) (nI p) (nI (3 ^ q)) (nI g) 12 0 w s (by decide) ho (fun c z => absurd z (Nat.not_lt_zero _)) h3
    rw [nI_0] at e1
    refine ⟨r, x, s', ?_, ?_, hT, mo_18e o1 (funext fun c => ?_)⟩
    · rw [X10_unlike_p79_s, if_pos (Int32.le_refl _)]
      unfold X10_unlike_p112
      rw [er, bd1_s]
    · rw [X11_unlike_p106_s, if_pos (Int32.le_refl _)]
      unfold X11_unlike_p183
      rw [e1]
      unfold X11_unlike_p207
      rw [← p1, er, bd1_s]
    · by_cases z : c < 12
      · rw [w1 c z, hR.2.1 c z]
      · exact w2 c (by omega)
  | succ n ih =>
    intro k g x w s e hg hT hB ho h2 h3
    have hk : k < 3 ^ q := by omega
    obtain ⟨x1, e1, t1, b1, u1⟩ := burnU_a (x0 := xs) hc (r := k) (by omega) hT hB
    have ef := ftlU_a b1 u1 hA.1 ha ea
    obtain ⟨w1, s1, es, o1, v1, v2⟩ := shift_l hA (m0 := m0) (r := k) (by omega) (fun st v1 v3 v4 v5 => X11_unlike_p106 (f + n + 1) st v1 v3 v4 v5) (nI p) (nI (3 ^ q)) (nI g) (nI k) 12 0 w s (by decide) ho (fun c z => absurd z (Nat.not_lt_zero _)) h2 h3
    rw [nI_0, show rN (aBu A) k 0 = k from rfl] at es
    obtain ⟨s2, eg, o2⟩ := goesU_a hA hR.1 o1 v1 ea
    have nk : ¬ nI (3 ^ q) ≤ nI k := nI_ge hk (by omega)
    have h0 : ∀ c, c < 12 → aBu A c = -4 → w1 c = 0 := fun c hc e => by
      rw [v1 c hc]
      exact if_pos e
    rw [show f + (n + 1) + 1 = (f + n + 1) + 1 from rfl, X10_unlike_p79_s, if_neg nk, e1, bnd_s, ef, bnd_s, uT_self, nm_s x1, X11_unlike_p106_s, if_neg nk, es]
    unfold X10_unlike_p106 X11_unlike_p160 X11_unlike_p174
    rw [eg, bnd_s]
    have h4 := ftl_4g (g := gU A k a) hA.1.T6
    by_cases c : faS (gU A k a) 61 0 = aT A 6
    · rw [if_neg (fun z => h4.mp z c), if_pos c, if_neg n10, nI_1, nm_s, nm_s, nI_1, nm_s, nm_s]
      exact ih (k + 1) (g + 1) _ _ s2 (by omega) (by omega) t1 b1 o2 h0 v2
    · rw [if_pos (h4.mpr c), if_neg c, if_pos rfl, nm_s, nI_1, Int32.add_zero, nm_s, nm_s]
      exact ih (k + 1) g _ _ s2 (by omega) (by omega) t1 b1 o2 h0 v2
/-- how many of n cells from i on burn, added to q -/
def clN (bu : Nat → Int32) : Nat → Nat → Nat → Nat
  | 0, _, q => q
  | n + 1, i, q => clN bu n (i + 1) (if bu i = -4 then q else q + 1)
theorem clN_t {bu : Nat → Int32} {n i q : Nat} (c : bu i = -4) : clN bu (n + 1) i q = clN bu n (i + 1) q := by
  show clN bu n (i + 1) (if bu i = -4 then q else q + 1) = _
  rw [if_pos c]
theorem clN_f {bu : Nat → Int32} {n i q : Nat} (c : ¬ bu i = -4) : clN bu (n + 1) i q = clN bu n (i + 1) (q + 1) := by
  show clN bu n (i + 1) (if bu i = -4 then q else q + 1) = _
  rw [if_neg c]
theorem clN_le (bu : Nat → Int32) : ∀ n i q, clN bu n i q ≤ q + n := by
  intro n
  induction n with
  | zero => intro i q; exact Nat.le_refl _
  | succ n ih =>
    intro i q
    by_cases c : bu i = -4
    · rw [clN_t c]; have := ih (i + 1) q; omega
    · rw [clN_f c]; have := ih (i + 1) (q + 1); omega
theorem clN_s (bu : Nat → Int32) : ∀ n i q, sumF (cbF bu) n i (nI q) = nI (clN bu n i q) := by
  intro n
  induction n with
  | zero => intro i q; rfl
  | succ n ih =>
    intro i q
    show sumF (cbF bu) n (i + 1) (nI q + (if bu i = -4 then 0 else 1)) = _
    by_cases c : bu i = -4
    · rw [clN_t c, if_pos c, Int32.add_zero]; exact ih _ _
    · rw [clN_f c, if_neg c, nI_1]; exact ih _ _
theorem nI_m3 (a : Nat) : nI a * 3 = nI (a * 3) := (Int32.ofNat_mul a 3).symm
theorem unl26 {A : AT} (hA : okD A) {m : MS} (hR : mR A m) (v1 : Int32) : ∀ (n i q : Nat), i + n = 12 → q ≤ i → X11_unlike_p26 (n + 1) m v1 (nI q) (nI (3 ^ (min q 6))) (nI i) = X11_unlike_p79 m v1 (nI (clN (aBu A) n i q)) (nI (3 ^ (min (clN (aBu A) n i q) 6))) := by
  intro n
  induction n with
  | zero =>
    intro i q e _
    have e : i = 12 := by omega
    subst e
    rw [X11_unlike_p26_s, if_pos n12_t]
    rfl
  | succ n ih =>
    intro i q e hq
    have hi : i < 12 := by omega
    have hb : aBu A i = -4 ∨ ∃ b, 2 ≤ b ∧ b < 45 ∧ aBu A i = nI b := buK_r (hA.1.KF hi).2
    rw [X11_unlike_p26_s, if_neg (n12_f hi), X11_burnsOf_a hR hi, bnd_s]
    unfold X11_unlike_p48 X11_unlike_p66 X11_unlike_p71
    rw [X11_burnsOf_a hR hi]
    rcases hb with z | ⟨b, hb1, hb2, eb⟩
    · rw [clN_t z, z, if_neg (show ¬ (0 : Int32) ≤ -4 by decide), nm_s, bnd_s, if_pos (show (-4 : Int32) < 0 by decide), nm_s, nm_s, Int32.mul_one, Int32.add_zero, nI_1]
      exact ih (i + 1) q (by omega) (by omega)
    · have z : ¬ aBu A i = -4 := by rw [eb]; exact nI_z (by omega)
      rw [clN_f z, if_pos (show 0 ≤ aBu A i by rw [eb]; exact nI_pos' (by omega)), nm_s, bnd_s, if_neg (show ¬ aBu A i < 0 by rw [eb]; exact nI_pos (by omega)), nI_1]
      by_cases c : q + 1 ≤ 6
      · rw [if_pos (show nI (q + 1) ≤ 6 from nI_le (b := 6) c (by decide)), nm_s, nm_s, nI_1, nI_m3, show 3 ^ min q 6 * 3 = 3 ^ (min (q + 1) 6) by rw [Nat.min_eq_left (by omega : q ≤ 6), Nat.min_eq_left c]; rfl]
        exact ih (i + 1) (q + 1) (by omega) (by omega)
      · rw [if_neg (show ¬ nI (q + 1) ≤ 6 from nI_ge (a := 6) (by omega) (by omega)), nm_s, nm_s, nI_1, Int32.mul_one, show min q 6 = min (q + 1) 6 by omega]
        exact ih (i + 1) (q + 1) (by omega) (by omega)
theorem unl57 (xs : XS) (v1 : Int32) (q f : Nat) : ∀ (n i : Nat), i + n = q → q < 7 → X10_unlike_p57 (f + n + 1) xs v1 (nI q) (nI (3 ^ i)) (nI i) = X10_unlike_p73 xs v1 (nI (3 ^ q)) := by
  intro n
  induction n with
  | zero =>
    intro i e _
    have e : i = q := by omega
    subst e
    rw [X10_unlike_p57_s, if_pos (Int32.le_refl _)]
  | succ n ih =>
    intro i e hq
    rw [show f + (n + 1) + 1 = (f + n + 1) + 1 from rfl, X10_unlike_p57_s, if_neg (nI_ge (by omega) (by omega)), nm_s, nm_s, nI_1, nI_m3]
    exact ih (i + 1) (by omega) hq
theorem qm_unlike {xs : XS} {ms : MS} (h : RR xs ms) (v : Int32) : Cn (X10_unlike xs v) (X11_unlike ms v) := by
  have h' := RR_17 h 0
  obtain ⟨A, hA, hc, h9, hR⟩ := h'.1
  obtain ⟨a, ha, ea⟩ := hA.1.M
  unfold X10_unlike X10_unlike_p9 X10_unlike_p37 X11_unlike
  rw [nm_s (sF ms 17 0)]
  by_cases hv : isN 2 v
  · obtain ⟨v0, v1⟩ := in01 hv
    obtain ⟨p, hp, ep⟩ := hv
    have hs := clN_s (aBu A) 12 0 0
    have hl := clN_le (aBu A) 12 0 0
    have h26 := unl26 hA hR v 12 0 0 (by decide) (by decide)
    rw [nI_0] at hs h26
    rw [show nI (3 ^ min 0 6) = (1 : Int32) from rfl] at h26
    rw [if_neg v0, if_pos v1, X8_countBurning_a hc, bnd_s, uT_self, nm_s xs, X8_isDown_a hA h9, bnd_s, uT_self, nm_s xs, X11_in_n (n := 1) (by decide) (by decide) ⟨p, hp, ep⟩, bd1_s, if_neg n10, h26, hs]
    generalize clN (aBu A) 12 0 0 = q at hl ⊢
    unfold X11_unlike_p79 X11_unlike_p92
    rw [hR.2.2.D]
    by_cases D : aD A = 0
    · rw [if_pos D, if_pos D]
      by_cases c : q ≤ 6
      · rw [if_pos (show nI q ≤ 6 from nI_le (b := 6) c (by decide)), if_pos (show nI q ≤ 6 from nI_le (b := 6) c (by decide)), Nat.min_eq_left c]
        obtain ⟨x1, e1, t1, c0, c1⟩ := take_a hc hA.1.L
        obtain ⟨s1, e2, o1⟩ := mo_op hR.2.2 hA.1.L hA.D
        have h57 := unl57 x1 v q (4999 - q) q 0 (by omega) (by omega)
        rw [show 4999 - q + q + 1 = 5000 by omega, nI_0, show nI (3 ^ 0) = (1 : Int32) from rfl] at h57
        have h729 := p3_le q (by omega)
        obtain ⟨r, x2, s2, r1, r2, t2, o2⟩ := unlike_l (xs := xs) hA hc hR ha ea (q := q) (by omega) hp (4999 - 3 ^ q) (3 ^ q) 0 0 x1 _ s1 (by omega) (by omega) t1 (tB_ct c1) (mo_18i o1) (fun c hcc _ => hR.2.1 c hcc) (fun _ _ => rfl)
        rw [show 4999 - 3 ^ q + 3 ^ q + 1 = 5000 by omega, nI_0] at r1 r2
        rw [e1, bnd_s, e2, bnd_s, h57]
        unfold X10_unlike_p73
        rw [ep]
        exact ⟨_, _, _, r1, r2, RR_q h' hA hc h9 o2.1 t2 (mo_FR o2)⟩
      · rw [if_neg (show ¬ nI q ≤ 6 from nI_ge (a := 6) (by omega) (by omega)), if_neg (show ¬ nI q ≤ 6 from nI_ge (a := 6) (by omega) (by omega))]
        exact ⟨_, _, _, rfl, rfl, h'⟩
    · rw [if_neg D, if_neg D]
      exact ⟨_, _, _, rfl, rfl, h'⟩
  · rw [X11_in_nf (n := 1) (by decide) (by decide) hv, bd1_s, if_pos rfl]
    by_cases v0 : v < 0
    · rw [if_pos v0]
      exact ⟨_, _, _, rfl, rfl, h'⟩
    · rw [if_neg v0, if_neg (in01n hv v0)]
      exact ⟨_, _, _, rfl, rfl, h'⟩
