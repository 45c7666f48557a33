/-! winds by which it goes right -/
theorem mo_st {A B : AT} {m0 st : MS} (h : mo A B m0 st) (i : Nat) (v : Int32) : mo A (aStT B i v) m0 (sA st 4 i v) := by
  obtain ⟨g1, g2, g3, g4, g5⟩ := h
  refine ⟨mt_st g1 i v, g2, fun k hk => ?_, g4, g5⟩
  rw [gA_sAn _ _ (fun e => hk (by rw [e]; decide))]
  exact g3 k hk
theorem okB_st {N : Nat} {A : AT} (h : okB N A) {i : Nat} {v : Int32} (hv : isN (mxT i) v) : okB N (aStT A i v) := by
  obtain ⟨h1, h2, h3, h4, h5, h6, h7⟩ := h
  refine ⟨h1, h2, h3, h4, fun x hx => ?_, h6, h7⟩
  show isN (mxT x) (if x = i then v else aT A x)
  by_cases e : x = i
  · rw [if_pos e, e]; exact hv
  · rw [if_neg e]; exact h5 x hx
/-- does it go to the lane, the fire lit -/
def gLn (B : AT) (a : Nat) : Int32 := if faS (gT B a) 61 0 = aT B 6 then 1 else 0
theorem X11_goesToLane_a {A : AT} (hA : okD A) {m0 : MS} {A0 : AT} (hR : mR A0 m0) {B : AT} {st : MS} (ho : mo A B m0 st) {N : Nat} (hok : okB N B) {a : Nat} (ea : aM B = nI a) : ∃ s', X11_goesToLane st = some (gLn B a, s') ∧ mo A A m0 s' := by
  obtain ⟨s1, e1, f33, f34, m, hm, o1, _⟩ := mo_burn ho hR hok ea
  obtain ⟨s2, e2, o2, _⟩ := mo_cl o1 hA.1.L hA.D
  refine ⟨s2, ?_, o2⟩
  have e6 : gA s1 4 6 = aT B 6 := o1.1.T (i := 6) (by decide)
  unfold X11_goesToLane X11_goesToLane_p23 gLn
  rw [e1, bnd_s, ic_6, cz_6, f34, e6, e2, bnd_s, bnd_s, gz_1, gz_0]
  by_cases c : faS (gT B a) 61 0 = aT B 6
  · rw [if_pos c, if_pos c]
  · rw [if_neg c, if_neg c]
theorem ftl_a {B : AT} {ts : MS} {Bk : Nat → BK} (h : ct B ts Bk) {N : Nat} (hok : okB N B) {a : Nat} (ha : a < 1000) (ea : aM B = nI a) : X8_fallToLaneAfter ts = some ((if faS (gT B a) 61 0 = aT B 6 then faL (gT B a) 61 0 else -4), ts) := X8_fallToLaneAfter_a h hok ea ha
theorem ftl_4 {B : AT} {N : Nat} (hok : okB N B) (a : Nat) : ((if faS (gT B a) 61 0 = aT B 6 then faL (gT B a) 61 0 else -4) = -4) ↔ ¬ faS (gT B a) 61 0 = aT B 6 := by
  obtain ⟨l, hl, el⟩ := hok.T6
  by_cases c : faS (gT B a) 61 0 = aT B 6
  · rw [if_pos c]
    refine ⟨fun q => ?_, fun q => absurd c q⟩
    rcases fa_r (gT B a) 61 0 with ⟨q1, q2, _⟩ | ⟨j, j1, j2, q1, q2, q3, _⟩
    · rw [q2, el] at c
      exact absurd c.symm (nI_z (by omega))
    · rw [q1] at q
      exact absurd q (nI_z (by omega))
  · rw [if_neg c]
    exact ⟨fun _ => c, fun _ => rfl⟩
theorem ct_st1 {A : AT} {x : XS} {t : Nat → Int32} {i : Nat} (ht : ct (A.1, t, A.2.2) (xT x 1) (xB x 1)) (he : ∀ j, j < 7 → j ≠ i → t j = aT A j) (v : Int32) : ct (aStT A i v) (sA (xT x 1) 3 i v) (xB x 1) := ct_pt (ct_st ht i v) rfl (fun j hj => by
  show (if j = i then v else t j) = (if j = i then v else aT A j)
  by_cases e : j = i
  · rw [if_pos e, if_pos e]
  · rw [if_neg e, if_neg e]
    exact he j hj e) (fun _ _ => ⟨rfl, rfl⟩) (fun _ _ => ⟨rfl, rfl⟩)
theorem mo_c {A B B' : AT} {m0 s : MS} (h : mo A B m0 s) (e : mt B' s) : mo A B' m0 s := ⟨e, h.2⟩
theorem winds_l {xs : XS} {A : AT} (hA : okD A) {m0 : MS} (hR : mR A m0) {a : Nat} (ha : a < 1000) (ea : aM A = nI a) (w : Int32) : ∀ (n k : Nat) (v2 v3 : Int32) (t : Nat → Int32) (x : XS) (s : MS), k + n = 21 → TK 1 xs x → ct (A.1, t, A.2.2) (xT x 1) (xB x 1) → (∀ j, j < 7 → j ≠ 3 → t j = aT A j) → mo A A m0 s → ∃ r x' s', X10_winds_p43 (n + 1) x w v2 v3 (nI k) = some (r, x') ∧ X11_winds_p39 (n + 1) s w v2 v3 (nI k) = some (r, s') ∧ TK 1 xs x' ∧ mo A A m0 s' := by
  intro n
  induction n with
  | zero =>
    intro k v2 v3 t x s e hT ht he ho
    have e : k = 21 := by omega
    subst e
    by_cases q : w = 0
    · refine ⟨v2, x, s, ?_, ?_, hT, ho⟩
      · rw [X10_winds_p43_s, if_pos (by decide)]
        exact if_pos q
      · rw [X11_winds_p39_s, if_pos (by decide)]
        exact if_pos q
    · refine ⟨v3, x, s, ?_, ?_, hT, ho⟩
      · rw [X10_winds_p43_s, if_pos (by decide)]
        exact if_neg q
      · rw [X11_winds_p39_s, if_pos (by decide)]
        exact if_neg q
  | succ n ih =>
    intro k v2 v3 t x s e hT ht he ho
    have hk : k < 21 := by omega
    have ok1 : okB 1000 (aStT A 3 (nI k)) := okB_st hA.1 ⟨k, hk, rfl⟩
    have c1 : ct (aStT A 3 (nI k)) (sA (xT x 1) 3 3 (nI k)) (xB x 1) := ct_st1 ht he (nI k)
    obtain ⟨s1, e1, o1⟩ := X11_goesToLane_a hA hR (mo_st ho 3 (nI k)) ok1 ea
    have x2 : xT (uT x 1 (sA (xT x 1) 3 3 (nI k))) 1 = sA (xT x 1) 3 3 (nI k) := xT_d
    have hT2 := hT.uT (sA (xT x 1) 3 3 (nI k))
    have c2 : ct ((aStT A 3 (nI k)).1, aT (aStT A 3 (nI k)), (aStT A 3 (nI k)).2.2) (xT (uT x 1 (sA (xT x 1) 3 3 (nI k))) 1) (xB (uT x 1 (sA (xT x 1) 3 3 (nI k))) 1) := by rw [x2]; exact c1
    have he2 : ∀ j, j < 7 → j ≠ 3 → aT (aStT A 3 (nI k)) j = aT A j := fun j _ hj => if_neg hj
    rw [X10_winds_p43_s, if_neg (show ¬ (20 : Int32) < nI k from nI_nlt (a := 20) (by omega) (by decide)), ic_3, cz_3, nm_s, x2, ftl_a c1 ok1 ha ea, bnd_s, uT_uT, nm_s (uT x 1 (sA (xT x 1) 3 3 (nI k)))]
    rw [X11_winds_p39_s, if_neg (show ¬ (20 : Int32) < nI k from nI_nlt (a := 20) (by omega) (by decide)), ic_3, cz_3, nm_s (sA s 4 3 (nI k)), e1, bnd_s]
    unfold X10_winds_p79 X11_winds_p71 X11_winds_p84
    have h4 := ftl_4 ok1 a
    by_cases c : faS (gT (aStT A 3 (nI k)) a) 61 0 = aT (aStT A 3 (nI k)) 6
    · have g1 : gLn (aStT A 3 (nI k)) a = 1 := if_pos c
      rw [if_neg (fun q => h4.mp q c), g1, if_neg n10, nm_s, nm_s, nm_s, if_neg n10, nm_s, nI_1]
      exact ih (k + 1) _ _ _ _ s1 (by omega) hT2 c2 he2 o1
    · have g1 : gLn (aStT A 3 (nI k)) a = 0 := if_neg c
      rw [if_pos (h4.mpr c), g1, if_pos rfl, nm_s, nm_s, Int32.add_zero, if_pos rfl, nm_s, nI_1]
      exact ih (k + 1) _ _ _ _ s1 (by omega) hT2 c2 he2 o1
theorem in01 {v : Int32} (hv : isN 2 v) : ¬ v < 0 ∧ v ≤ 1 := by
  obtain ⟨j, hj, e⟩ := hv
  rw [e]
  exact ⟨nI_pos (by omega), nI_le (a := j) (b := 1) (by omega) (by decide)⟩
theorem in01n {v : Int32} (hv : ¬ isN 2 v) (v0 : ¬ v < 0) : ¬ v ≤ 1 := fun q => by
  rcases isN_f hv (by decide) with g | g
  · exact v0 g
  · rw [i_le, show (nI 2).toInt = 2 from rfl] at g
    rw [i_le, show (1 : Int32).toInt = 1 from rfl] at q
    omega
theorem qm_winds {xs : XS} {ms : MS} (h : RR xs ms) (v : Int32) : Cm (X10_winds xs v) (X11_winds ms v) := by
  have h' := RR_17 h 0
  obtain ⟨A, hA, hc, h9, hR⟩ := h'.1
  obtain ⟨a, ha, ea⟩ := hA.1.M
  unfold X10_winds X11_winds
  rw [nm_s (sF ms 17 0)]
  by_cases hv : isN 2 v
  · obtain ⟨v0, v1⟩ := in01 hv
    rw [if_neg v0, if_pos v1, X8_isDown_a hA h9, bnd_s, uT_self, nm_s xs, X11_in_n (n := 1) (by decide) (by decide) hv, bd1_s, if_neg n10, hR.2.2.D]
    by_cases D : aD A = 0
    · rw [if_pos D, if_pos D]
      obtain ⟨x1, e1, t1, c0, c1⟩ := take_a hc hA.1.L
      obtain ⟨s1, e2, o1⟩ := mo_op hR.2.2 hA.1.L hA.D
      obtain ⟨r, x2, s2, r1, r2, t2, o2⟩ := winds_l (xs := xs) hA hR ha ea v 21 0 0 (-4) (aT A) x1 s1 (by decide) t1 c1 (fun _ _ _ => rfl) o1
      rw [nI_0] at r1 r2
      rw [e1, bnd_s, e2, bnd_s]
      exact ⟨_, _, _, r1, r2, RR_q h' hA hc h9 o2.1 t2 (mo_FR o2)⟩
    · rw [if_neg D, if_neg D]
      exact ⟨_, _, _, rfl, rfl, h'⟩
  · rw [X11_in_nf (n := 1) (by decide) (by decide) hv, bd1_s, if_pos rfl]
    by_cases v0 : v < 0
    · rw [if_pos v0]
      exact ⟨_, _, _, rfl, rfl, h'⟩
    · rw [if_neg v0, if_neg (in01n hv v0)]
      exact ⟨_, _, _, rfl, rfl, h'⟩
/-! fractions -/
theorem pt_12 : ∀ g, g < 13 → ∀ p, p < 2 → X10_partOf (nI g) (12 : Int32) (nI p) = X11_partOf ((nI g).toInt64) (12 : Int64) (nI p) ∧ (X10_partOf (nI g) (12 : Int32) (nI p)).isSome := by decide +kernel
theorem anyWind_l {xs : XS} {A : AT} (hA : okD A) {m0 : MS} (hR : mR A m0) {a : Nat} (ha : a < 1000) (ea : aM A = nI a) {p : Nat} (hp : p < 2) : ∀ (n k g : Nat) (t : Nat → Int32) (x : XS) (s : MS), k + n = 12 → g ≤ k → TK 1 xs x → ct (A.1, t, A.2.2) (xT x 1) (xB x 1) → (∀ j, j < 7 → j ≠ 2 → t j = aT A j) → mo A A m0 s → ∃ r x' s', X10_anyWind_p42 (n + 1) x (nI p) (nI g) (nI k) = some (r, x') ∧ X11_anyWind_p38 (n + 1) s (nI p) (nI g) (nI k) = some (r, s') ∧ TK 1 xs x' ∧ mo A A m0 s' := by
  intro n
  induction n with
  | zero =>
    intro k g t x s e hg hT ht he ho
    have e : k = 12 := by omega
    subst e
    obtain ⟨p1, p2⟩ := pt_12 g (by omega) p hp
    obtain ⟨r, er⟩ := Option.isSome_iff_exists.mp p2
    refine ⟨r, x, s, ?_, ?_, hT, ho⟩
    · rw [X10_anyWind_p42_s, if_pos n12_t]
      unfold X10_anyWind_p79
      rw [er, bd1_s]
    · rw [X11_anyWind_p38_s, if_pos n12_t]
      unfold X11_anyWind_p72
      rw [← p1, er, bd1_s]
  | succ n ih =>
    intro k g t x s e hg hT ht he ho
    have hk : k < 12 := by omega
    have ok1 : okB 1000 (aStT A 2 (nI k)) := okB_st hA.1 ⟨k, hk, rfl⟩
    have c1 : ct (aStT A 2 (nI k)) (sA (xT x 1) 3 2 (nI k)) (xB x 1) := ct_st1 ht he (nI k)
    obtain ⟨s1, e1, o1⟩ := X11_goesToLane_a hA hR (mo_st ho 2 (nI k)) ok1 ea
    have x2 : xT (uT x 1 (sA (xT x 1) 3 2 (nI k))) 1 = sA (xT x 1) 3 2 (nI k) := xT_d
    have hT2 := hT.uT (sA (xT x 1) 3 2 (nI k))
    have c2 : ct ((aStT A 2 (nI k)).1, aT (aStT A 2 (nI k)), (aStT A 2 (nI k)).2.2) (xT (uT x 1 (sA (xT x 1) 3 2 (nI k))) 1) (xB (uT x 1 (sA (xT x 1) 3 2 (nI k))) 1) := by rw [x2]; exact c1
    have he2 : ∀ j, j < 7 → j ≠ 2 → aT (aStT A 2 (nI k)) j = aT A j := fun j _ hj => if_neg hj
    rw [X10_anyWind_p42_s, if_neg (n12_f hk), ic_2, cz_2, nm_s, x2, ftl_a c1 ok1 ha ea, bnd_s, uT_uT, nm_s (uT x 1 (sA (xT x 1) 3 2 (nI k)))]
    rw [X11_anyWind_p38_s, if_neg (n12_f hk), ic_2, cz_2, nm_s (sA s 4 2 (nI k)), e1, bnd_s]
    unfold X10_anyWind_p73 X11_anyWind_p64
    have h4 := ftl_4 ok1 a
    by_cases c : faS (gT (aStT A 2 (nI k)) a) 61 0 = aT (aStT A 2 (nI k)) 6
    · have g1 : gLn (aStT A 2 (nI k)) a = 1 := if_pos c
      rw [if_neg (fun q => h4.mp q c), g1, if_neg n10, nI_1, nm_s, nm_s, nI_1, nm_s, nm_s]
      exact ih (k + 1) (g + 1) _ _ s1 (by omega) (by omega) hT2 c2 he2 o1
    · have g1 : gLn (aStT A 2 (nI k)) a = 0 := if_neg c
      rw [if_pos (h4.mpr c), g1, if_pos rfl, nm_s, nI_1, Int32.add_zero, nm_s, nm_s]
      exact ih (k + 1) g _ _ s1 (by omega) (by omega) hT2 c2 he2 o1
theorem qm_anyWind {xs : XS} {ms : MS} (h : RR xs ms) (v : Int32) : Cn (X10_anyWind xs v) (X11_anyWind ms v) := by
  have h' := RR_17 h 0
  obtain ⟨A, hA, hc, h9, hR⟩ := h'.1
  obtain ⟨a, ha, ea⟩ := hA.1.M
  unfold X10_anyWind X10_anyWind_p9 X11_anyWind
  rw [nm_s (sF ms 17 0)]
  by_cases hv : isN 2 v
  · obtain ⟨v0, v1⟩ := in01 hv
    rw [if_neg v0, if_pos v1, X8_isDown_a hA h9, bnd_s, uT_self, nm_s xs, X11_in_n (n := 1) (by decide) (by decide) hv, bd1_s, if_neg n10, hR.2.2.D]
    by_cases D : aD A = 0
    · rw [if_pos D, if_pos D]
      obtain ⟨p, hp, ep⟩ := hv
      obtain ⟨x1, e1, t1, c0, c1⟩ := take_a hc hA.1.L
      obtain ⟨s1, e2, o1⟩ := mo_op hR.2.2 hA.1.L hA.D
      obtain ⟨r, x2, s2, r1, r2, t2, o2⟩ := anyWind_l (xs := xs) hA hR ha ea hp 12 0 0 (aT A) x1 s1 (by decide) (by decide) t1 c1 (fun _ _ _ => rfl) o1
      rw [nI_0] at r1 r2
      rw [e1, bnd_s, e2, bnd_s, ep]
      exact ⟨_, _, _, r1, r2, RR_q h' hA hc h9 o2.1 t2 (mo_FR o2)⟩
    · rw [if_neg D, if_neg D]
      exact ⟨_, _, _, rfl, rfl, h'⟩
  · rw [X11_in_nf (n := 1) (by decide) (by decide) hv, bd1_s, if_pos rfl]
    by_cases v0 : v < 0
    · rw [if_pos v0]
      exact ⟨_, _, _, rfl, rfl, h'⟩
    · rw [if_neg v0, if_neg (in01n hv v0)]
      exact ⟨_, _, _, rfl, rfl, h'⟩
