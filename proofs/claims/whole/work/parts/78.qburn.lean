/-! minutes ahead, in the reference: the fire lit, minute by minute -/
theorem burn_l {st : MS} {tl be bu : Nat → Int32} {a : Nat} (hM : mCon st) (ht : ∀ i, i < 7 → gA st 4 i = tl i) (T0 : isN 12 (tl 0)) (T2 : isN 12 (tl 2)) (hB : ∀ (k : Nat) (s : MS), (∀ q, gA s q = gA st q) → gF s 5 = 1 → gF s 6 = nI (a + k) → ∀ c, c < 12 → mB s c = bAt be bu (nI (a + k)) c) (g : Nat → Int32) (hg : g = fun k => flT be bu tl (nI (a + k))) :
    ∀ (n k : Nat) (s : MS), k + n = 61 → (∀ q, gA s q = gA st q) → (∀ q, gL s q = gL st q) → gF s 5 = 1 → gF s 33 = -4 → gF s 34 = -4 → gF s 6 = nI (a + (k - 1)) → (∀ q, q ∉ ([5, 6, 33, 34] : List Nat) → gF s q = gF st q) →
    ∃ s', X11_burnOn_p19 (n + 1) s (nI k) = some ((), s') ∧ (∀ q, gA s' q = gA st q) ∧ (∀ q, gL s' q = gL st q) ∧ gF s' 33 = faL g n k ∧ gF s' 34 = faS g n k ∧ gF s' 5 = 1 ∧ (∀ q, q ∉ ([5, 6, 33, 34] : List Nat) → gF s' q = gF st q) ∧ ∃ m, m ≤ 60 ∧ gF s' 6 = nI (a + m) ∧ ∀ j, j < 61 → faL g n k = nI j → m = j := by
  intro n
  induction n with
  | zero =>
    intro k s h hA hL h5 h33 h34 h6 hF
    have h : k = 61 := by omega
    subst h
    refine ⟨s, ?_, hA, hL, h33, h34, h5, hF, 60, by decide, h6, fun j hj e => ?_⟩
    · rw [X11_burnOn_p19_s, if_pos (by decide)]
      rfl
    · exact absurd e (fun e => nI_z (by omega) e.symm)
  | succ n ih =>
    intro k s h hA hL h5 h33 h34 h6 hF
    have hk : k < 61 := by omega
    have step : ∀ t2 : Int32, gF s 6 + t2 = nI (a + k) → ∃ s', X11_burnOn_p46 (fun st v1 => X11_burnOn_p19 (n + 1) st v1) s (nI k) (gF s 6) t2 = some ((), s') ∧ (∀ q, gA s' q = gA st q) ∧ (∀ q, gL s' q = gL st q) ∧ gF s' 33 = faL g (n + 1) k ∧ gF s' 34 = faS g (n + 1) k ∧ gF s' 5 = 1 ∧ (∀ q, q ∉ ([5, 6, 33, 34] : List Nat) → gF s' q = gF st q) ∧ ∃ m, m ≤ 60 ∧ gF s' 6 = nI (a + m) ∧ ∀ j, j < 61 → faL g (n + 1) k = nI j → m = j := fun t2 e2 => by
      unfold X11_burnOn_p46 X11_burnOn_p72
      rw [e2, nm_s]
      have hA3 : ∀ q, gA (sF s 6 (nI (a + k))) q = gA st q := hA
      have hM3 : mCon (sF s 6 (nI (a + k))) := ⟨fun i hi => by rw [hA3]; exact hM.1 i hi, fun i hi => by rw [hA3]; exact hM.2 i hi⟩
      have ef : fallF (lkP (gA (sF s 6 (nI (a + k))) 4) (mB (sF s 6 (nI (a + k))))) = g k := by
        rw [hg]
        exact fallF_c fun x _ => lkP_c (fun i hi => by rw [hA3]; exact ht i hi) (fun c hc => hB k _ hA3 h5 rfl c hc) x
      rw [X11_fallSide_s hM3 (by rw [hA3, ht 0 (by decide)]; exact T0) (by rw [hA3, ht 2 (by decide)]; exact T2), ef, bnd_s, nm_s]
      have hF7 : ∀ (w : Int32), ∀ q, q ∉ ([5, 6, 33, 34] : List Nat) → gF (sF (sF (sF s 6 (nI (a + k))) 34 (g k)) 33 w) q = gF st q := fun w q hq => by
        rw [gF_sF, if_neg (fun e => hq (by rw [e]; decide)), gF_sF, if_neg (fun e => hq (by rw [e]; decide)), gF_sF, if_neg (fun e => hq (by rw [e]; decide))]
        exact hF q hq
      rw [show gF (sF (sF s 6 (nI (a + k))) 34 (g k)) 34 = g k from rfl]
      have gr : g k = -4 ∨ isN 12 (g k) := by rw [hg]; exact fallF_r _
      rcases gr with c | ⟨x, hx, c⟩
      · rw [c, if_neg (by decide), nm_s, nm_s, nI_1]
        rw [show faL g (n + 1) k = faL g n (k + 1) from if_pos c, show faS g (n + 1) k = faS g n (k + 1) from if_pos c]
        rw [← c]
        exact ih (k + 1) _ (by omega) hA hL h5 (by rw [c]; rfl) c rfl (fun q hq => by rw [c]; rw [c] at hF7; exact hF7 _ q hq)
      · have c4 : ¬ g k = -4 := by rw [c]; exact nI_z (by omega)
        rw [if_pos (by rw [c]; exact nI_pos' (by omega)), nm_s, nm_s, nI_1]
        rw [show faL g (n + 1) k = nI k from if_neg c4, show faS g (n + 1) k = g k from if_neg c4]
        refine ⟨sF (sF (sF s 6 (nI (a + k))) 34 (g k)) 33 (nI k), ?_, hA, hL, rfl, rfl, h5, hF7 _, k, by omega, rfl, fun j hj e => ((nI_eq (by omega) (by omega)).mp e)⟩
        show X11_burnOn_p19 (n + 1) (sF (sF (sF s 6 (nI (a + k))) 34 (g k)) 33 (nI k)) (nI (k + 1)) = _
        rw [X11_burnOn_p19_s]
        by_cases q : (60 : Int32) < nI (k + 1)
        · rw [if_pos q]
          rfl
        · rw [if_neg q, if_pos (show 0 ≤ gF (sF (sF (sF s 6 (nI (a + k))) 34 (g k)) 33 (nI k)) 33 from nI_pos' (by omega))]
          rfl
    rw [X11_burnOn_p19_s, if_neg (show ¬ (60 : Int32) < nI k from nI_nlt (a := 60) (by omega) (by decide)), h33, if_neg (by decide)]
    by_cases k0 : k = 0
    · rw [k0, nI_0, if_pos (Int32.le_refl _)]
      have := step 0 (by rw [h6, k0]; exact Int32.add_zero _)
      rw [k0, nI_0] at this
      exact this
    · rw [if_neg (nI_nle (by omega) (by omega))]
      exact step 1 (by rw [h6, nI_1, show a + (k - 1) + 1 = a + k by omega])
theorem burn_a {st : MS} {tl be bu : Nat → Int32} {a : Nat} (hM : mCon st) (ht : ∀ i, i < 7 → gA st 4 i = tl i) (T0 : isN 12 (tl 0)) (T2 : isN 12 (tl 2)) (h6 : gF st 6 = nI a) (hB : ∀ (k : Nat) (s : MS), (∀ q, gA s q = gA st q) → gF s 5 = 1 → gF s 6 = nI (a + k) → ∀ c, c < 12 → mB s c = bAt be bu (nI (a + k)) c) (g : Nat → Int32) (hg : g = fun k => flT be bu tl (nI (a + k))) :
    ∃ s', X11_burnOn st = some ((), s') ∧ (∀ q, gA s' q = gA st q) ∧ (∀ q, gL s' q = gL st q) ∧ gF s' 33 = faL g 61 0 ∧ gF s' 34 = faS g 61 0 ∧ gF s' 5 = 1 ∧ (∀ q, q ∉ ([5, 6, 33, 34] : List Nat) → gF s' q = gF st q) ∧ ∃ m, m ≤ 60 ∧ gF s' 6 = nI (a + m) ∧ ∀ j, j < 61 → faL g 61 0 = nI j → m = j := by
  have l := burn_l hM ht T0 T2 hB g hg 61 0 (sF (sF (sF st 5 1) 33 (-4)) 34 (-4)) (by decide) (fun _ => rfl) (fun _ => rfl) rfl rfl rfl h6 (fun q hq => by
    rw [gF_sF, if_neg (fun e => hq (by rw [e]; decide)), gF_sF, if_neg (fun e => hq (by rw [e]; decide)), gF_sF, if_neg (fun e => hq (by rw [e]; decide))])
  rw [nI_0] at l
  unfold X11_burnOn
  rw [gz_1, nm_s, nm_s, nm_s]
  exact l
/-- how it falls k minutes on, the fire lit -/
def gT (B : AT) (a k : Nat) : Int32 := aFall B (nI (a + k))
theorem mB_lit {B : AT} {st s : MS} (h2 : ∀ c, c < 12 → gA st 2 c = aK B c ∧ gA st 3 c = aF B c) (h18 : ∀ c, c < 12 → gA st 18 c = 0) {N : Nat} (hok : okB N B) {m : Int32} (hs : ∀ q, gA s q = gA st q) (h5 : gF s 5 = 1) (h6 : gF s 6 = m) : ∀ c, c < 12 → mB s c = bAt (aBe B) (aBu B) m c := fun c hc => by
  unfold mB bAt
  rw [hs 2, hs 3, hs 18, (h2 c hc).1, (h2 c hc).2, h5, h6, h18 c hc, Int32.zero_mul, Int32.add_zero, if_neg n10]
  show (if aBu B c < 0 then aBe B c else if m < aBu B c then aBe B c else 0) = _
  have hr : aBu B c = -4 ∨ ∃ b, 2 ≤ b ∧ b < 45 ∧ aBu B c = nI b := buK_r (hok.KF hc).2
  rcases hr with e | ⟨b, hb1, hb2, e⟩
  · rw [e, if_pos (show (-4 : Int32) < 0 by decide), if_pos rfl]
  · rw [e, if_neg (nI_pos (by omega)), if_neg (nI_z (by omega))]
theorem mo_burn {A A0 B : AT} {st0 st : MS} (hm : mo A B st0 st) (h0 : mR A0 st0) {N : Nat} (hok : okB N B) {a : Nat} (ha : aM B = nI a) :
    ∃ s', X11_burnOn st = some ((), s') ∧ gF s' 33 = faL (gT B a) 61 0 ∧ gF s' 34 = faS (gT B a) 61 0 ∧ ∃ m, m ≤ 60 ∧ mo A (aMin (aLit B) (nI (a + m))) st0 s' ∧ (∀ j, j < 61 → faL (gT B a) 61 0 = nI j → m = j) ∧ ∀ q, q ∉ ([5, 6, 33, 34] : List Nat) → gF s' q = gF st q := by
  have hR := mo_mR hm h0
  obtain ⟨g1, g2, g3, g4, g5⟩ := hm
  obtain ⟨m1, m2, m3, m4, m5, m6, m7⟩ := g1
  obtain ⟨s', e, b1, b2, b3, b4, b5, b6, m, b7, b8, b9⟩ := burn_a (tl := aT B) (be := aBe B) (bu := aBu B) (a := a) hR.1 m5 hok.T0 hok.T2 (by rw [m2, ha]) (fun k s h1 h2 h3 => mB_lit m6 hR.2.1 hok h1 h2 h3) _ rfl
  refine ⟨s', e, b3, b4, m, b7, ⟨⟨b5, b8, ?_, ?_, fun i hi => ?_, fun c hc => ?_, fun x hx => ?_⟩, ?_, fun k hk => ?_, fun k => ?_, fun k hk => ?_⟩, b9, b6⟩
  · rw [b6 7 (by decide)]; exact m3
  · rw [b6 8 (by decide)]; exact m4
  · rw [b1]; exact m5 i hi
  · rw [b1, b1]; exact m6 c hc
  · rw [b1, b1]; exact m7 x hx
  · rw [b1]; exact g2
  · rw [b1]; exact g3 k hk
  · rw [b2]; exact g4 k
  · rw [b6 k (fun h => hk (by
      have : ∀ x ∈ ([5, 6, 33, 34] : List Nat), x ∈ ([5, 6, 7, 8, 29, 30, 33, 34, 35] : List Nat) := by decide
      exact this k h))]
    exact g5 k hk
theorem okB_up {N M : Nat} {A : AT} (h : okB N A) (hNM : N ≤ M) : okB M A := by
  obtain ⟨h1, ⟨a, ha, e⟩, h3⟩ := h
  exact ⟨h1, ⟨a, by omega, e⟩, h3⟩
theorem okB_lit {N M : Nat} {A : AT} (h : okB N A) {m : Nat} (hm : m < M) : okB M (aMin (aLit A) (nI m)) := by
  obtain ⟨h1, h2, h3, h4, h5, h6, h7⟩ := h
  exact ⟨Or.inr rfl, ⟨m, hm, rfl⟩, h3, h4, h5, h6, fun q => absurd q n10⟩
theorem qm_will {xs : XS} {ms : MS} (h : RR xs ms) (v : Int32) : Cm (X10_will xs v) (X11_will ms v) := by
  have h' := RR_17 h 0
  obtain ⟨A, hA, hc, h9, hR⟩ := h'.1
  obtain ⟨a, ha, ea⟩ := hA.1.M
  unfold X10_will X10_will_p44 X11_will X11_will_p54
  rw [nm_s (sF ms 17 0)]
  by_cases hv : isN 2 v
  · rw [X11_in_n (n := 1) (by decide) (by decide) hv, bd1_s, if_neg n10, hR.2.2.D]
    have v0 : ¬ v < 0 := by
      obtain ⟨j, hj, e⟩ := hv
      rw [e]; exact nI_pos (by omega)
    have v1 : v ≤ 1 := by
      obtain ⟨j, hj, e⟩ := hv
      rw [e]; exact nI_le (a := j) (b := 1) (by omega) (by decide)
    rw [if_neg v0, if_pos v1, X8_isDown_a hA h9, bnd_s, uT_self, nm_s xs]
    by_cases d : aD A = 0
    · rw [if_pos d, if_pos d, X8_fallAfter_a hc hA.1 ea ha, bnd_s, uT_self, nm_s xs]
      obtain ⟨s1, e1, o1⟩ := mo_op hR.2.2 hA.1.L hA.D
      obtain ⟨s2, e2, f33, f34, m, hm, o2, _⟩ := mo_burn o1 hR hA.1 ea
      obtain ⟨s3, e3, o3, f3, _⟩ := mo_cl o2 hA.1.L hA.D
      rw [e1, bnd_s, e2, bnd_s, e3, bnd_s, f3 33 (by decide), f3 34 (by decide), f33, f34]
      have r : RR xs s3 := RR_q h' hA hc h9 o3.1 TK.rf (mo_FR o3)
      show Cm (if v = 0 then some (faL (gT A a) 61 0, xs) else if faL (gT A a) 61 0 = -4 then some (faL (gT A a) 61 0, xs) else bnd (X8_fallSideAt (xT xs 0) (gF (xT xs 0) 8 + faL (gT A a) 61 0)) fun y_14 st_15 => nm (uT xs 0 st_15) fun xs_17 => some (y_14, xs_17)) _
      by_cases w : v = 0
      · rw [if_pos w, if_pos w]
        exact ⟨_, _, _, rfl, rfl, r⟩
      · rw [if_neg w, if_neg w]
        rcases fa_r (gT A a) 61 0 with ⟨q1, q2, _⟩ | ⟨j, j1, j2, q1, q2, q3, _⟩
        · rw [q1, q2, if_pos rfl]
          exact ⟨_, _, _, rfl, rfl, r⟩
        · rw [q1, q2, if_neg (nI_z (by omega)), hc.M, ea, nI_add, X8_fallSideAt_a hc hA.1, bnd_s, uT_self, nm_s]
          exact ⟨_, _, _, rfl, rfl, r⟩
    · rw [if_neg d, if_neg d]
      exact ⟨_, _, _, rfl, rfl, h'⟩
  · rw [X11_in_nf (n := 1) (by decide) (by decide) hv, bd1_s, if_pos rfl]
    by_cases v0 : v < 0
    · rw [if_pos v0]
      exact ⟨_, _, _, rfl, rfl, h'⟩
    · rw [if_neg v0, if_neg (fun q => by
        rcases isN_f hv (by decide) with g | g
        · exact v0 g
        · rw [i_le, show (nI 2).toInt = 2 from rfl] at g
          rw [i_le, show (1 : Int32).toInt = 1 from rfl] at q
          omega)]
      exact ⟨_, _, _, rfl, rfl, h'⟩
