/-! a new foot, the image, what is counted, copies -/
def aNew (A : AT) : AT := ((0, 0, 0, aH A), aT A, (fun _ => 0), (fun _ => 0), aS A, aR A)
theorem okA_new {A : AT} (h : okA A) : okA (aNew A) := by
  obtain ⟨h1, h2, h3, h4, h5, h6, h7⟩ := h
  exact ⟨Or.inl rfl, ⟨0, by decide, rfl⟩, h3, fun c _ => ⟨⟨0, by decide, rfl⟩, ⟨0, by decide, rfl⟩⟩, h5, h6, fun _ => rfl⟩
theorem X8_renew_l {A : AT} {x0 : XS} (h0 : ct A (xT x0 0) (xB x0 0)) : ∀ (n i : Nat) (xs : XS), i + n = 12 → TK 0 x0 xs →
    (∀ c, c < i → (xB xs 0 c) = ((0, 0) : BK) ∧ gA (xT xs 0) 1 c = 9 ∧ gA (xT xs 0) 2 c = -4) → (∀ k, k ≠ 1 → k ≠ 2 → gA (xT xs 0) k = gA (xT x0 0) k) → (∀ k, gF (xT xs 0) k = gF (xT x0 0) k) →
    ∃ xs', X8_renew_0_p11 (n + 1) xs ((0, 0) : BK) (nI i) = some ((), xs') ∧ TK 0 x0 xs' ∧ ct (aNew A) (xT xs' 0) (xB xs' 0) ∧ gF (xT xs' 0) 9 = -4 := by
  intro n
  induction n with
  | zero =>
    intro i xs h hT hc hA hF
    have h : i = 12 := by omega
    subst h
    have e : X8_renew_0_p29 xs = some ((), uT (uT (uT xs 0 (sF (xT xs 0) 7 0)) 0 (sF (sF (xT xs 0) 7 0) 8 0)) 0 (sF (sF (sF (xT xs 0) 7 0) 8 0) 9 (-4))) := by
      unfold X8_renew_0_p29
      rw [gz_0]
      rfl
    refine ⟨_, by rw [X8_renew_0_p11_s, if_pos n12_t]; exact e, ((hT.uT _).uT _).uT _, ?_, rfl⟩
    obtain ⟨c1, c2, c3, c4, c5, c6⟩ := h0
    refine ⟨fun c hc' => ?_, fun i hi => ?_, fun x hx => ⟨?_, ?_⟩, ?_, rfl, rfl⟩
    · obtain ⟨g1, g2, g3⟩ := hc c hc'
      show kiB (xB xs 0 c) = 0 ∧ (xB xs 0 c).2 = 0 ∧ (xB xs 0 c).1 < 8 ∧ gA (xT xs 0) 1 c = bwK 0 0 ∧ gA (xT xs 0) 2 c = buK 0 0
      rw [g1, g2, g3]
      exact ⟨rfl, rfl, by decide, rfl, rfl⟩
    · show gA (xT xs 0) 3 i = aT A i
      rw [hA 3 (by decide) (by decide)]; exact c2 i hi
    · show gA (xT xs 0) 4 x = aS A x
      rw [hA 4 (by decide) (by decide)]; exact (c3 x hx).1
    · show gA (xT xs 0) 5 x = aR A x
      rw [hA 5 (by decide) (by decide)]; exact (c3 x hx).2
    · show gF (xT xs 0) 6 = aH A
      rw [hF 6]; exact c4
  | succ n ih =>
    intro i xs h hT hc hA hF
    have hi : i < 12 := by omega
    have e : X8_replace_0 xs (nI i) ((0, 0) : BK) = some ((), uT (uT (uB xs 0 i ((0, 0) : BK)) 0 (sA (xT xs 0) 1 i 9)) 0 (sA (sA (xT xs 0) 1 i 9) 2 i (-4))) := by
      unfold X8_replace_0
      rw [inr_i hi, nm_s, inr_i hi, nm_s, inr_i hi, nm_s, nI_cl hi]
      rfl
    obtain ⟨x1, e1, g1⟩ := ih (i + 1) _ (by omega) (((hT.uB i ((0, 0) : BK)).uT (sA (xT xs 0) 1 i 9)).uT (sA (sA (xT xs 0) 1 i 9) 2 i (-4))) (fun c hcc => by
      refine ⟨?_, ?_, ?_⟩
      · show xB (uB xs 0 i ((0, 0) : BK)) 0 c = _
        rw [xB_d]
        by_cases q : c = i
        · rw [if_pos q]
        · rw [if_neg q]; exact (hc c (by omega)).1
      · show (if c = i then (9 : Int32) else gA (xT xs 0) 1 c) = 9
        by_cases q : c = i
        · rw [if_pos q]
        · rw [if_neg q]; exact (hc c (by omega)).2.1
      · show (if c = i then (-4 : Int32) else gA (xT xs 0) 2 c) = -4
        by_cases q : c = i
        · rw [if_pos q]
        · rw [if_neg q]; exact (hc c (by omega)).2.2) (fun k k1 k2 => by
      show gA (sA (sA (xT xs 0) 1 i 9) 2 i (-4)) k = _
      rw [gA_sAn _ _ k2, gA_sAn _ _ k1]
      exact hA k k1 k2) (fun k => hF k)
    refine ⟨x1, ?_, g1⟩
    rw [X8_renew_0_p11_s, if_neg (n12_f hi), e, bnd_s, nm_s, nI_1]
    exact e1
theorem X11_anew_l {A : AT} {s0 : MS} (h0 : mt A s0) : ∀ (n i : Nat) (st : MS), i + n = 12 → (∀ c, c < i → gA st 2 c = 0 ∧ gA st 3 c = 0) → (∀ k, k ≠ 2 → k ≠ 3 → gA st k = gA s0 k) → (∀ k, gF st k = gF s0 k) → (∀ k, gL st k = gL s0 k) →
    ∃ s1, X11_anew_p7 (n + 1) st (nI i) = X11_anew_p33 s1 ∧ mt (aNew A) (sF (sF (sF s1 5 0) 6 0) 7 0) ∧ FR s0 (sF (sF (sF s1 5 0) 6 0) 7 0) := by
  intro n
  induction n with
  | zero =>
    intro i st h hc hA hF hL
    have h : i = 12 := by omega
    subst h
    refine ⟨st, by rw [X11_anew_p7_s, if_pos n12_t], ?_, ?_⟩
    · obtain ⟨m1, m2, m3, m4, m5, m6, m7⟩ := h0
      refine ⟨rfl, rfl, rfl, ?_, fun i hi => ?_, fun c hcc => hc c hcc, fun x hx => ⟨?_, ?_⟩⟩
      · show gF st 8 = aH A
        rw [hF 8]; exact m4
      · show gA st 4 i = aT A i
        rw [hA 4 (by decide) (by decide)]; exact m5 i hi
      · show gA st 9 x = aS A x
        rw [hA 9 (by decide) (by decide)]; exact (m7 x hx).1
      · show gA st 10 x = aR A x
        rw [hA 10 (by decide) (by decide)]; exact (m7 x hx).2
    · refine ⟨fun k hk => ?_, hL 16, ?_⟩
      · show gA st k = gA s0 k
        have : ∀ x ∈ ([0, 1, 11, 12, 13, 14, 15, 18, 27] : List Nat), x ≠ 2 ∧ x ≠ 3 := by decide
        exact hA k (this k hk).1 (this k hk).2
      · show gF st 28 = gF s0 28
        exact hF 28
  | succ n ih =>
    intro i st h hc hA hF hL
    have hi : i < 12 := by omega
    obtain ⟨s1, e1, g1⟩ := ih (i + 1) (sA (sA st 2 i 0) 3 i 0) (by omega) (fun c hcc => by
      refine ⟨?_, ?_⟩
      · show (if c = i then (0 : Int32) else gA st 2 c) = 0
        by_cases q : c = i
        · rw [if_pos q]
        · rw [if_neg q]; exact (hc c (by omega)).1
      · show (if c = i then (0 : Int32) else gA st 3 c) = 0
        by_cases q : c = i
        · rw [if_pos q]
        · rw [if_neg q]; exact (hc c (by omega)).2) (fun k k1 k2 => by
      rw [gA_sAn _ _ k2, gA_sAn _ _ k1]
      exact hA k k1 k2) (fun k => hF k) (fun k => hL k)
    refine ⟨s1, ?_, g1⟩
    rw [X11_anew_p7_s, if_neg (n12_f hi), inr_i hi, nI_cl hi, nm_s, inr_i hi, nm_s, nI_1, nm_s]
    exact e1
theorem qm_anew {xs : XS} {ms : MS} (h : RR xs ms) : Cm (X10_anew xs) (X11_anew ms) := by
  have h' := RR_17 h 0
  obtain ⟨A, hA, hc, h9, hR⟩ := h'.1
  obtain ⟨x1, e1, t1, c1, n1⟩ := X8_renew_l hc 12 0 xs (by decide) TK.rf (fun c hc => absurd hc (Nat.not_lt_zero _)) (fun _ _ _ => rfl) (fun _ => rfl)
  obtain ⟨s1, e2, m2, f2⟩ := X11_anew_l hR.2.2 12 0 (sF ms 17 0) (by decide) (fun c hc => absurd hc (Nat.not_lt_zero _)) (fun _ _ _ => rfl) (fun _ => rfl) (fun _ => rfl)
  rw [nI_0] at e1 e2
  obtain ⟨ms2, s3, s4, r, _⟩ := RR_set h' (A := aNew A) (okA_new hA.1) rfl c1 n1 t1.FX0 f2 m2
  apply Cm_i r
  · unfold X10_anew X8_renew_0
    rw [e1, bnd_s, s3, bnd_s, nm_s]
  · unfold X11_anew
    rw [nm_s, e2]
    unfold X11_anew_p33
    rw [gz_0, nm_s, nm_s, gz_0, nm_s, s4, bnd_s]
theorem qm_image {xs : XS} {ms : MS} (h : RR xs ms) : Cm (X10_image xs) (X11_image ms) := by
  have h' := RR_17 h 0
  obtain ⟨A, hA, hc, h9, hR⟩ := h'.1
  obtain ⟨x1, e1, t1, c1, n1⟩ := tk20 hc hA.1.L
  have hm1 : mt A (sF (sF ms 17 0) 28 1) := hR.2.2
  obtain ⟨s1, e2, k2, m2, g1, g2, g3⟩ := ca_t (jj := 19) (Or.inr rfl) hm1 hA.1.L hA.D
  unfold X10_image X11_image
  rw [nm_s (sF ms 17 0), e1, bnd_s, gz_1, gz_1, nm_s, nm_s, e2, bnd_s]
  refine ⟨_, _, s1, rfl, ?_, ?_⟩
  · rw [m2.M, show gF (xT (uI x1 1) 0) 8 = aM A by
      show gF (xT x1 0) 8 = aM A
      rw [(t1.1 0 (by decide)).1]; exact hc.M]
  · refine ⟨⟨A, hA, ?_, ?_, ⟨fun i hi => ?_, fun i hi => ?_⟩, fun c hcc => ?_, m2⟩, Or.inr ⟨rfl, ?_, A, hA, c1, ?_, k2⟩, fun d hd => ?_⟩
    · show ct A (xT x1 0) (xB x1 0)
      rw [(t1.1 0 (by decide)).1, (t1.1 0 (by decide)).2]; exact hc
    · show gF (xT x1 0) 9 = _
      rw [(t1.1 0 (by decide)).1]; exact h9
    · rw [g1 0 (akf_n (Or.inr rfl) (by decide))]; exact hR.1.1 i hi
    · rw [g1 1 (akf_n (Or.inr rfl) (by decide))]; exact hR.1.2 i hi
    · rw [g1 18 (akf_n (Or.inr rfl) (by decide))]; exact hR.2.1 c hcc
    · rw [g3 28 (by decide) (by decide)]; rfl
    · exact n1.trans h9
    · have e3 : xK (uI x1 1) = xK xs := congrArg (fun z => z.2.1) t1.2
      have e4 : xR (uI x1 1) = xR xs := congrArg (fun z => z.2.2) t1.2
      rw [e3, e4]
      have := h'.2.2 d hd
      unfold RSd at this ⊢
      rw [g1 11 (akf_n (Or.inr rfl) (by decide)), g1 12 (akf_n (Or.inr rfl) (by decide)), g1 13 (akf_n (Or.inr rfl) (by decide)), g1 14 (akf_n (Or.inr rfl) (by decide)), g1 15 (akf_n (Or.inr rfl) (by decide)), g2 16]
      exact this
theorem qm_restore {xs : XS} {ms : MS} (h : RR xs ms) : Cm (X10_restore xs) (X11_restore ms) := by
  have h' := RR_17 h 0
  obtain ⟨A, hA, hc, h9, hR⟩ := h'.1
  unfold X10_restore X11_restore
  rw [nm_s]
  rcases h'.2.1 with ⟨i1, i2⟩ | ⟨i1, i2, I, hI, hcI, h9I, kI⟩
  · rw [i1, i2, if_pos rfl, if_pos rfl]
    exact ⟨_, _, _, rfl, rfl, h'⟩
  · rw [i1, i2, if_neg n10, if_neg n10]
    obtain ⟨x1, e1, t1, c1, n1⟩ := tk02 hcI hI.1.L
    obtain ⟨s1, e2, m2, g1, g2, g3⟩ := ca_n (jj := 19) (Or.inr rfl) kI hI.1.L hI.D
    rw [e1, bnd_s, e2, bnd_s]
    refine ⟨_, _, _, rfl, by rw [m2.M, c1.M], ?_⟩
    exact RR_n h' hI c1 (n1.trans h9I) m2 t1.FX0 ⟨fun k hk => g1 k (fun hh => by
      have : ∀ x ∈ ([2, 3, 4, 9, 10] : List Nat), x ∉ ([0, 1, 11, 12, 13, 14, 15, 18, 27] : List Nat) := by decide
      exact this k hh hk), g2 16, g3 28 (by decide)⟩
