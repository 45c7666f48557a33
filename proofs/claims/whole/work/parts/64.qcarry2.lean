/-! brought back -/
def IN (A : AT) (jj : Nat) (st0 : MS) (p : Nat) (st : MS) : Prop := gK st = some jj ∧ gF st 30 = 0 ∧ gF st 29 = nI p ∧ kp A (gA st (akf jj)) ∧ (∀ k, k ∉ ([2, 3, 4, 9, 10] : List Nat) → gA st k = gA st0 k) ∧ (∀ k, gL st k = gL st0 k) ∧ (∀ k, k ∉ ([5, 6, 7, 8, 29, 30] : List Nat) → gF st k = gF st0 k)
/-- the part of the town that has come: numbers, settings below i, cells below j, houses below h -/
def IP (A : AT) (n i j h : Nat) (st : MS) : Prop := (0 < n → gF st 5 = aL A) ∧ (1 < n → gF st 6 = aM A) ∧ (2 < n → gF st 7 = aD A) ∧ (3 < n → gF st 8 = aH A) ∧ (∀ x, x < i → gA st 4 x = aT A x) ∧ (∀ x, x < j → gA st 2 x = aK A x ∧ gA st 3 x = aF A x) ∧ (∀ x, x < h → gA st 9 x = aS A x ∧ gA st 10 x = aR A x)
theorem IN_step {A : AT} {jj : Nat} {st0 : MS} {p : Nat} {st : MS} (hj : jj = 18 ∨ jj = 19) (h : IN A jj st0 p st) (hp : p < 47) (v : Int32) : X11_carry st v = some (enc A p, sF st 29 (nI (p + 1))) ∧ IN A jj st0 (p + 1) (sF st 29 (nI (p + 1))) := by
  obtain ⟨h1, h2, h3, h4, h5, h6, h7⟩ := h
  refine ⟨by rw [cr_n h1 hj h2 h3 hp, h4 p hp], h1, h2, rfl, h4, h5, h6, fun k hk => ?_⟩
  rw [gF_sF, if_neg (fun e => hk (by rw [e]; decide))]
  exact h7 k hk
theorem IN_sA {A : AT} {jj : Nat} {st0 : MS} {p : Nat} {st : MS} (hj : jj = 18 ∨ jj = 19) (h : IN A jj st0 p st) {a : Nat} (ha : a ∈ ([2, 3, 4, 9, 10] : List Nat)) (i : Nat) (v : Int32) : IN A jj st0 p (sA st a i v) := by
  obtain ⟨h1, h2, h3, h4, h5, h6, h7⟩ := h
  have h26 : akf jj ≠ a := by
    have : akf jj = 26 ∨ akf jj = 27 := by rcases hj with e | e <;> rw [e]; exact Or.inl rfl; exact Or.inr rfl
    intro e
    rw [e] at this
    rcases this with e | e <;> rw [e] at ha <;> revert ha <;> decide
  refine ⟨h1, h2, h3, by rw [gA_sAn _ _ h26]; exact h4, fun k hk => ?_, h6, h7⟩
  rw [gA_sAn _ _ (fun e => hk (by rw [e]; exact ha))]
  exact h5 k hk
theorem IN_sF {A : AT} {jj : Nat} {st0 : MS} {p : Nat} {st : MS} (h : IN A jj st0 p st) {a : Nat} (ha : a ∈ ([5, 6, 7, 8] : List Nat)) (v : Int32) : IN A jj st0 p (sF st a v) := by
  obtain ⟨h1, h2, h3, h4, h5, h6, h7⟩ := h
  have n1 : 30 ≠ a := fun e => by rw [← e] at ha; revert ha; decide
  have n2 : 29 ≠ a := fun e => by rw [← e] at ha; revert ha; decide
  refine ⟨h1, by rw [gF_sF, if_neg n1]; exact h2, by rw [gF_sF, if_neg n2]; exact h3, h4, h5, h6, fun k hk => ?_⟩
  rw [gF_sF, if_neg (fun e => hk (by
    rw [e]
    have : ∀ x ∈ ([5, 6, 7, 8] : List Nat), x ∈ ([5, 6, 7, 8, 29, 30] : List Nat) := by decide
    exact this a ha))]
  exact h7 k hk
theorem ca_n3 {A : AT} {jj : Nat} {st0 : MS} (hj : jj = 18 ∨ jj = 19) : ∀ (n i : Nat) (st : MS), i + n = 6 → IN A jj st0 (35 + 2 * i) st → IP A 4 7 12 i st → ∃ st', X11_carryAll_p175 (n + 1) st (nI i) = some ((), st') ∧ IN A jj st0 47 st' ∧ IP A 4 7 12 6 st' := by
  intro n
  induction n with
  | zero =>
    intro i st h hI hP
    have h : i = 6 := by omega
    subst h
    refine ⟨st, ?_, hI, hP⟩
    rw [X11_carryAll_p175_s, if_pos n6_t]
    rfl
  | succ n ih =>
    intro i st h hI hP
    have hi : i < 6 := by omega
    obtain ⟨e1, I1⟩ := IN_step hj hI (by omega) (gA st 9 i)
    have I2 := IN_sA hj I1 (a := 9) (by decide) i (enc A (35 + 2 * i))
    rw [show 35 + 2 * i + 1 = 36 + 2 * i by omega] at e1 I1 I2
    obtain ⟨e2, I3⟩ := IN_step hj I2 (by omega) (gA (sA (sF st 29 (nI (36 + 2 * i))) 9 i (enc A (35 + 2 * i))) 10 i)
    have I4 := IN_sA hj I3 (a := 10) (by decide) i (enc A (36 + 2 * i))
    rw [show 36 + 2 * i + 1 = 35 + 2 * (i + 1) by omega] at e2 I3 I4
    obtain ⟨s3, e3, g1, g2⟩ := ih (i + 1) _ (by omega) I4 (by
      obtain ⟨p1, p2, p3, p4, p5, p6, p7⟩ := hP
      refine ⟨p1, p2, p3, p4, p5, p6, fun x hx => ⟨?_, ?_⟩⟩
      · show (if x = i then enc A (35 + 2 * i) else gA st 9 x) = _
        by_cases c : x = i
        · rw [if_pos c, c, enc_S A hi]
        · rw [if_neg c]; exact (p7 x (by omega)).1
      · show (if x = i then enc A (36 + 2 * i) else gA st 10 x) = _
        by_cases c : x = i
        · rw [if_pos c, c, enc_R A hi]
        · rw [if_neg c]; exact (p7 x (by omega)).2)
    refine ⟨s3, ?_, g1, g2⟩
    rw [X11_carryAll_p175_s, if_neg (n6_f hi), inr_i hi, nI_cl hi, e1, bnd_s, inr_i hi, nm_s, inr_i hi, e2, bnd_s, inr_i hi, nm_s, nI_1, nm_s]
    exact e3
theorem ca_n2 {A : AT} {jj : Nat} {st0 : MS} (hj : jj = 18 ∨ jj = 19) : ∀ (n i : Nat) (st : MS), i + n = 12 → IN A jj st0 (11 + 2 * i) st → IP A 4 7 i 0 st → ∃ st', X11_carryAll_p129 (n + 1) st (nI i) = some ((), st') ∧ IN A jj st0 47 st' ∧ IP A 4 7 12 6 st' := by
  intro n
  induction n with
  | zero =>
    intro i st h hI hP
    have h : i = 12 := by omega
    subst h
    obtain ⟨s1, e1, I1⟩ := ca_n3 hj 6 0 st (by decide) hI hP
    refine ⟨s1, ?_, I1⟩
    rw [X11_carryAll_p129_s, if_pos n12_t]
    rw [nI_0] at e1
    exact e1
  | succ n ih =>
    intro i st h hI hP
    have hi : i < 12 := by omega
    obtain ⟨e1, I1⟩ := IN_step hj hI (by omega) (gA st 2 i)
    have I2 := IN_sA hj I1 (a := 2) (by decide) i (enc A (11 + 2 * i))
    rw [show 11 + 2 * i + 1 = 12 + 2 * i by omega] at e1 I1 I2
    obtain ⟨e2, I3⟩ := IN_step hj I2 (by omega) (gA (sA (sF st 29 (nI (12 + 2 * i))) 2 i (enc A (11 + 2 * i))) 3 i)
    have I4 := IN_sA hj I3 (a := 3) (by decide) i (enc A (12 + 2 * i))
    rw [show 12 + 2 * i + 1 = 11 + 2 * (i + 1) by omega] at e2 I3 I4
    obtain ⟨s3, e3, g1⟩ := ih (i + 1) _ (by omega) I4 (by
      obtain ⟨p1, p2, p3, p4, p5, p6, p7⟩ := hP
      refine ⟨p1, p2, p3, p4, p5, fun x hx => ⟨?_, ?_⟩, p7⟩
      · show (if x = i then enc A (11 + 2 * i) else gA st 2 x) = _
        by_cases c : x = i
        · rw [if_pos c, c, enc_K A hi]
        · rw [if_neg c]; exact (p6 x (by omega)).1
      · show (if x = i then enc A (12 + 2 * i) else gA st 3 x) = _
        by_cases c : x = i
        · rw [if_pos c, c, enc_F A hi]
        · rw [if_neg c]; exact (p6 x (by omega)).2)
    refine ⟨s3, ?_, g1⟩
    rw [X11_carryAll_p129_s, if_neg (n12_f hi), inr_i hi, nI_cl hi, e1, bnd_s, inr_i hi, nm_s, inr_i hi, e2, bnd_s, inr_i hi, nm_s, nI_1, nm_s]
    exact e3
theorem ca_n1 {A : AT} {jj : Nat} {st0 : MS} (hj : jj = 18 ∨ jj = 19) : ∀ (n i : Nat) (st : MS), i + n = 7 → IN A jj st0 (4 + i) st → IP A 4 i 0 0 st → ∃ st', X11_carryAll_p99 (n + 1) st (nI i) = some ((), st') ∧ IN A jj st0 47 st' ∧ IP A 4 7 12 6 st' := by
  intro n
  induction n with
  | zero =>
    intro i st h hI hP
    have h : i = 7 := by omega
    subst h
    obtain ⟨s1, e1, I1⟩ := ca_n2 hj 12 0 st (by decide) hI hP
    refine ⟨s1, ?_, I1⟩
    rw [X11_carryAll_p99_s, if_pos n7_t]
    rw [nI_0] at e1
    exact e1
  | succ n ih =>
    intro i st h hI hP
    have hi : i < 7 := by omega
    obtain ⟨e1, I1⟩ := IN_step hj hI (by omega) (gA st 4 i)
    have I2 := IN_sA hj I1 (a := 4) (by decide) i (enc A (4 + i))
    obtain ⟨s3, e3, g1⟩ := ih (i + 1) _ (by omega) I2 (by
      obtain ⟨p1, p2, p3, p4, p5, p6, p7⟩ := hP
      refine ⟨p1, p2, p3, p4, fun x hx => ?_, p6, p7⟩
      show (if x = i then enc A (4 + i) else gA st 4 x) = _
      by_cases c : x = i
      · rw [if_pos c, c, enc_T A hi]
      · rw [if_neg c]; exact p5 x (by omega))
    refine ⟨s3, ?_, g1⟩
    rw [X11_carryAll_p99_s, if_neg (n7_f hi), inr_i hi, nI_cl hi, e1, bnd_s, inr_i hi, nm_s, nI_1, nm_s]
    exact e3
theorem ca_n {A : AT} {jj : Nat} {st : MS} (hj : jj = 18 ∨ jj = 19) (hk : kp A (gA st (akf jj))) (hL : aL A = 0 ∨ aL A = 1) (hD : aD A = 0 ∨ aD A = 1) : ∃ st', X11_carryAll st jj (0 : Int32) = some ((), st') ∧ mt A st' ∧ (∀ k, k ∉ ([2, 3, 4, 9, 10] : List Nat) → gA st' k = gA st k) ∧ (∀ k, gL st' k = gL st k) ∧ (∀ k, k ∉ ([5, 6, 7, 8, 29, 30] : List Nat) → gF st' k = gF st k) := by
  have hb1 : ∀ (v : Int32) (f : Int32 → Option (Unit × MS)), (v = 0 ∨ v = 1) → (if v = 1 then f 1 else f 0) = f v := fun v f h => by
    rcases h with e | e
    · rw [e, if_neg (by decide)]
    · rw [e, if_pos rfl]
  have e0 : enc A 0 = aL A := rfl
  have e1 : enc A 1 = aM A := rfl
  have e2 : enc A 2 = aD A := rfl
  have e3 : enc A 3 = aH A := rfl
  have I0 : IN A jj st 0 (sF (sF (sK st (some jj)) 30 0) 29 0) := ⟨rfl, rfl, nI_0.symm, hk, fun k _ => rfl, fun k => rfl, fun k a => by
    rw [gF_sF, if_neg (fun e => a (by rw [e]; decide)), gF_sF, if_neg (fun e => a (by rw [e]; decide))]; rfl⟩
  obtain ⟨S0, eS⟩ : ∃ S, S = sF (sF (sK st (some jj)) 30 0) 29 0 := ⟨_, rfl⟩
  rw [← eS] at I0
  obtain ⟨S1, eS1⟩ : ∃ S, S = sF S0 29 (nI 1) := ⟨_, rfl⟩
  have J1 : ∀ v, X11_carry S0 v = some (aL A, S1) := fun v => by rw [(IN_step hj I0 (by decide) v).1, e0, eS1]
  have I1 : IN A jj st 1 S1 := by rw [eS1]; exact (IN_step hj I0 (by decide) 0).2
  obtain ⟨S2, eS2⟩ : ∃ S, S = sF S1 5 (aL A) := ⟨_, rfl⟩
  have I2 : IN A jj st 1 S2 := by rw [eS2]; exact IN_sF I1 (by decide) _
  have f2 : gF S2 5 = aL A := by rw [eS2]; rfl
  obtain ⟨S3, eS3⟩ : ∃ S, S = sF S2 29 (nI 2) := ⟨_, rfl⟩
  have J3 : ∀ v, X11_carry S2 v = some (aM A, S3) := fun v => by rw [(IN_step hj I2 (by decide) v).1, e1, eS3]
  have I3 : IN A jj st 2 S3 := by rw [eS3]; exact (IN_step hj I2 (by decide) 0).2
  obtain ⟨S4, eS4⟩ : ∃ S, S = sF S3 6 (aM A) := ⟨_, rfl⟩
  have I4 : IN A jj st 2 S4 := by rw [eS4]; exact IN_sF I3 (by decide) _
  obtain ⟨S5, eS5⟩ : ∃ S, S = sF S4 29 (nI 3) := ⟨_, rfl⟩
  have J5 : ∀ v, X11_carry S4 v = some (aD A, S5) := fun v => by rw [(IN_step hj I4 (by decide) v).1, e2, eS5]
  have I5 : IN A jj st 3 S5 := by rw [eS5]; exact (IN_step hj I4 (by decide) 0).2
  obtain ⟨S6, eS6⟩ : ∃ S, S = sF S5 7 (aD A) := ⟨_, rfl⟩
  have I6 : IN A jj st 3 S6 := by rw [eS6]; exact IN_sF I5 (by decide) _
  obtain ⟨S7, eS7⟩ : ∃ S, S = sF S6 29 (nI 4) := ⟨_, rfl⟩
  have J7 : ∀ v, X11_carry S6 v = some (aH A, S7) := fun v => by rw [(IN_step hj I6 (by decide) v).1, e3, eS7]
  have I7 : IN A jj st 4 S7 := by rw [eS7]; exact (IN_step hj I6 (by decide) 0).2
  obtain ⟨S8, eS8⟩ : ∃ S, S = sF S7 8 (aH A) := ⟨_, rfl⟩
  have I8 : IN A jj st 4 S8 := by rw [eS8]; exact IN_sF I7 (by decide) _
  have P8 : IP A 4 0 0 0 S8 := ⟨fun _ => by rw [eS8, eS7, eS6, eS5, eS4, eS3, eS2]; rfl, fun _ => by rw [eS8, eS7, eS6, eS5, eS4]; rfl, fun _ => by rw [eS8, eS7, eS6]; rfl, fun _ => by rw [eS8]; rfl, fun x hx => absurd hx (Nat.not_lt_zero _), fun x hx => absurd hx (Nat.not_lt_zero _), fun x hx => absurd hx (Nat.not_lt_zero _)⟩
  obtain ⟨s9, c9, I9, P9⟩ := ca_n1 hj 7 0 S8 (by decide) I8 P8
  rw [nI_0] at c9
  obtain ⟨p1, p2, p3, p4, p5, p6, p7⟩ := P9
  refine ⟨s9, ?_, ⟨p1 (by decide), p2 (by decide), p3 (by decide), p4 (by decide), p5, p6, p7⟩, I9.2.2.2.2.1, I9.2.2.2.2.2.1, I9.2.2.2.2.2.2⟩
  have g4 : ∀ t1, t1 = aH A → X11_carryAll_p99 8 (sF S7 8 t1) (0 : Int32) = some ((), s9) := fun t1 h => by rw [h, ← eS8]; exact c9
  have g3 : X11_carryAll_p82 S5 (aD A) = some ((), s9) := by
    unfold X11_carryAll_p82
    rw [gz_c hD, nm_s, ← eS6, J7, bnd_s, nm_s]
    exact g4 _ rfl
  have g2 : ∀ t, X11_carryAll_p70 S4 t = some ((), s9) := fun t => by
    unfold X11_carryAll_p70
    rw [J5, bnd_s, hb1 _ (X11_carryAll_p82 S5) hD]
    exact g3
  have g1 : X11_carryAll_p41 S1 (aL A) = some ((), s9) := by
    unfold X11_carryAll_p41
    rw [gz_c hL, nm_s, ← eS2, J3, bnd_s, nm_s, ← eS4, g2, g2]
    exact ite_self _
  have g0 : ∀ t, X11_carryAll_p29 S0 t = some ((), s9) := fun t => by
    unfold X11_carryAll_p29
    rw [J1, bnd_s, hb1 _ (X11_carryAll_p41 S1) hL]
    exact g1
  unfold X11_carryAll
  rw [nm_s, gz_0, nm_s, nm_s, ← eS, g0, g0]
  exact ite_self _
/-! the thought: the town B stands, A is kept, all else as in st0 -/
def mo (A B : AT) (st0 st : MS) : Prop := mt B st ∧ kp A (gA st 26) ∧ (∀ k, k ∉ ([2, 3, 4, 9, 10, 26] : List Nat) → gA st k = gA st0 k) ∧ (∀ k, gL st k = gL st0 k) ∧ (∀ k, k ∉ ([5, 6, 7, 8, 29, 30, 33, 34, 35] : List Nat) → gF st k = gF st0 k)
theorem mo_op {A : AT} {st : MS} (hm : mt A st) (hL : aL A = 0 ∨ aL A = 1) (hD : aD A = 0 ∨ aD A = 1) : ∃ st', X11_open st = some ((), st') ∧ mo A A st st' := by
  obtain ⟨s1, e1, h1, h2, h3, h4, h5⟩ := ca_t (jj := 18) (Or.inl rfl) hm hL hD
  refine ⟨s1, by unfold X11_open; rw [e1, bnd_s], h2, h1, fun k hk => h3 k (fun e => hk (by rw [e]; decide)), h4, fun k hk => h5 k (fun e => hk (by rw [e]; decide)) (fun e => hk (by rw [e]; decide))⟩
theorem mo_cl {A B : AT} {st0 st : MS} (hm : mo A B st0 st) (hL : aL A = 0 ∨ aL A = 1) (hD : aD A = 0 ∨ aD A = 1) : ∃ st', X11_close st = some ((), st') ∧ mo A A st0 st' ∧ (∀ k, k ∉ ([5, 6, 7, 8, 29, 30] : List Nat) → gF st' k = gF st k) ∧ (∀ k, k ∉ ([2, 3, 4, 9, 10] : List Nat) → gA st' k = gA st k) := by
  obtain ⟨g1, g2, g3, g4, g5⟩ := hm
  obtain ⟨s1, e1, h2, h3, h4, h5⟩ := ca_n (jj := 18) (Or.inl rfl) g2 hL hD
  refine ⟨s1, by unfold X11_close; rw [e1, bnd_s], ⟨h2, ?_, fun k hk => ?_, fun k => (h4 k).trans (g4 k), fun k hk => (h5 k (fun h => hk (by
    have : ∀ x ∈ ([5, 6, 7, 8, 29, 30] : List Nat), x ∈ ([5, 6, 7, 8, 29, 30, 33, 34, 35] : List Nat) := by decide
    exact this k h))).trans (g5 k hk)⟩, h5, h3⟩
  · rw [h3 26 (by decide)]; exact g2
  · rw [h3 k (fun h => hk (by
      have : ∀ x ∈ ([2, 3, 4, 9, 10] : List Nat), x ∈ ([2, 3, 4, 9, 10, 26] : List Nat) := by decide
      exact this k h))]
    exact g3 k hk
