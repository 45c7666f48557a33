/-! a town told apart from both classes: lit, minute, down, houses; settings; kinds, figures; sides, distances -/
abbrev AT : Type := (Int32 × Int32 × Int32 × Int32) × (Nat → Int32) × (Nat → Int32) × (Nat → Int32) × (Nat → Int32) × (Nat → Int32)
def aL (A : AT) : Int32 := A.1.1
def aM (A : AT) : Int32 := A.1.2.1
def aD (A : AT) : Int32 := A.1.2.2.1
def aH (A : AT) : Int32 := A.1.2.2.2
def aT (A : AT) : Nat → Int32 := A.2.1
def aK (A : AT) : Nat → Int32 := A.2.2.1
def aF (A : AT) : Nat → Int32 := A.2.2.2.1
def aS (A : AT) : Nat → Int32 := A.2.2.2.2.1
def aR (A : AT) : Nat → Int32 := A.2.2.2.2.2
def aBe (A : AT) (c : Nat) : Int32 := bwK (aK A c) (aF A c)
def aBu (A : AT) (c : Nat) : Int32 := buK (aK A c) (aF A c)
def aFall (A : AT) (m : Int32) : Int32 := flT (aBe A) (aBu A) (aT A) m
/-- its forty-seven numbers in a row -/
def enc (A : AT) (q : Nat) : Int32 :=
  if q = 0 then aL A else if q = 1 then aM A else if q = 2 then aD A else if q = 3 then aH A else
  if q < 11 then aT A (q - 4) else
  if q < 35 then (if q % 2 = 1 then aK A ((q - 11) / 2) else aF A ((q - 12) / 2)) else
  if q % 2 = 1 then aS A ((q - 35) / 2) else aR A ((q - 36) / 2)
theorem enc_T (A : AT) {i : Nat} (h : i < 7) : enc A (4 + i) = aT A i := by
  unfold enc
  rw [if_neg (by omega), if_neg (by omega), if_neg (by omega), if_neg (by omega), if_pos (by omega), show 4 + i - 4 = i by omega]
theorem enc_K (A : AT) {c : Nat} (h : c < 12) : enc A (11 + 2 * c) = aK A c := by
  unfold enc
  rw [if_neg (by omega), if_neg (by omega), if_neg (by omega), if_neg (by omega), if_neg (by omega), if_pos (by omega), if_pos (by omega), show (11 + 2 * c - 11) / 2 = c by omega]
theorem enc_F (A : AT) {c : Nat} (h : c < 12) : enc A (12 + 2 * c) = aF A c := by
  unfold enc
  rw [if_neg (by omega), if_neg (by omega), if_neg (by omega), if_neg (by omega), if_neg (by omega), if_pos (by omega), if_neg (by omega), show (12 + 2 * c - 12) / 2 = c by omega]
theorem enc_S (A : AT) {h : Nat} (_ : h < 6) : enc A (35 + 2 * h) = aS A h := by
  unfold enc
  rw [if_neg (by omega), if_neg (by omega), if_neg (by omega), if_neg (by omega), if_neg (by omega), if_neg (by omega), if_pos (by omega), show (35 + 2 * h - 35) / 2 = h by omega]
theorem enc_R (A : AT) {h : Nat} (_ : h < 6) : enc A (36 + 2 * h) = aR A h := by
  unfold enc
  rw [if_neg (by omega), if_neg (by omega), if_neg (by omega), if_neg (by omega), if_neg (by omega), if_neg (by omega), if_neg (by omega), show (36 + 2 * h - 36) / 2 = h by omega]
/-- the reference's town is A; a row keeps A -/
def mt (A : AT) (st : MS) : Prop := gF st 5 = aL A ∧ gF st 6 = aM A ∧ gF st 7 = aD A ∧ gF st 8 = aH A ∧ (∀ i, i < 7 → gA st 4 i = aT A i) ∧ (∀ c, c < 12 → gA st 2 c = aK A c ∧ gA st 3 c = aF A c) ∧ (∀ h, h < 6 → gA st 9 h = aS A h ∧ gA st 10 h = aR A h)
def kp (A : AT) (f : Nat → Int32) : Prop := ∀ q, q < 47 → f q = enc A q
theorem sA_id {st : MS} {a i : Nat} {v : Int32} (h : gA st a i = v) : sA st a i v = st := by
  have e : (fun j => if j = a then upd (st.2.1 j) i v else st.2.1 j) = st.2.1 := by
    funext j
    by_cases c : j = a
    · rw [if_pos c, c]
      funext x
      unfold upd
      by_cases d : x = i
      · rw [if_pos d, d]; exact h.symm
      · rw [if_neg d]
    · rw [if_neg c]
  unfold sA
  rw [e]
theorem sF_id {st : MS} {k : Nat} {v : Int32} (h : gF st k = v) : sF st k v = st := by
  have e : (fun j => if j = k then v else st.1 j) = st.1 := by
    funext j
    by_cases c : j = k
    · rw [if_pos c, c]; exact h.symm
    · rw [if_neg c]
  unfold sF
  rw [e]
theorem gF_sF (st : MS) (k : Nat) (v : Int32) (j : Nat) : gF (sF st k v) j = if j = k then v else gF st j := rfl
theorem gF_sA (st : MS) (k i : Nat) (v : Int32) (j : Nat) : gF (sA st k i v) j = gF st j := rfl
theorem gA_sA (st : MS) (k i : Nat) (v : Int32) (j x : Nat) : gA (sA st k i v) j x = if j = k then (if x = i then v else gA st j x) else gA st j x := by
  show (if j = k then upd (st.2.1 j) i v else st.2.1 j) x = _
  by_cases c : j = k
  · rw [if_pos c, if_pos c]; rfl
  · rw [if_neg c, if_neg c]; rfl
theorem gA_sF (st : MS) (k : Nat) (v : Int32) (j : Nat) : gA (sF st k v) j = gA st j := rfl
theorem gA_sAn (st : MS) {k i j : Nat} (v : Int32) (h : j ≠ k) : gA (sA st k i v) j = gA st j := if_neg h
theorem kin_s {γ : Type} {st : MS} {j : Nat} {k : Nat → Option γ} (h : gK st = some j) (hj : j = 18 ∨ j = 19) : kin st k = k j := by
  unfold kin
  rcases hj with e | e
  · rw [if_pos (by rw [h, e]), e]
  · rw [if_neg (by rw [h, e]; decide), if_pos (by rw [h, e]), e]
theorem cr_17 {S : MS} {jj p : Nat} (hK : gK S = some jj) (hj : jj = 18 ∨ jj = 19) (h29 : gF S 29 = nI p) (hp : p < 47) : X11_carry_p17 S = some (gA S (akf jj) p, sF S 29 (nI (p + 1))) := by
  unfold X11_carry_p17
  rw [nm_s, h29, nI_1, kin_s (st := sF S 29 (nI (p + 1))) hK hj]
  have e : gF (sF S 29 (nI (p + 1))) 29 = nI (p + 1) := rfl
  rw [e, nI_pred, inr_i hp, nI_cl hp]
  rfl
theorem cr_t {S : MS} {jj p : Nat} {v : Int32} (hK : gK S = some jj) (hj : jj = 18 ∨ jj = 19) (h30 : gF S 30 = 1) (h29 : gF S 29 = nI p) (hp : p < 47) : X11_carry S v = some (v, sF (sA S (akf jj) p v) 29 (nI (p + 1))) := by
  unfold X11_carry
  rw [if_neg (by rw [h30]; decide), kin_s hK hj, h29, inr_i hp, nm_s, nI_cl hp, cr_17 (S := sA S (akf jj) p v) hK hj h29 hp, gA_sA, if_pos rfl, if_pos rfl]
theorem cr_n {S : MS} {jj p : Nat} {v : Int32} (hK : gK S = some jj) (hj : jj = 18 ∨ jj = 19) (h30 : gF S 30 = 0) (h29 : gF S 29 = nI p) (hp : p < 47) : X11_carry S v = some (gA S (akf jj) p, sF S 29 (nI (p + 1))) := by
  unfold X11_carry
  rw [if_pos h30, cr_17 hK hj h29 hp]
/-! taken -/
def IT (A : AT) (jj : Nat) (st0 : MS) (p : Nat) (st : MS) : Prop := gK st = some jj ∧ gF st 30 = 1 ∧ gF st 29 = nI p ∧ (∀ q, q < p → gA st (akf jj) q = enc A q) ∧ mt A st ∧ (∀ k, k ≠ akf jj → gA st k = gA st0 k) ∧ (∀ k, gL st k = gL st0 k) ∧ (∀ k, k ≠ 29 → k ≠ 30 → gF st k = gF st0 k)
theorem akf_n {jj : Nat} (hj : jj = 18 ∨ jj = 19) {k : Nat} (hk : k < 26) : k ≠ akf jj := by
  rcases hj with e | e
  · rw [e]; show k ≠ 26; omega
  · rw [e]; show k ≠ 27; omega
theorem IT_step {A : AT} {jj : Nat} {st0 : MS} {p : Nat} {st : MS} (hj : jj = 18 ∨ jj = 19) (h : IT A jj st0 p st) (hp : p < 47) : ∃ st1, X11_carry st (enc A p) = some (enc A p, st1) ∧ IT A jj st0 (p + 1) st1 := by
  obtain ⟨h1, h2, h3, h4, h5, h6, h7, h8⟩ := h
  refine ⟨_, cr_t h1 hj h2 h3 hp, h1, h2, rfl, fun q hq => ?_, ?_, fun k hk => ?_, h7, fun k a b => ?_⟩
  · rw [gA_sF, gA_sA, if_pos rfl]
    by_cases c : q = p
    · rw [if_pos c, c]
    · rw [if_neg c]; exact h4 q (by omega)
  · obtain ⟨m1, m2, m3, m4, m5, m6, m7⟩ := h5
    refine ⟨m1, m2, m3, m4, fun i hi => ?_, fun c hc => ⟨?_, ?_⟩, fun x hx => ⟨?_, ?_⟩⟩
    · rw [gA_sF, gA_sAn _ _ (akf_n hj (by decide))]; exact m5 i hi
    · rw [gA_sF, gA_sAn _ _ (akf_n hj (by decide))]; exact (m6 c hc).1
    · rw [gA_sF, gA_sAn _ _ (akf_n hj (by decide))]; exact (m6 c hc).2
    · rw [gA_sF, gA_sAn _ _ (akf_n hj (by decide))]; exact (m7 x hx).1
    · rw [gA_sF, gA_sAn _ _ (akf_n hj (by decide))]; exact (m7 x hx).2
  · rw [gA_sF, gA_sAn _ _ hk]; exact h6 k hk
  · rw [gF_sF, if_neg a, gF_sA]; exact h8 k a b
theorem ca_t3 {A : AT} {jj : Nat} {st0 : MS} (hj : jj = 18 ∨ jj = 19) : ∀ (n i : Nat) (st : MS), i + n = 6 → IT A jj st0 (35 + 2 * i) st → ∃ st', X11_carryAll_p175 (n + 1) st (nI i) = some ((), st') ∧ IT A jj st0 47 st' := by
  intro n
  induction n with
  | zero =>
    intro i st h hI
    have h : i = 6 := by omega
    subst h
    refine ⟨st, ?_, hI⟩
    rw [X11_carryAll_p175_s, if_pos n6_t]
    rfl
  | succ n ih =>
    intro i st h hI
    have hi : i < 6 := by omega
    obtain ⟨s1, e1, I1⟩ := IT_step hj hI (by omega)
    have I1' : IT A jj st0 (36 + 2 * i) s1 := by rw [show 36 + 2 * i = 35 + 2 * i + 1 by omega]; exact I1
    obtain ⟨s2, e2, I2⟩ := IT_step hj I1' (by omega)
    obtain ⟨s3, e3, I3⟩ := ih (i + 1) s2 (by omega) (by rw [show 35 + 2 * (i + 1) = 36 + 2 * i + 1 by omega]; exact I2)
    refine ⟨s3, ?_, I3⟩
    have a1 : gA st 9 i = enc A (35 + 2 * i) := by rw [enc_S A hi]; exact (hI.2.2.2.2.1.2.2.2.2.2.2 i hi).1
    have a2 : gA s1 9 i = enc A (35 + 2 * i) := by rw [enc_S A hi]; exact (I1.2.2.2.2.1.2.2.2.2.2.2 i hi).1
    have a3 : gA s1 10 i = enc A (36 + 2 * i) := by rw [enc_R A hi]; exact (I1.2.2.2.2.1.2.2.2.2.2.2 i hi).2
    have a4 : gA s2 10 i = enc A (36 + 2 * i) := by rw [enc_R A hi]; exact (I2.2.2.2.2.1.2.2.2.2.2.2 i hi).2
    rw [X11_carryAll_p175_s, if_neg (n6_f hi), inr_i hi, nI_cl hi, a1, e1, bnd_s, inr_i hi, sA_id a2, nm_s, inr_i hi, a3, e2, bnd_s, inr_i hi, sA_id a4, nm_s, nI_1, nm_s]
    exact e3
theorem ca_t2 {A : AT} {jj : Nat} {st0 : MS} (hj : jj = 18 ∨ jj = 19) : ∀ (n i : Nat) (st : MS), i + n = 12 → IT A jj st0 (11 + 2 * i) st → ∃ st', X11_carryAll_p129 (n + 1) st (nI i) = some ((), st') ∧ IT A jj st0 47 st' := by
  intro n
  induction n with
  | zero =>
    intro i st h hI
    have h : i = 12 := by omega
    subst h
    obtain ⟨s1, e1, I1⟩ := ca_t3 hj 6 0 st (by decide) hI
    refine ⟨s1, ?_, I1⟩
    rw [X11_carryAll_p129_s, if_pos n12_t]
    rw [nI_0] at e1
    exact e1
  | succ n ih =>
    intro i st h hI
    have hi : i < 12 := by omega
    obtain ⟨s1, e1, I1⟩ := IT_step hj hI (by omega)
    have I1' : IT A jj st0 (12 + 2 * i) s1 := by rw [show 12 + 2 * i = 11 + 2 * i + 1 by omega]; exact I1
    obtain ⟨s2, e2, I2⟩ := IT_step hj I1' (by omega)
    obtain ⟨s3, e3, I3⟩ := ih (i + 1) s2 (by omega) (by rw [show 11 + 2 * (i + 1) = 12 + 2 * i + 1 by omega]; exact I2)
    refine ⟨s3, ?_, I3⟩
    have a1 : gA st 2 i = enc A (11 + 2 * i) := by rw [enc_K A hi]; exact (hI.2.2.2.2.1.2.2.2.2.2.1 i hi).1
    have a2 : gA s1 2 i = enc A (11 + 2 * i) := by rw [enc_K A hi]; exact (I1.2.2.2.2.1.2.2.2.2.2.1 i hi).1
    have a3 : gA s1 3 i = enc A (12 + 2 * i) := by rw [enc_F A hi]; exact (I1.2.2.2.2.1.2.2.2.2.2.1 i hi).2
    have a4 : gA s2 3 i = enc A (12 + 2 * i) := by rw [enc_F A hi]; exact (I2.2.2.2.2.1.2.2.2.2.2.1 i hi).2
    rw [X11_carryAll_p129_s, if_neg (n12_f hi), inr_i hi, nI_cl hi, a1, e1, bnd_s, inr_i hi, sA_id a2, nm_s, inr_i hi, a3, e2, bnd_s, inr_i hi, sA_id a4, nm_s, nI_1, nm_s]
    exact e3
theorem ca_t1 {A : AT} {jj : Nat} {st0 : MS} (hj : jj = 18 ∨ jj = 19) : ∀ (n i : Nat) (st : MS), i + n = 7 → IT A jj st0 (4 + i) st → ∃ st', X11_carryAll_p99 (n + 1) st (nI i) = some ((), st') ∧ IT A jj st0 47 st' := by
  intro n
  induction n with
  | zero =>
    intro i st h hI
    have h : i = 7 := by omega
    subst h
    obtain ⟨s1, e1, I1⟩ := ca_t2 hj 12 0 st (by decide) hI
    refine ⟨s1, ?_, I1⟩
    rw [X11_carryAll_p99_s, if_pos n7_t]
    rw [nI_0] at e1
    exact e1
  | succ n ih =>
    intro i st h hI
    have hi : i < 7 := by omega
    obtain ⟨s1, e1, I1⟩ := IT_step hj hI (by omega)
    obtain ⟨s3, e3, I3⟩ := ih (i + 1) s1 (by omega) I1
    refine ⟨s3, ?_, I3⟩
    have a1 : gA st 4 i = enc A (4 + i) := by rw [enc_T A hi]; exact hI.2.2.2.2.1.2.2.2.2.1 i hi
    have a2 : gA s1 4 i = enc A (4 + i) := by rw [enc_T A hi]; exact I1.2.2.2.2.1.2.2.2.2.1 i hi
    rw [X11_carryAll_p99_s, if_neg (n7_f hi), inr_i hi, nI_cl hi, a1, e1, bnd_s, inr_i hi, sA_id a2, nm_s, nI_1, nm_s]
    exact e3
theorem ca_t {A : AT} {jj : Nat} {st : MS} (hj : jj = 18 ∨ jj = 19) (hm : mt A st) (hL : aL A = 0 ∨ aL A = 1) (hD : aD A = 0 ∨ aD A = 1) : ∃ st', X11_carryAll st jj (1 : Int32) = some ((), st') ∧ kp A (gA st' (akf jj)) ∧ mt A st' ∧ (∀ k, k ≠ akf jj → gA st' k = gA st k) ∧ (∀ k, gL st' k = gL st k) ∧ (∀ k, k ≠ 29 → k ≠ 30 → gF st' k = gF st k) := by
  have hb : ∀ (v : Int32) (f : Int32 → Option (Unit × MS)), (v = 0 ∨ v = 1) → (if v = 0 then f 0 else f 1) = f v := fun v f h => by
    rcases h with e | e
    · rw [e, if_pos rfl]
    · rw [e, if_neg (by decide)]
  have hb1 : ∀ (v : Int32) (f : Int32 → Option (Unit × MS)), (v = 0 ∨ v = 1) → (if v = 1 then f 1 else f 0) = f v := fun v f h => by
    rcases h with e | e
    · rw [e, if_neg (by decide)]
    · rw [e, if_pos rfl]
  have e0 : enc A 0 = aL A := rfl
  have e1 : enc A 1 = aM A := rfl
  have e2 : enc A 2 = aD A := rfl
  have e3 : enc A 3 = aH A := rfl
  have I0 : IT A jj st 0 (sF (sF (sK st (some jj)) 30 1) 29 0) := ⟨rfl, rfl, nI_0.symm, fun q h => by omega, hm, fun k _ => rfl, fun k => rfl, fun k a b => by rw [gF_sF, if_neg a, gF_sF, if_neg b]; rfl⟩
  obtain ⟨S0, eS⟩ : ∃ S, S = sF (sF (sK st (some jj)) 30 1) 29 0 := ⟨_, rfl⟩
  rw [← eS] at I0
  obtain ⟨s1, c1, I1⟩ := IT_step hj I0 (by decide)
  obtain ⟨s2, c2, I2⟩ := IT_step hj I1 (by decide)
  obtain ⟨s3, c3, I3⟩ := IT_step hj I2 (by decide)
  obtain ⟨s4, c4, I4⟩ := IT_step hj I3 (by decide)
  obtain ⟨s5, c5, I5⟩ := ca_t1 hj 7 0 s4 (by decide) I4
  have t1 := I1.2.2.2.2.1
  have t2 := I2.2.2.2.2.1
  have t3 := I3.2.2.2.2.1
  have t4 := I4.2.2.2.2.1
  rw [nI_0] at c5
  refine ⟨s5, ?_, I5.2.2.2.1, I5.2.2.2.2.1, I5.2.2.2.2.2⟩
  rw [e0] at c1
  rw [e1] at c2
  rw [e2] at c3
  rw [e3] at c4
  unfold X11_carryAll
  rw [nm_s, gz_1, nm_s, nm_s, ← eS, show gF S0 5 = aL A from I0.2.2.2.2.1.1, hb _ _ hL]
  unfold X11_carryAll_p29
  rw [c1, bnd_s, hb1 _ _ hL]
  unfold X11_carryAll_p41
  rw [gz_c hL, sF_id t1.1, nm_s, t1.2.1, c2, bnd_s, sF_id t2.2.1, nm_s, t2.2.2.1, hb _ _ hD]
  unfold X11_carryAll_p70
  rw [c3, bnd_s, hb1 _ _ hD]
  unfold X11_carryAll_p82
  rw [gz_c hD, sF_id t3.2.2.1, nm_s, t3.2.2.2.1, c4, bnd_s, sF_id t4.2.2.2.1, nm_s]
  exact c5
