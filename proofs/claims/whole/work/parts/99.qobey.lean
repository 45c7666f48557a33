/-! numbers of a row; a town obeys a statement -/
theorem nm_l {n : Nat} (hn : n ≤ 100) (st : MS) {i kk : Nat} (hi : i < 300) (hk : kk < 100) (f : Nat) : ∀ (m k : Nat) (a : Int32), k + m = kk → X7_number_p5 n (f + m + 1) st (nI i) (nI kk) a (nI k) = some (numF (chN (gA st 1) n) m (i + k) a, st) := by
  intro m
  induction m with
  | zero =>
    intro k a e
    have e : k = kk := by omega
    subst e
    rw [X7_number_p5_s, if_pos (Int32.le_refl _)]
    rfl
  | succ m ih =>
    intro k a e
    rw [show f + (m + 1) + 1 = (f + m + 1) + 1 from rfl, X7_number_p5_s, if_neg (nI_ge (by omega) (by omega)), nI_add, X7_at_c hn st (by omega), bnd_s, nm_s, nm_s, nI_1]
    exact ih (k + 1) _ (by omega)
theorem X7_number_a {n : Nat} (hn : n ≤ 100) (st : MS) {i kk : Nat} (hi : i < 300) (hk : kk < 100) {w : Int32} (hw : w = nI kk) : X7_number n st (nI i) w = some (numF (chN (gA st 1) n) kk i 0, st) := by
  have h := nm_l hn st hi hk (4999 - kk) kk 0 0 (by omega)
  rw [show 4999 - kk + kk + 1 = 5000 by omega, nI_0] at h
  subst hw
  exact h
theorem dig_r {x : Int32} (h : dgP x) : ∃ t, t < 10 ∧ x = nI (48 + t) := by
  obtain ⟨h1, h2⟩ := h
  rw [i_lt, show (48 : Int32).toInt = 48 from rfl] at h1
  rw [i_lt, show (57 : Int32).toInt = 57 from rfl] at h2
  obtain ⟨j, hj, e⟩ : isN 58 x := isN_t (fun q => by rw [i_lt, t_0] at q; omega) (fun q => by rw [i_le, show (nI 58).toInt = 58 from rfl] at q; omega) (by decide)
  rw [e, nI_toInt (by omega)] at h1
  exact ⟨j - 48, by omega, by rw [e, show 48 + (j - 48) = j by omega]⟩
theorem numF_r {c : Nat → Int32} : ∀ (m i a : Nat), fdL c m i = none → ∃ j, numF c m i (nI a) = nI j ∧ j < (a + 1) * 10 ^ m := by
  intro m
  induction m with
  | zero => intro i a _; exact ⟨a, rfl, by omega⟩
  | succ m ih =>
    intro i a h
    have h : (if dgP (c i) then fdL c m (i + 1) else some i) = none := h
    by_cases q : dgP (c i)
    · rw [if_pos q] at h
      obtain ⟨t, ht, et⟩ := dig_r q
      obtain ⟨j, e1, e2⟩ := ih (i + 1) (a * 10 + t) h
      refine ⟨j, ?_, ?_⟩
      · show numF c m (i + 1) (nI a * 10 + c i - 48) = nI j
        rw [← e1, et, show (10 : Int32) = nI 10 from rfl, pk_mul, nI_add, show (48 : Int32) = nI 48 from rfl, pk_sub (by omega), show a * 10 + (48 + t) - 48 = a * 10 + t by omega]
      · refine Nat.lt_of_lt_of_le e2 ?_
        rw [show 10 ^ (m + 1) = 10 * 10 ^ m by rw [Nat.pow_succ, Nat.mul_comm], ← Nat.mul_assoc]
        exact Nat.mul_le_mul_right _ (by omega)
    · rw [if_neg q] at h
      exact absurd h (by simp)
theorem num_r {c : Nat → Int32} {m i : Nat} (h : fdL c m i = none) : ∃ j, numF c m i 0 = nI j ∧ j < 10 ^ m := by
  obtain ⟨j, e1, e2⟩ := numF_r m i 0 h
  rw [nI_0] at e1
  exact ⟨j, e1, by omega⟩
theorem fd_split {c : Nat → Int32} {a b i : Nat} (h : fdL c (a + b) i = none) : fdL c a i = none ∧ fdL c b (i + a) = none := by
  rw [fdL_add] at h
  exact orB_n h
/-- what both sides are after a statement -/
def OB (xs : XS) (A : AT) (m0 : MS) (d : Nat) (i q : Nat) (x : XS) (s : MS) : Prop := ∃ y x' s', X10_obeys x d (nI i) = some (y, x') ∧ X11_comes s (nI q) = some (y, s') ∧ TK 1 xs x' ∧ ((y = 0 ∧ ∃ B', mo A B' m0 s') ∨ (y = 1 ∧ ∃ t', X8_settle (xT x' 1) = some ((), t') ∧ ∃ B', okD B' ∧ ct B' t' (xB x' 1) ∧ gF t' 9 = aFall B' (aM B') ∧ mo A B' m0 s'))
theorem settled {B : AT} (hB : okD B) {ts : MS} {Bk : Nat → BK} (hc : ct B ts Bk) (h9 : gF ts 9 = aFall B (aM B)) : ∃ t', X8_settle ts = some ((), t') ∧ ct B t' Bk ∧ gF t' 9 = aFall B (aM B) := by
  by_cases c : gF ts 9 = -4
  · exact ⟨_, X8_settle_a hc hB.1 c, hc, rfl⟩
  · exact ⟨ts, X8_settle_d c, hc, h9⟩
theorem mo_settle {A B A0 : AT} {m0 s : MS} (h0 : mR A0 m0) (ho : mo A B m0 s) (hok : okA B) (hD : aD B = 0) : ∃ s', X11_settle s = some ((), s') ∧ mo A (aSet B) m0 s' := by
  obtain ⟨s', e, m2, g1, g2, g3⟩ := X11_settle_a (mo_mR ho h0) hok (Or.inl hD)
  obtain ⟨o1, o2, o3, o4, o5⟩ := ho
  refine ⟨s', e, m2, by rw [g1]; exact o2, fun k hk => (g1 k).trans (o3 k hk), fun k => (g2 k).trans (o4 k), fun k hk => (g3 k (fun z => hk (by rw [z]; decide))).trans (o5 k hk)⟩
/-- a change that settles -/
theorem setl {A B1 A0 : AT} {m0 s1 : MS} (h0 : mR A0 m0) (ho : mo A B1 m0 s1) (hok : okA B1) (hD : aD B1 = 0) {ts : MS} {Bk : Nat → BK} (hc : ct B1 ts Bk) (h9 : gF ts 9 = -4) : ∃ t' s', X8_settle ts = some ((), t') ∧ X11_comes_p374 s1 1 = some (1, s') ∧ ∃ B', okD B' ∧ ct B' t' Bk ∧ gF t' 9 = aFall B' (aM B') ∧ mo A B' m0 s' := by
  obtain ⟨s', e, o⟩ := mo_settle h0 ho hok hD
  refine ⟨_, s', X8_settle_a hc hok h9, ?_, aSet B1, okD_set hok hD, hc, rfl, o⟩
  unfold X11_comes_p374 X11_comes_p383
  rw [if_neg n10, e, bnd_s, gz_1]
theorem p374_0 (s : MS) : X11_comes_p374 s 0 = some (0, s) := by
  unfold X11_comes_p374 X11_comes_p383
  rw [if_pos rfl, gz_0]
theorem comesSet_s (s : MS) {j : Nat} (hj : j < 7) (v : Int32) : (X10_isAsTold (nI j) v = some 1 ∧ X11_comesSet s (nI j) v = some (1, sA s 4 j v) ∧ isN (mxT j) v) ∨ (X10_isAsTold (nI j) v = some 0 ∧ X11_comesSet s (nI j) v = some (0, sA s 4 j v)) := by
  unfold X11_comesSet
  rw [inr_i hj, nI_cl hj, nm_s, X11_leastOf_s, X11_mostOf_s, bd1_s, bd1_s]
  rcases told_t hj v with ⟨e1, e2, hv⟩ | ⟨e1, e2⟩
  · rw [e2, bd1_s, gz_1]; exact Or.inl ⟨e1, rfl, hv⟩
  · rw [e2, bd1_s, gz_0]; exact Or.inr ⟨e1, rfl⟩
theorem isTold_1 {ts : MS} {j : Nat} (hj : j < 7) {v : Int32} (h : X10_isAsTold (nI j) v = some 1) : X8_isTold ts (nI j) v = some (1, sA ts 3 j v) := by
  unfold X8_isTold
  rw [h, bd1_s, if_neg n10, inr_i hj, nI_cl hj, nm_s, gz_1]
theorem isTold_0 {ts : MS} {j : Nat} {v : Int32} (h : X10_isAsTold (nI j) v = some 0) : X8_isTold ts (nI j) v = some (0, ts) := by
  unfold X8_isTold
  rw [h, bd1_s, if_pos rfl, gz_0]
/-- what stands at the reference's s: the q-th statement, read at i -/
theorem comes_s {A B : AT} {m0 s : MS} (ho : mo A B m0 s) {q : Nat} (hq : q < 51) : X11_comes s (nI q) = X11_comes_p32 s (nI q) (gA m0 25 (3 * q)) (gA m0 25 (3 * q + 1)) (if aD B = 0 then 1 else 0) := by
  unfold X11_comes
  rw [show (3 : Int32) * nI q = nI (3 * q) from pk_mul 3 q, inr_i (by omega : 3 * q < 153), nm_s, nI_1, inr_i (by omega : 3 * q + 1 < 153), nm_s, nI_cl (by omega : 3 * q < 153), nI_cl (by omega : 3 * q + 1 < 153), ho.2.2.1 25 (by decide), ho.1.D]
  by_cases c : aD B = 0
  · rw [if_pos c, if_pos c]
  · rw [if_neg c, if_neg c]
