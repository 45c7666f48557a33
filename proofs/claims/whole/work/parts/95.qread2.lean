/-! a row's letters, the reference's side -/
def chM (g : Nat → Int32) (n j : Nat) : Int32 := if j < n then g j else -999
theorem chM_d (g : Nat → Int32) (n j : Nat) : (dgP (chM g n j) ↔ dgP (chN g n j)) ∧ dN (chM g n j) = dN (chN g n j) ∧ (chM g n j = 59 ↔ chN g n j = 59) ∧ (dgP (chN g n j) → chM g n j = chN g n j) := by
  unfold chM chN
  by_cases c : j < n
  · rw [if_pos c, if_pos c]; exact ⟨Iff.rfl, rfl, Iff.rfl, fun _ => rfl⟩
  · rw [if_neg c, if_neg c]
    refine ⟨⟨fun h => absurd h (by decide), fun h => absurd h (by decide)⟩, by decide, ⟨fun h => absurd h (by decide), fun h => absurd h (by decide)⟩, fun h => absurd h (by decide)⟩
def bR (d : Nat) (g : Nat → Int32) (n : Nat) (s : MS) : Prop := gF s 19 = nI d ∧ gA s 15 d = nI n ∧ ∀ j, j < n → gL s 16 (100 * d + j) = (g j).toInt64
theorem here_s {d n : Nat} {g : Nat → Int32} {s : MS} (h : bR d g n s) (hd : d < 8) (hn : n ≤ 100) {j : Nat} (hj : j < 1000) (e : gF s 20 = nI j) : X11_here s = some (chM g n j, s) := by
  obtain ⟨h1, h2, h3⟩ := h
  unfold X11_here X11_here_p40 chM
  rw [h1, e, inr_i hd, nI_cl hd, h2, n100, nI_add]
  by_cases c : j < n
  · rw [if_neg (nI_ge c (by omega)), if_pos c, inr_i (by omega : 100 * d + j < 800), nI_cl (by omega : 100 * d + j < 800), h3 j c, Int32.toInt32_toInt64]
  · rw [if_pos (nI_le (by omega) (by omega)), if_neg c]
def kR (s s' : MS) : Prop := (∀ k, k ≠ 20 → k ≠ 21 → gF s' k = gF s k) ∧ (∀ k, gA s' k = gA s k) ∧ (∀ k, gL s' k = gL s k)
theorem kR.rf {s : MS} : kR s s := ⟨fun _ _ _ => rfl, fun _ => rfl, fun _ => rfl⟩
theorem kR.tr {a b c : MS} (h : kR a b) (g : kR b c) : kR a c := ⟨fun k h1 h2 => (g.1 k h1 h2).trans (h.1 k h1 h2), fun k => (g.2.1 k).trans (h.2.1 k), fun k => (g.2.2 k).trans (h.2.2 k)⟩
theorem kR_20 (s : MS) (v : Int32) : kR s (sF s 20 v) := ⟨fun k h1 _ => by rw [gF_sF, if_neg h1], fun _ => rfl, fun _ => rfl⟩
theorem kR_21 (s : MS) (v : Int32) : kR s (sF s 21 v) := ⟨fun k _ h2 => by rw [gF_sF, if_neg h2], fun _ => rfl, fun _ => rfl⟩
theorem bR_k {d n : Nat} {g : Nat → Int32} {s s' : MS} (h : bR d g n s) (k : kR s s') : bR d g n s' := ⟨(k.1 19 (by decide) (by decide)).trans h.1, by rw [k.2.1]; exact h.2.1, fun j hj => by rw [k.2.2]; exact h.2.2 j hj⟩
/-- where the reading stands: o, the first unread; i, the place -/
def St (s : MS) : Option Nat → Nat → Prop
  | none, i => gF s 21 = 0 ∧ gF s 20 = nI i
  | some j, _ => gF s 21 = 1 ∧ gF s 20 = nI j
def orB : Option Nat → Option Nat → Option Nat
  | some j, _ => some j
  | none, y => y
def numF (c : Nat → Int32) : Nat → Nat → Int32 → Int32
  | 0, _, a => a
  | m + 1, i, a => numF c m (i + 1) (a * 10 + c i - 48)
theorem rd_b (f : Nat) {kk : Nat} (hkk : kk < 100) : ∀ (m k : Nat) (j : Nat) (a : Int32) (s : MS), k + m = kk → St s (some j) 0 → ∃ v s', X11_readDigits_p4 (f + m + 1) s (nI kk) a (nI k) = some (v, s') ∧ kR s s' ∧ St s' (some j) 0 := by
  intro m
  induction m with
  | zero =>
    intro k j a s e hs
    have e : k = kk := by omega
    subst e
    exact ⟨a, s, by rw [X11_readDigits_p4_s, if_pos (Int32.le_refl _)]; rfl, kR.rf, hs⟩
  | succ m ih =>
    intro k j a s e hs
    obtain ⟨h1, h2⟩ : gF s 21 = 1 ∧ gF s 20 = nI j := hs
    obtain ⟨v, s', r1, r2, r3⟩ := ih (k + 1) j 0 (sF (sF s 21 1) 20 (nI j + 0)) (by omega) ⟨rfl, by rw [Int32.add_zero]; rfl⟩
    refine ⟨v, s', ?_, ((kR_21 s 1).tr (kR_20 _ _)).tr r2, r3⟩
    rw [show f + (m + 1) + 1 = (f + m + 1) + 1 from rfl, X11_readDigits_p4_s, if_neg (nI_ge (by omega) (by omega)), h1, if_neg n10]
    unfold X11_readDigits_p34 X11_readDigits_p39 X11_readDigits_p65 X11_readDigits_p83
    rw [gz_1, nm_s, show gF (sF s 21 1) 21 = (1 : Int32) from rfl, if_neg n10, if_neg n10, nm_s, nm_s, nI_1, show gF (sF s 21 1) 20 = gF s 20 from rfl, h2]
    exact r1
theorem rd_g {d n : Nat} {g : Nat → Int32} (hd : d < 8) (hn : n ≤ 100) (f : Nat) {kk : Nat} (hkk : kk < 100) : ∀ (m k i : Nat) (a : Int32) (s : MS), k + m = kk → i + m < 900 → bR d g n s → St s none i → ∃ v s', X11_readDigits_p4 (f + m + 1) s (nI kk) a (nI k) = some (v, s') ∧ kR s s' ∧ St s' (fdL (chN g n) m i) (i + m) ∧ (fdL (chN g n) m i = none → v = numF (chN g n) m i a) := by
  intro m
  induction m with
  | zero =>
    intro k i a s e _ hb hs
    have e : k = kk := by omega
    subst e
    exact ⟨a, s, by rw [X11_readDigits_p4_s, if_pos (Int32.le_refl _)]; rfl, kR.rf, hs, fun _ => rfl⟩
  | succ m ih =>
    intro k i a s e hi hb hs
    obtain ⟨h1, h2⟩ : gF s 21 = 0 ∧ gF s 20 = nI i := hs
    obtain ⟨c1, c2, c3, c4⟩ := chM_d g n i
    rw [show f + (m + 1) + 1 = (f + m + 1) + 1 from rfl, X11_readDigits_p4_s, if_neg (nI_ge (by omega) (by omega)), if_pos h1, here_s hb hd hn (by omega) h2, bnd_s]
    by_cases q : dgP (chN g n i)
    · have q' := c1.mpr q
      have e2 : fdL (chN g n) (m + 1) i = fdL (chN g n) m (i + 1) := if_pos q
      have hb2 : bR d g n (sF s 21 0) := bR_k hb (kR_21 s 0)
      obtain ⟨v, s', r1, r2, r3, r4⟩ := ih (k + 1) (i + 1) (10 * a + chM g n i - 48) (sF (sF s 21 0) 20 (nI i + 1)) (by omega) (by omega) (bR_k hb2 (kR_20 _ _)) ⟨rfl, by rw [nI_1]; rfl⟩
      rw [X11_in_t (lo := 48) (hi := 57) (by decide) (by decide) (Int32.not_lt.mp q'.1) (Int32.not_lt.mp q'.2), bd1_s, if_neg n10]
      unfold X11_readDigits_p39 X11_readDigits_p65 X11_readDigits_p83
      rw [gz_0, nm_s, show gF (sF s 21 0) 21 = (0 : Int32) from rfl, if_pos rfl, here_s hb2 hd hn (by omega) h2, bnd_s, show gF (sF s 21 0) 21 = (0 : Int32) from rfl, if_pos rfl, nm_s, nm_s, nI_1, show gF (sF s 21 0) 20 = gF s 20 from rfl, h2, e2]
      refine ⟨v, s', r1, ((kR_21 s 0).tr (kR_20 _ _)).tr r2, by rw [show i + (m + 1) = i + 1 + m by omega]; exact r3, fun z => ?_⟩
      rw [r4 z, c4 q, Int32.mul_comm]
      rfl
    · have q' : ¬ dgP (chM g n i) := fun z => q (c1.mp z)
      have e2 : fdL (chN g n) (m + 1) i = some i := if_neg q
      have hin : chM g n i < 48 ∨ 57 < chM g n i := by
        by_cases z : chM g n i < 48
        · exact Or.inl z
        · by_cases y : 57 < chM g n i
          · exact Or.inr y
          · exact absurd ⟨z, y⟩ q'
      rw [X11_in_f (lo := 48) (hi := 57) (by decide) (by decide) hin, bd1_s, if_pos rfl, e2]
      obtain ⟨v, s', r1, r2, r3⟩ := rd_b f hkk m (k + 1) i 0 (sF (sF s 21 1) 20 (nI i + 0)) (by omega) ⟨rfl, by rw [Int32.add_zero]; rfl⟩
      unfold X11_readDigits_p34 X11_readDigits_p39 X11_readDigits_p65 X11_readDigits_p83
      rw [gz_1, nm_s, show gF (sF s 21 1) 21 = (1 : Int32) from rfl, if_neg n10, if_neg n10, nm_s, nm_s, nI_1, show gF (sF s 21 1) 20 = gF s 20 from rfl, h2]
      exact ⟨v, s', r1, ((kR_21 s 1).tr (kR_20 _ _)).tr r2, r3, fun z => absurd z (by simp)⟩
/-- some digits read, wherever the reading stands -/
theorem rd_a {d n : Nat} {g : Nat → Int32} (hd : d < 8) (hn : n ≤ 100) {kk i : Nat} (hkk : kk < 100) (hi : i < 800) {o : Option Nat} {s : MS} (hb : bR d g n s) (hs : St s o i) : ∃ v s', X11_readDigits s (nI kk) = some (v, s') ∧ kR s s' ∧ St s' (orB o (fdL (chN g n) kk i)) (i + kk) ∧ (orB o (fdL (chN g n) kk i) = none → v = numF (chN g n) kk i 0) := by
  unfold X11_readDigits
  cases o with
  | none =>
    obtain ⟨v, s', r1, r2, r3, r4⟩ := rd_g hd hn (4999 - kk) hkk kk 0 i 0 s (by omega) (by omega) hb hs
    rw [show 4999 - kk + kk + 1 = 5000 by omega, nI_0] at r1
    exact ⟨v, s', r1, r2, r3, r4⟩
  | some j =>
    obtain ⟨v, s', r1, r2, r3⟩ := rd_b (4999 - kk) hkk kk 0 j 0 s (by omega) hs
    rw [show 4999 - kk + kk + 1 = 5000 by omega, nI_0] at r1
    exact ⟨v, s', r1, r2, r3, fun z => absurd z (by simp [orB])⟩
