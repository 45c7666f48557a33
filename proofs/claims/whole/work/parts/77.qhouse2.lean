/-! hits, whom to send out, the crowd, the safest side, how it fell, forged -/
theorem greater_s (a b : Int32) : X11_greater a b = some (if a < b then b else a) := by
  unfold X11_greater X11_greater_p10
  by_cases c : a ≤ b
  · rw [if_pos c]
    by_cases d : a < b
    · rw [if_pos d]
    · rw [if_neg d, Int32.le_antisymm c (Int32.not_lt.mp d)]
  · rw [if_neg c, if_neg (fun d => c (by rw [i_lt] at d; rw [i_le]; omega))]
theorem qm_hits {xs : XS} {ms : MS} (h : RR xs ms) (v w : Int32) : Cm (X10_hits xs v w) (X11_hits ms v w) := by
  have h' := RR_17 h 0
  obtain ⟨A, hA, hc, h9, hR⟩ := h'.1
  obtain ⟨H, hH7, hH⟩ := hA.1.H
  unfold X10_hits X10_hits_p101 X11_hits X11_hits_p35 X11_hits_p52 X11_hits_p82
  rw [nm_s (sF ms 17 0)]
  by_cases hv : isN 12 v
  · rw [X10_isSide_t hv, bd1_s, if_neg n10, X11_isSide_t hv, bd1_s, if_neg n10]
    obtain ⟨s, hs, rfl⟩ := hv
    by_cases hw : isN 4 w
    · rw [X11_in_n (n := 3) (by decide) (by decide) hw, bd1_s, if_neg n10]
      obtain ⟨j, hj, e⟩ := hw
      by_cases w0 : w = 0
      · rw [if_pos w0, if_pos w0, if_pos w0, X8_hitBy_a hc hA.1 _ hs hH hH7, bnd_s, uT_self, nm_s, X11_hitBy_a hR.2.2 hA.1 hs hH hH7, bnd_s, hc.M]
        exact ⟨_, _, _, rfl, rfl, h'⟩
      rw [if_neg w0, if_neg w0, if_neg w0]
      by_cases w3 : w = 3
      · rw [w3, if_neg (show ¬ (3 : Int32) = 1 by decide), if_neg (show ¬ (3 : Int32) = 2 by decide), if_pos rfl, X8_kickedBy_a hc hs hH hH7, bnd_s, uT_self, nm_s, if_pos rfl, X11_kickedBy_a hR.2.2 hs hH hH7, bnd_s]
        exact ⟨_, _, _, rfl, rfl, h'⟩
      rw [if_neg w3, if_neg w3, X11_breaks_a hR.2.2, bnd_s]
      by_cases w1 : w = 1
      · rw [if_pos w1, if_pos w1, X8_topSide_a hc hA.1 _ hs, bnd_s, uT_self, nm_s, X11_topSide_a hR.2.2 hA.1 hs, bnd_s, hc.M]
        by_cases c : brk A (aM A) = 0
        · rw [if_pos c, if_pos c]
          exact ⟨_, _, _, rfl, rfl, h'⟩
        · rw [if_neg c, if_neg c]
          exact ⟨_, _, _, rfl, rfl, h'⟩
      · have w2 : w = 2 := by
          have : j = 0 ∨ j = 1 ∨ j = 2 ∨ j = 3 := by omega
          rcases this with q | q | q | q <;> rw [q] at e
          · exact absurd e w0
          · exact absurd e w1
          · exact e
          · exact absurd e w3
        rw [if_neg w1, if_pos w2, if_neg w1, X8_breaksAt_a hc, bnd_s, uT_self, nm_s, X8_topFar_a hc, bnd_s, uT_self, nm_s, X11_topFar_a hR.2.2, bnd_s, hc.M]
        by_cases c : brk A (aM A) = 0
        · rw [if_pos c, if_pos c]
          exact ⟨_, _, _, rfl, rfl, h'⟩
        · rw [if_neg c, if_neg c]
          exact ⟨_, _, _, rfl, rfl, h'⟩
    · have w0 : ¬ w = 0 := fun e => hw ⟨0, by decide, e⟩
      have w1 : ¬ w = 1 := fun e => hw ⟨1, by decide, e⟩
      have w2 : ¬ w = 2 := fun e => hw ⟨2, by decide, e⟩
      have w3 : ¬ w = 3 := fun e => hw ⟨3, by decide, e⟩
      rw [if_neg w0, if_neg w1, if_neg w2, if_neg w3, X11_in_nf (n := 3) (by decide) (by decide) hw, bd1_s, if_pos rfl]
      exact ⟨_, _, _, rfl, rfl, h'⟩
  · rw [X10_isSide_f hv, bd1_s, if_pos rfl, X11_isSide_f hv, bd1_s, if_pos rfl]
    exact ⟨_, _, _, rfl, rfl, h'⟩
theorem qm_sendOut {xs : XS} {ms : MS} (h : RR xs ms) : Cm (X10_sendOut xs) (X11_sendOut ms) := by
  have h' := RR_17 h 0
  obtain ⟨A, hA, hc, h9, hR⟩ := h'.1
  obtain ⟨l, hl, el⟩ := hA.1.T6
  unfold X10_sendOut X11_sendOut
  rw [nm_s (sF ms 17 0), ic_6, cz_6, hc.T (by decide), el, nm_s (nI l), X8_struckBy_a hc hA.1 _ hl, bnd_s, uT_self, nm_s xs, nI_1, ar_p (l + 1) (by omega), bd1_s, X8_struckBy_a hc hA.1 _ (show (l + 1) % 12 < 12 by omega), bnd_s, uT_self, nm_s xs, show nI l - (1 : Int32) = nI l - nI 1 from rfl, ar_m l hl 1 (by decide), bd1_s, X8_struckBy_a hc hA.1 _ (show (l + 12 - 1) % 12 < 12 by omega), bnd_s, uT_self, nm_s xs]
  rw [ic_6, hR.2.2.T (by decide), el, nm_s, X11_struckBy_a hR.2.2 hA.1 hl, bnd_s, dvi_12, nI_1, rm_12 (by omega), X11_struckBy_a hR.2.2 hA.1 (show (l + 1) % 12 < 12 by omega), bnd_s, dvi_12, show nI l + (11 : Int32) = nI (l + 11) from nI_add l 11, rm_12 (by omega), X11_struckBy_a hR.2.2 hA.1 (show (l + 11) % 12 < 12 by omega), bnd_s, hc.M]
  exact ⟨_, _, _, rfl, rfl, h'⟩
theorem qm_crowd {xs : XS} {ms : MS} (h : RR xs ms) (v : Int32) : Cm (X10_crowd xs v) (X11_crowd ms v) := by
  have h' := RR_17 h 0
  obtain ⟨A, hA, hc, h9, hR⟩ := h'.1
  obtain ⟨l, hl, el⟩ := hA.1.T6
  unfold X10_crowd X11_crowd
  rw [nm_s (sF ms 17 0)]
  by_cases hv : isN 12 v
  · rw [X10_isSide_t hv, bd1_s, if_neg n10, X11_isSide_t hv, bd1_s, if_neg n10, ic_6, cz_6, hc.T (by decide), el, nm_s (nI l), ic_6, hR.2.2.T (by decide), el, nm_s (nI l), ic_5, ic_5, cz_5, nm_s, hc.T (by decide), hR.2.2.T (by decide)]
    have k71 : ∀ far, X10_crowd_p71 xs v (nI l) far = some ((if v = nI ((l + 6) % 12) then (if far < aT A 5 / 6 then aT A 5 / 6 else far) else far), xs) := fun far => by
      unfold X10_crowd_p71 X10_crowd_p94
      rw [show nI l + (6 : Int32) = nI (l + 6) from nI_add l 6, ar_p (l + 6) (by omega), bd1_s, X8_kickFar_a hc, bnd_s, uT_self, nm_s, nm_s]
      by_cases c : v = nI ((l + 6) % 12)
      · rw [if_pos c, if_pos c]
      · rw [if_neg c, if_neg c]
    have k69 : ∀ far, X11_crowd_p69 (sF ms 17 0) v (nI l) far = some ((if v = nI ((l + 6) % 12) then (if far < aT A 5 / 6 then aT A 5 / 6 else far) else far), sF ms 17 0) := fun far => by
      unfold X11_crowd_p69 X11_crowd_p98
      rw [dvi_12, show nI l + (6 : Int32) = nI (l + 6) from nI_add l 6, rm_12 (by omega), ic_5, dvi_6, cz_5, hR.2.2.T (by decide), greater_s, bd1_s]
      by_cases c : v = nI ((l + 6) % 12)
      · rw [if_pos c, if_pos c]
      · rw [if_neg c, if_neg c]
    have k37 : ∀ far, Cm (X10_crowd_p37 xs v (nI l) far) (X11_crowd_p37 (sF ms 17 0) v (nI l) far) := fun far => by
      unfold X10_crowd_p37 X11_crowd_p37 X11_crowd_p68
      rw [X8_topSide_a hc hA.1 _ hl, bnd_s, uT_self, nm_s, X8_topFar_a hc, bnd_s, uT_self, nm_s, nm_s, k71, k71, X11_breaks_a hR.2.2, bnd_s, X11_topSide_a hR.2.2 hA.1 hl, bnd_s, X11_topFar_a hR.2.2, bnd_s, greater_s, bd1_s, k69, k69, hc.M]
      have v4 : ¬ v = -4 := by
        obtain ⟨j, hj, e⟩ := hv
        rw [e]; exact nI_z (by omega)
      by_cases c : brk A (aM A) = 0
      · rw [if_pos c, if_neg v4, if_pos c]
        exact ⟨_, _, _, rfl, rfl, h'⟩
      · rw [if_neg c, if_neg c]
        by_cases d : v = nI (tsP A l)
        · rw [if_pos d, if_pos d]
          exact ⟨_, _, _, rfl, rfl, h'⟩
        · rw [if_neg d, if_neg d]
          exact ⟨_, _, _, rfl, rfl, h'⟩
    by_cases c : v = nI l
    · rw [if_pos c, if_pos c]
      exact k37 _
    · rw [if_neg c, if_neg c]
      exact k37 _
  · rw [X10_isSide_f hv, bd1_s, if_pos rfl, X11_isSide_f hv, bd1_s, if_pos rfl]
    exact ⟨_, _, _, rfl, rfl, h'⟩
def mnL (f : Nat → Int32) : Nat → Nat → Nat → Nat
  | 0, _, b => b
  | n + 1, i, b => if f b ≤ f i then mnL f n (i + 1) b else mnL f n (i + 1) i
def cnS (A : AT) (m : Int32) (s : Nat) : Int32 := nI (pcN (stP A m s).toNatClampNeg)
theorem cnS_s {A : AT} {N : Nat} (hok : okB N A) (m : Int32) (s : Nat) : J6_bitCount_0f7a4 (stP A m s) = some (cnS A m s) ∧ X11_onesOf (stP A m s) = some (cnS A m s) ∧ cnS A m s < 7 := by
  obtain ⟨b, hb, e⟩ := stP_r hok m s
  obtain ⟨e1, e2, e3⟩ := pc_64 b hb
  unfold cnS
  rw [e, nI_cl hb]
  exact ⟨e1, e2, nI_lt (a := pcN b) (b := 7) e3 (by decide)⟩
theorem qm_safest {xs : XS} {ms : MS} (h : RR xs ms) : Cm (X10_safest xs) (X11_safest ms) := by
  have h' := RR_17 h 0
  obtain ⟨A, hA, hc, h9, hR⟩ := h'.1
  have l1 : ∀ (n i b : Nat), i + n = 12 → b < 12 → X10_safest_p7 (n + 1) xs (nI b) (cnS A (aM A) b) (nI i) = some (nI (mnL (cnS A (aM A)) n i b), xs) := by
    intro n
    induction n with
    | zero =>
      intro i b e _
      have e : i = 12 := by omega
      subst e
      rw [X10_safest_p7_s, if_pos n12_t]
      rfl
    | succ n ih =>
      intro i b e hb
      have hi : i < 12 := by omega
      rw [X10_safest_p7_s, if_neg (n12_f hi), X8_struckBy_a hc hA.1 _ hi, bnd_s, uT_self, nm_s, hc.M, (cnS_s hA.1 (aM A) i).1, bd1_s]
      show _ = some (nI (if cnS A (aM A) b ≤ cnS A (aM A) i then mnL (cnS A (aM A)) n (i + 1) b else mnL (cnS A (aM A)) n (i + 1) i), xs)
      unfold X10_safest_p44
      by_cases c : cnS A (aM A) b ≤ cnS A (aM A) i
      · rw [if_pos c, if_pos c, nm_s, nI_1]
        exact ih (i + 1) b (by omega) hb
      · rw [if_neg c, if_neg c, nm_s, nI_1]
        exact ih (i + 1) i (by omega) hi
  have l2 : ∀ (n i b : Nat), i + n = 12 → b < 12 → X11_safest_p9 (1 + n + 1) (sF ms 17 0) (nI b) (nI i) = some (nI (mnL (cnS A (aM A)) n i b), sF ms 17 0) := by
    intro n
    induction n with
    | zero =>
      intro i b e _
      have e : i = 12 := by omega
      subst e
      rw [X11_safest_p9_s, if_pos n12_t]
      rfl
    | succ n ih =>
      intro i b e hb
      have hi : i < 12 := by omega
      rw [show 1 + (n + 1) + 1 = (1 + n + 1) + 1 from rfl, X11_safest_p9_s, if_neg (n12_f hi), X11_struckBy_a hR.2.2 hA.1 hi, bnd_s, (cnS_s hA.1 (aM A) i).2.1, bd1_s, X11_struckBy_a hR.2.2 hA.1 hb, bnd_s, (cnS_s hA.1 (aM A) b).2.1, bd1_s]
      show _ = some (nI (if cnS A (aM A) b ≤ cnS A (aM A) i then mnL (cnS A (aM A)) n (i + 1) b else mnL (cnS A (aM A)) n (i + 1) i), sF ms 17 0)
      unfold X11_safest_p39
      by_cases c : cnS A (aM A) b ≤ cnS A (aM A) i
      · rw [if_pos c, if_pos c, nm_s, nI_1]
        exact ih (i + 1) b (by omega) hb
      · rw [if_neg c, if_neg c, nm_s, nI_1]
        exact ih (i + 1) i (by omega) hi
  have e1 : X10_safest xs = some (nI (mnL (cnS A (aM A)) 11 1 0), xs) := by
    have s0 := X8_struckBy_a hc hA.1 (gF (xT xs 0) 8) (s := 0) (by decide)
    rw [nI_0] at s0
    unfold X10_safest
    rw [X10_safest_p7_s, if_neg (by decide), s0, bnd_s, uT_self, nm_s, hc.M, (cnS_s hA.1 (aM A) 0).1, bd1_s, if_neg (fun q => Int32.not_le.mpr (cnS_s hA.1 (aM A) 0).2.2 q)]
    unfold X10_safest_p44
    rw [nm_s]
    have := l1 11 1 0 (by decide) (by decide)
    rw [nI_0] at this
    exact this
  have e2 : X11_safest ms = some (nI (mnL (cnS A (aM A)) 11 1 0), sF ms 17 0) := by
    unfold X11_safest
    rw [nm_s]
    have := l2 11 1 0 (by decide) (by decide)
    rw [nI_0] at this
    exact this
  exact ⟨_, _, _, e1, e2, h'⟩
/-! tales -/
theorem l_eq {a b : Int32} : a.toInt64 = b.toInt64 ↔ a = b := by
  rw [← Int64.toInt_inj, Int32.toInt_toInt64, Int32.toInt_toInt64, Int32.toInt_inj]
def skI (s : Int32) : Int32 := cLs s.toNatClampNeg
theorem X7_isSkipped_a {n : Nat} (hn : n ≤ 100) {st : MS} (hs : isN 3 (gF st 0)) {j : Nat} (hj : j < n) : X7_isSkipped n st (nI j) = some ((if gA st 1 j = skI (gF st 0) then 1 else 0), st) := by
  unfold X7_isSkipped X7_isSkipped_p36
  have s0 : ¬ gF st 0 < 0 := by
    obtain ⟨k, hk, e⟩ := hs
    rw [e]; exact nI_pos (by omega)
  have s2 : ¬ 2 < gF st 0 := by
    obtain ⟨k, hk, e⟩ := hs
    rw [e]; exact nI_nlt (a := 2) (b := k) (by omega) (by decide)
  have sv : vp_in (gF st 0) 3 := by
    obtain ⟨k, hk, e⟩ := hs
    rw [e]; exact nI_in hk (by decide)
  rw [if_neg s0, if_neg s2, X7_at_t hn st hj, bnd_s, inr_c sv]
  show (if gA st 1 j = skI (gF st 0) then _ else _) = _
  by_cases c : gA st 1 j = skI (gF st 0)
  · rw [if_pos c, if_pos c, gz_1]
  · rw [if_neg c, if_neg c, gz_0]
theorem sk_3 : ∀ k, k < 3 → (if nI k = 0 then (-128 : Int64) else if nI k = 1 then (-32768 : Int64) else (-2147483648 : Int64)) = (cLs k).toInt64 := by decide
theorem X11_skipped_a {ms : MS} {d : Nat} (hd : d < 8) {s : Int32} (hs : isN 3 s) (e14 : gA ms 14 d = s) : X11_skipped ms (nI d) = some ((skI s).toInt64, ms) := by
  obtain ⟨k, hk, e⟩ := hs
  unfold X11_skipped X11_skipped_p34 skI
  rw [inr_i hd, inr_i hd, nI_cl hd, e14, e, nI_cl hk, ← sk_3 k hk]
  by_cases c0 : nI k = 0
  · rw [if_pos c0, if_pos c0]
  rw [if_neg c0, if_neg c0]
  by_cases c1 : nI k = 1
  · rw [if_pos c1, if_pos c1]
  rw [if_neg c1, if_neg c1]
theorem hb_s {v : Nat} (h : v < 4096) {i : Nat} (hi : i < 12) : X11_hasBit (nI v) (nI i) = some (nI (v / 2 ^ i % 2)) := by
  unfold X11_hasBit X11_hasBit_p14
  rw [bt_s h hi]
  have : v / 2 ^ i % 2 = 0 ∨ v / 2 ^ i % 2 = 1 := by omega
  rcases this with e | e
  · rw [e, if_neg (by decide), gz_0]
    rfl
  · rw [e, if_pos (by decide), gz_1]
    rfl
def fnL (f : Nat → Int32) (sk : Int32) (b : Nat) : Nat → Nat → Nat
  | 0, i => i
  | n + 1, i => if f i = sk ∨ f i = nI (b / 2 ^ i % 2) then fnL f sk b n (i + 1) else i
theorem fnL_le (f : Nat → Int32) (sk : Int32) (b : Nat) : ∀ n i : Nat, fnL f sk b n i ≤ i + n := by
  intro n
  induction n with
  | zero => intro i; exact Nat.le_refl _
  | succ n ih =>
    intro i
    show (if f i = sk ∨ f i = nI (b / 2 ^ i % 2) then fnL f sk b n (i + 1) else i) ≤ i + (n + 1)
    by_cases c : f i = sk ∨ f i = nI (b / 2 ^ i % 2)
    · rw [if_pos c]; have := ih (i + 1); omega
    · rw [if_neg c]; omega
theorem X10_fns_l {xs : XS} {d n : Nat} {st : MS} (h : xR xs d = some (n, st)) (hn : n < 7) (hs : isN 3 (gF st 0)) {b : Nat} (hb : b < 64) (f : Nat) : ∀ (k i : Nat), i + k = n → X10_firstNotSo_p19 (f + k + 1) xs d (nI b) (nI i) = some (nI (fnL (gA st 1) (skI (gF st 0)) b k i), xs) := by
  intro k
  induction k with
  | zero =>
    intro i e
    have e : i = n := by omega
    subst e
    rw [X10_firstNotSo_p19_s, h, bd1_s]
    unfold X7_size
    rw [bnd_s, uR_id h, nm_s, if_pos (Int32.le_refl _)]
    unfold X10_firstNotSo_p61 X7_size
    rw [h, bd1_s, bnd_s, uR_id h, nm_s]
    rfl
  | succ k ih =>
    intro i e
    have hi : i < n := by omega
    rw [show f + (k + 1) + 1 = (f + k + 1) + 1 from rfl, X10_firstNotSo_p19_s, h, bd1_s]
    unfold X7_size
    rw [bnd_s, uR_id h, nm_s, if_neg (nI_ge hi (by omega)), h, bd1_s, X7_isSkipped_a (by omega) hs hi, bnd_s, uR_id h, nm_s, h, bd1_s, X7_at_t (by omega) st hi, bnd_s, uR_id h, nm_s, bt_s (by omega) (by omega)]
    show _ = some (nI (if gA st 1 i = skI (gF st 0) ∨ gA st 1 i = nI (b / 2 ^ i % 2) then fnL (gA st 1) (skI (gF st 0)) b k (i + 1) else i), xs)
    unfold X10_firstNotSo_p55 X10_firstNotSo_p52
    by_cases c : gA st 1 i = skI (gF st 0)
    · rw [if_pos c, if_neg n10, if_pos (Or.inl c), nm_s, nI_1]
      exact ih (i + 1) (by omega)
    · rw [if_neg c, if_pos rfl]
      by_cases g : gA st 1 i = nI (b / 2 ^ i % 2)
      · rw [if_pos g, if_pos (Or.inr g), nm_s, nI_1]
        exact ih (i + 1) (by omega)
      · rw [if_neg g, if_neg (fun q => q.elim c g)]
/-- what one side's fall tells of a row: the first place that is not so -/
def fnS (A : AT) (f : Nat → Int32) (sk : Int32) (n s : Nat) : Nat := fnL f sk (stP A (aM A) s).toNatClampNeg n 0
theorem X10_firstNotSo_a {xs : XS} {A : AT} {N : Nat} (hok : okB N A) (hc : ct A (xT xs 0) (xB xs 0)) {d n : Nat} {st : MS} (h : xR xs d = some (n, st)) (hn : n < 7) (hs : isN 3 (gF st 0)) {s : Nat} (hss : s < 12) : X10_firstNotSo xs d (nI s) = some (nI (fnS A (gA st 1) (skI (gF st 0)) n s), xs) := by
  obtain ⟨b, hb, e⟩ := stP_r hok (aM A) s
  unfold X10_firstNotSo fnS
  have l := X10_fns_l h hn hs hb (4999 - n) n 0 (by omega)
  rw [show 4999 - n + n + 1 = 5000 by omega, nI_0] at l
  rw [X8_struckBy_a hc hok _ hss, bnd_s, uT_self, nm_s, hc.M, e, nI_cl hb]
  exact l
theorem X11_fut_l {A : AT} {ms : MS} (hm : mt A ms) {N : Nat} (hok : okB N A) {d n : Nat} (hd : d < 8) (hn : n < 7) {s : Int32} (hs : isN 3 s) (e14 : gA ms 14 d = s) (e15 : gA ms 15 d = nI n) {F : Nat → Int32} (hF : ∀ i, i < n → gL ms 16 (100 * d + i) = (F i).toInt64) {sd : Nat} (hsd : sd < 12) {b : Nat} (hb : b < 64) (eb : stP A (aM A) sd = nI b) (f : Nat) : ∀ (k i : Nat), i + k = n → X11_fitsUpTo_p5 (f + 1 + k + 1) ms (nI d) (nI sd) (nI i) 1 = some (nI (fnL F (skI s) b k i), ms) := by
  intro k
  induction k with
  | zero =>
    intro i e
    have e : i = n := by omega
    subst e
    rw [X11_fitsUpTo_p5_s, inr_i hd, nI_cl hd, e15, if_pos (Int32.le_refl _)]
    rfl
  | succ k ih =>
    intro i e
    have hi : i < n := by omega
    rw [show f + 1 + (k + 1) + 1 = (f + 1 + k + 1) + 1 from rfl, X11_fitsUpTo_p5_s, inr_i hd, nI_cl hd, e15, if_neg (nI_ge hi (by omega)), if_neg n10, n100, nI_add, inr_i (by omega : 100 * d + i < 800), nI_cl (by omega : 100 * d + i < 800), nm_s, X11_skipped_a hd hs e14, bnd_s, hF i hi, X11_struckBy_a hm hok hsd, bnd_s, eb, hb_s (by omega) (by omega), bd1_s]
    show _ = some (nI (if F i = skI s ∨ F i = nI (b / 2 ^ i % 2) then fnL F (skI s) b k (i + 1) else i), ms)
    have p73 : X11_fitsUpTo_p73 (fun st v1 v2 v3 v4 => X11_fitsUpTo_p5 (f + 1 + k + 1) st v1 v2 v3 v4) ms (nI d) (nI sd) (nI i) 1 = some (nI (fnL F (skI s) b k (i + 1)), ms) := by
      unfold X11_fitsUpTo_p73 X11_fitsUpTo_p86
      rw [if_neg n10, nm_s, nI_1]
      exact ih (i + 1) (by omega)
    have p73n : X11_fitsUpTo_p73 (fun st v1 v2 v3 v4 => X11_fitsUpTo_p5 (f + 1 + k + 1) st v1 v2 v3 v4) ms (nI d) (nI sd) (nI i) 0 = some (nI i, ms) := by
      unfold X11_fitsUpTo_p73 X11_fitsUpTo_p86
      rw [if_pos rfl, nm_s, Int32.add_zero]
      show X11_fitsUpTo_p5 (f + 1 + k + 1) ms (nI d) (nI sd) (nI i) 0 = _
      rw [X11_fitsUpTo_p5_s, inr_i hd, nI_cl hd, e15, if_neg (nI_ge hi (by omega)), if_pos rfl]
      rfl
    have p63 : ∀ t, t = nI (b / 2 ^ i % 2) → ¬ F i = skI s → X11_fitsUpTo_p63 (fun st v1 v2 v3 v4 => X11_fitsUpTo_p5 (f + 1 + k + 1) st v1 v2 v3 v4) ms (nI d) (nI sd) (nI i) (F i).toInt64 t = some (nI (if F i = skI s ∨ F i = nI (b / 2 ^ i % 2) then fnL F (skI s) b k (i + 1) else i), ms) := fun t ht hn => by
      unfold X11_fitsUpTo_p63 X11_fitsUpTo_p68
      rw [← ht]
      by_cases g : F i = t
      · rw [if_pos ((lg_cmp_eq _ _).mpr (l_eq.mpr g)), if_pos (Or.inr g), p73]
      · rw [if_neg (fun q => g (l_eq.mp ((lg_cmp_eq _ _).mp q))), if_neg (fun q => q.elim hn g), p73n]
    by_cases c : F i = skI s
    · rw [if_pos ((lg_cmp_eq _ _).mpr (l_eq.mpr c)), if_pos (Or.inl c)]
      unfold X11_fitsUpTo_p68
      exact p73
    · rw [if_neg (fun q => c (l_eq.mp ((lg_cmp_eq _ _).mp q)))]
      have : b / 2 ^ i % 2 = 0 ∨ b / 2 ^ i % 2 = 1 := by omega
      rcases this with q | q
      · rw [if_pos (by rw [q]; decide)]
        exact p63 0 (by rw [q]; rfl) c
      · rw [if_neg (by rw [q]; decide)]
        exact p63 1 (by rw [q]; rfl) c
theorem X11_fitsUpTo_a {A : AT} {ms : MS} (hm : mt A ms) {N : Nat} (hok : okB N A) {d n : Nat} (hd : d < 8) (hn : n < 7) {s : Int32} (hs : isN 3 s) (e14 : gA ms 14 d = s) (e15 : gA ms 15 d = nI n) {F : Nat → Int32} (hF : ∀ i, i < n → gL ms 16 (100 * d + i) = (F i).toInt64) {sd : Nat} (hsd : sd < 12) : X11_fitsUpTo ms (nI d) (nI sd) = some (nI (fnS A F (skI s) n sd), ms) := by
  obtain ⟨b, hb, e⟩ := stP_r hok (aM A) sd
  have l := X11_fut_l hm hok hd hn hs e14 e15 hF hsd hb e (4998 - n) n 0 (by omega)
  rw [show 4998 - n + 1 + n + 1 = 5000 by omega, nI_0] at l
  unfold X11_fitsUpTo fnS
  rw [e, nI_cl hb]
  exact l
