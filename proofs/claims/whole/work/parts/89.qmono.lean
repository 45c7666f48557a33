/-! fewer cells cut hold no less -/
theorem flL_i (f : Nat → Int32) : ∀ (n i a : Nat) (m : Int32), i + n ≤ 12 → a < 12 → ¬ flL f n i (nI a) m = -4 := by
  intro n
  induction n with
  | zero => intro i a m _ ha; exact nI_z (by omega)
  | succ n ih =>
    intro i a m h ha
    show ¬ (if f i ≤ m then flL f n (i + 1) (nI a) m else flL f n (i + 1) (nI i) (f i)) = -4
    by_cases c : f i ≤ m
    · rw [if_pos c]; exact ih (i + 1) a m (by omega) ha
    · rw [if_neg c]; exact ih (i + 1) i _ (by omega) (by omega)
theorem flL_4 (f : Nat → Int32) : ∀ (n i : Nat), i + n ≤ 12 → (flL f n i (-4) 0 = -4 ↔ ∀ j, i ≤ j → j < i + n → f j ≤ 0) := by
  intro n
  induction n with
  | zero => intro i _; exact ⟨fun _ j h1 h2 => by omega, fun _ => rfl⟩
  | succ n ih =>
    intro i h
    show (if f i ≤ 0 then flL f n (i + 1) (-4) 0 else flL f n (i + 1) (nI i) (f i)) = -4 ↔ _
    by_cases c : f i ≤ 0
    · rw [if_pos c, ih (i + 1) (by omega)]
      refine ⟨fun g j h1 h2 => ?_, fun g j h1 h2 => g j (by omega) (by omega)⟩
      by_cases e : j = i
      · rw [e]; exact c
      · exact g j (by omega) (by omega)
    · rw [if_neg c]
      exact ⟨fun g => absurd g (flL_i f n (i + 1) i _ (by omega) (by omega)), fun g => absurd (g i (Nat.le_refl _) (by omega)) c⟩
theorem fallF_4 (f : Nat → Int32) : fallF f = -4 ↔ ∀ j, j < 12 → f j ≤ 0 := by
  unfold fallF
  rw [flL_4 f 12 0 (by decide)]
  exact ⟨fun g j h => g j (Nat.zero_le _) (by omega), fun g j _ h => g j (by omega)⟩
theorem alk_r : ∀ s, s < 12 → ∀ c, c < 12 → ¬ alk s c ≤ 0 → alk s c = nI (alk s c).toInt.toNat ∧ (alk s c).toInt.toNat < 200 := by decide +kernel
theorem bw_r : ∀ k, k < 8 → ∀ f, f < 10 → bwK (nI k) (nI f) = nI (bwK (nI k) (nI f)).toInt.toNat ∧ (bwK (nI k) (nI f)).toInt.toNat < 12 := by decide +kernel
/-- what a cell bears, as a number -/
theorem bAt_r {A : AT} {N : Nat} (hok : okB N A) (m : Int32) {c : Nat} (hc : c < 12) : ∃ x, x < 12 ∧ bAt (aBe A) (aBu A) m c = nI x := by
  obtain ⟨⟨k, hk, ek⟩, f, hf, ef⟩ := hok.KF hc
  obtain ⟨r1, r2⟩ := bw_r k hk f hf
  rw [← ek, ← ef] at r1 r2
  have h1 : aBe A c = nI (bwK (aK A c) (aF A c)).toInt.toNat := r1
  unfold bAt
  by_cases q : aBu A c = -4
  · rw [if_pos q]; exact ⟨_, r2, h1⟩
  · rw [if_neg q]
    by_cases w : m < aBu A c
    · rw [if_pos w]; exact ⟨_, r2, h1⟩
    · rw [if_neg w]; exact ⟨0, by decide, nI_0.symm⟩
theorem sum_m {f g : Nat → Int32} (h : ∀ c, c < 12 → ∃ x y, f c = nI x ∧ g c = nI y ∧ x ≤ y ∧ y < 2400) : ∀ (n i a b : Nat), i + n ≤ 12 → a ≤ b → ∃ x y, sumF f n i (nI a) = nI x ∧ sumF g n i (nI b) = nI y ∧ x ≤ y ∧ y ≤ b + n * 2400 := by
  intro n
  induction n with
  | zero => intro i a b _ hab; exact ⟨a, b, rfl, rfl, hab, by omega⟩
  | succ n ih =>
    intro i a b hi hab
    obtain ⟨x, y, e1, e2, h1, h2⟩ := h i (by omega)
    show ∃ x y, sumF f n (i + 1) (nI a + f i) = nI x ∧ sumF g n (i + 1) (nI b + g i) = nI y ∧ x ≤ y ∧ y ≤ b + (n + 1) * 2400
    rw [e1, e2, nI_add, nI_add]
    obtain ⟨p, q, g1, g2, g3, g4⟩ := ih (i + 1) (a + x) (b + y) (by omega) (by omega)
    exact ⟨p, q, g1, g2, g3, by omega⟩
theorem hoP_m {b b' : Nat → Int32} (h : ∀ c, c < 12 → ∃ x y, b c = nI x ∧ b' c = nI y ∧ x ≤ y ∧ y < 12) {s : Nat} (hs : s < 12) : ∃ x y, hoP b s = nI x ∧ hoP b' s = nI y ∧ x ≤ y ∧ y < 2 ^ 20 := by
  obtain ⟨x, y, e1, e2, h1, h2⟩ := sum_m (f := hoF b s) (g := hoF b' s) (fun c hc => by
    obtain ⟨x, y, e1, e2, h1, h2⟩ := h c hc
    unfold hoF
    by_cases q : alk s c ≤ 0
    · rw [if_pos q, if_pos q]
      exact ⟨0, 0, nI_0.symm, nI_0.symm, Nat.le_refl _, by decide⟩
    · rw [if_neg q, if_neg q, e1, e2]
      obtain ⟨r1, r2⟩ := alk_r s hs c hc q
      rw [r1, pk_mul, pk_mul]
      refine ⟨_, _, rfl, rfl, Nat.mul_le_mul_right _ h1, ?_⟩
      exact Nat.lt_of_le_of_lt (Nat.mul_le_mul_right _ (Nat.le_of_lt_succ h2)) (Nat.lt_of_le_of_lt (Nat.mul_le_mul_left 11 (Nat.le_of_lt r2)) (by decide))) 12 0 0 0 (by decide) (Nat.le_refl _)
  rw [nI_0] at e1 e2
  refine ⟨x / 10, y / 10, ?_, ?_, by omega, by omega⟩
  · unfold hoP
    rw [e1]
    exact pk_div (d := 10) (by omega) (by decide) (by decide)
  · unfold hoP
    rw [e2]
    exact pk_div (d := 10) (by omega) (by decide) (by decide)
theorem div10_r (x : Int32) : -300000000 ≤ (x / 10).toInt ∧ (x / 10).toInt ≤ 300000000 := by
  have h1 := Int32.le_toInt x
  have h2 := Int32.toInt_lt x
  have e : (x / 10).toInt = x.toInt.tdiv 10 := by
    rw [Int32.toInt_div, show (10 : Int32).toInt = 10 from rfl]
    refine q_bm ?_ ?_
    · rcases Int.le_total 0 x.toInt with c | c
      · rw [Int.tdiv_eq_ediv_of_nonneg c]; omega
      · obtain ⟨y, hy⟩ : ∃ y, x.toInt = -y := ⟨-x.toInt, by omega⟩
        rw [hy, Int.neg_tdiv, Int.tdiv_eq_ediv_of_nonneg (by omega)]; omega
    · rcases Int.le_total 0 x.toInt with c | c
      · rw [Int.tdiv_eq_ediv_of_nonneg c]; omega
      · obtain ⟨y, hy⟩ : ∃ y, x.toInt = -y := ⟨-x.toInt, by omega⟩
        rw [hy, Int.neg_tdiv, Int.tdiv_eq_ediv_of_nonneg (by omega)]; omega
  rw [e]
  rcases Int.le_total 0 x.toInt with c | c
  · rw [Int.tdiv_eq_ediv_of_nonneg c]; omega
  · obtain ⟨y, hy⟩ : ∃ y, x.toInt = -y := ⟨-x.toInt, by omega⟩
    rw [hy, Int.neg_tdiv, Int.tdiv_eq_ediv_of_nonneg (by omega)]; omega
theorem preP_r {A : AT} {N : Nat} (hok : okB N A) (s : Nat) : -300000000 ≤ (preP (aT A) s).toInt ∧ (preP (aT A) s).toInt ≤ 300001000 := by
  obtain ⟨t, ht, et⟩ : isN 401 (aT A 4) := hok.T (i := 4) (by decide)
  have h := div10_r (alk s (aT A 0).toNatClampNeg * aT A 1 + alk s (aT A 2).toNatClampNeg * aT A 3)
  have e4 := nI_toInt (n := t) (by omega)
  unfold preP
  rw [et, q_add (by rw [e4]; omega) (by rw [e4]; omega), e4]
  omega
theorem lk_m {A : AT} {N : Nat} (hok : okB N A) {b b' : Nat → Int32} (h : ∀ c, c < 12 → ∃ x y, b c = nI x ∧ b' c = nI y ∧ x ≤ y ∧ y < 12) {s : Nat} (hs : s < 12) (h0 : lkP (aT A) b s ≤ 0) : lkP (aT A) b' s ≤ 0 := by
  obtain ⟨x, y, e1, e2, h1, h2⟩ := hoP_m h hs
  obtain ⟨p1, p2⟩ := preP_r hok s
  unfold lkP at h0 ⊢
  have ex := nI_toInt (n := x) (by omega)
  have ey := nI_toInt (n := y) (by omega)
  rw [e1, i_le, q_sub (by rw [ex]; omega) (by rw [ex]; omega), ex, t_0] at h0
  rw [e2, i_le, q_sub (by rw [ey]; omega) (by rw [ey]; omega), ey, t_0]
  omega
/-- stands with the cells d cut -/
def stD (A : AT) (d : Nat) : Prop := aFall (aCut A d) (aM A) = -4
theorem bAt_cut (A : AT) (d : Nat) (m : Int32) (c : Nat) : bAt (aBe (aCut A d)) (aBu (aCut A d)) m c = if d / 2 ^ c % 2 = 1 then 0 else bAt (aBe A) (aBu A) m c := by
  unfold bAt
  show (if buK (cutK A d c) (cutF A d c) = -4 then bwK (cutK A d c) (cutF A d c) else if m < buK (cutK A d c) (cutF A d c) then bwK (cutK A d c) (cutF A d c) else 0) = _
  unfold cutK cutF
  by_cases q : d / 2 ^ c % 2 = 1
  · rw [if_pos q, if_pos q, if_pos q]; rfl
  · rw [if_neg q, if_neg q, if_neg q]; rfl
theorem stD_m {A : AT} {N : Nat} (hok : okB N A) {d d' : Nat} (h : ∀ c, c < 12 → d' / 2 ^ c % 2 = 1 → d / 2 ^ c % 2 = 1) (hs : stD A d) : stD A d' := by
  unfold stD at hs ⊢
  rw [aFall_e, fallF_4] at hs ⊢
  intro s hss
  refine lk_m hok (b := bAt (aBe (aCut A d)) (aBu (aCut A d)) (aM A)) (b' := bAt (aBe (aCut A d')) (aBu (aCut A d')) (aM A)) (fun c hc => ?_) hss (hs s hss)
  obtain ⟨x, hx, ex⟩ := bAt_r hok (aM A) hc
  rw [bAt_cut, bAt_cut, ex]
  by_cases q' : d' / 2 ^ c % 2 = 1
  · rw [if_pos q', if_pos (h c hc q')]
    exact ⟨0, 0, nI_0.symm, nI_0.symm, Nat.le_refl _, by decide⟩
  · rw [if_neg q']
    by_cases q : d / 2 ^ c % 2 = 1
    · rw [if_pos q]
      exact ⟨0, x, nI_0.symm, rfl, Nat.zero_le _, hx⟩
    · rw [if_neg q]
      exact ⟨x, x, rfl, rfl, Nat.le_refl _, hx⟩
theorem cut_e (A : AT) (c : Nat) : aK (aCut A 0) c = aK A c ∧ aF (aCut A 0) c = aF A c := by
  show cutK A 0 c = aK A c ∧ cutF A 0 c = aF A c
  unfold cutK cutF
  have q : ¬ 0 / 2 ^ c % 2 = 1 := by rw [Nat.zero_div]; decide
  rw [if_neg q, if_neg q]
  exact ⟨rfl, rfl⟩
theorem stD_0 {A : AT} (h0 : aFall A (aM A) = -4) : stD A 0 := by
  unfold stD
  rw [aFall_c (A := aCut A 0) (B := A) (fun _ _ => rfl) (fun c _ => cut_e A c)]
  exact h0
/-! sets of cells as bits -/
def dif (a b : Nat) : Nat := a &&& (b ^^^ 4294967295)
theorem dif_s {a b : Nat} (ha : a < 4096) (hb : b < 4096) : nI a &&& (nI b ^^^ (-1 : Int32)) = nI (dif a b) ∧ dif a b < 4096 := by
  have hl : dif a b < 4096 := Nat.lt_of_le_of_lt Nat.and_le_left ha
  refine ⟨?_, hl⟩
  apply Int32.toBitVec_inj.mp
  apply BitVec.eq_of_toNat_eq
  rw [Int32.toBitVec_and, Int32.toBitVec_xor, BitVec.toNat_and, BitVec.toNat_xor, pk_tn (by omega), pk_tn (by omega), pk_tn (by omega)]
  rfl
theorem or_s {a b : Nat} (ha : a < 4096) (hb : b < 4096) : nI a ||| nI b = nI (a ||| b) ∧ a ||| b < 4096 := by
  have hl : a ||| b < 4096 := Nat.or_lt_two_pow (n := 12) ha hb
  refine ⟨?_, hl⟩
  apply Int32.toBitVec_inj.mp
  apply BitVec.eq_of_toNat_eq
  rw [Int32.toBitVec_or, BitVec.toNat_or, pk_tn (by omega), pk_tn (by omega), pk_tn (by omega)]
theorem tb {a i : Nat} : a / 2 ^ i % 2 = 1 ↔ a.testBit i = true := by
  rw [Nat.testBit_eq_decide_div_mod_eq, decide_eq_true_iff]
theorem tb_12 {a i : Nat} (ha : a < 4096) (hi : ¬ i < 12) : ¬ a.testBit i = true := by
  rw [Nat.testBit_lt_two_pow (Nat.lt_of_lt_of_le ha (Nat.pow_le_pow_right (n := 2) (by decide) (Nat.not_lt.mp hi) : 2 ^ 12 ≤ 2 ^ i))]
  decide
theorem tb_m1 : ∀ i, i < 32 → (4294967295 : Nat).testBit i = true := by decide +kernel
theorem tb_dif {a b : Nat} {i : Nat} (hi : i < 12) : (dif a b).testBit i = true ↔ a.testBit i = true ∧ ¬ b.testBit i = true := by
  unfold dif
  rw [Nat.testBit_and, Nat.testBit_xor, tb_m1 i (by omega)]
  cases a.testBit i <;> cases b.testBit i <;> decide
theorem tb_or {a b : Nat} {i : Nat} : (a ||| b).testBit i = true ↔ a.testBit i = true ∨ b.testBit i = true := by
  rw [Nat.testBit_or]
  cases a.testBit i <;> cases b.testBit i <;> decide
theorem tb_p {c i : Nat} : (2 ^ c).testBit i = true ↔ i = c := by
  rw [Nat.testBit_two_pow, decide_eq_true_iff]
  exact ⟨fun h => h.symm, fun h => h.symm⟩
theorem tb_eq {a b : Nat} (ha : a < 4096) (hb : b < 4096) (h : ∀ i, i < 12 → (a.testBit i = true ↔ b.testBit i = true)) : a = b := by
  refine Nat.eq_of_testBit_eq fun i => ?_
  by_cases hi : i < 12
  · have := h i hi
    cases x : a.testBit i <;> cases y : b.testBit i <;> simp_all
  · have h1 := tb_12 ha hi
    have h2 := tb_12 hb hi
    cases x : a.testBit i <;> cases y : b.testBit i <;> simp_all
