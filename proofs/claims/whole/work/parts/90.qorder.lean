/-! which to cut in what order: what can end, what the class finds -/
def gG (A : AT) (v L : Nat) : Prop := v.testBit L = true ∧ stD A (dif v (2 ^ L))
def tabP (A : AT) (v d : Nat) : Prop := d = v ∨ ∃ L, L < 12 ∧ gG A v L ∧ ¬ d.testBit L = true
theorem stD_t {A : AT} {N : Nat} (hok : okB N A) {d d' : Nat} (h : ∀ c, c < 12 → d'.testBit c = true → d.testBit c = true) (hs : stD A d) : stD A d' := stD_m hok (fun c hc q => tb.mpr (h c hc (tb.mp q))) hs
theorem tab_r {A : AT} {N : Nat} (hok : okB N A) {v d : Nat} (hv : v < 4096) (hd : d < 4096) (hs : ∀ c, c < 12 → d.testBit c = true → v.testBit c = true) (hn : d ≠ v) : tabP A v d ↔ stD A d ∧ ∃ c, c < 12 ∧ v.testBit c = true ∧ ¬ d.testBit c = true ∧ tabP A v (d ||| 2 ^ c) := by
  constructor
  · intro h
    rcases h with e | ⟨L, hL, ⟨g1, g2⟩, g3⟩
    · exact absurd e hn
    · refine ⟨stD_t hok (fun c hc q => (tb_dif hc).mpr ⟨hs c hc q, fun z => g3 (by rw [← tb_p.mp z]; exact q)⟩) g2, ?_⟩
      by_cases ex : ∃ c, c < 12 ∧ v.testBit c = true ∧ ¬ d.testBit c = true ∧ c ≠ L
      · obtain ⟨c, h1, h2, h3, h4⟩ := ex
        refine ⟨c, h1, h2, h3, Or.inr ⟨L, hL, ⟨g1, g2⟩, fun z => ?_⟩⟩
        rcases tb_or.mp z with z | z
        · exact g3 z
        · exact h4 (tb_p.mp z).symm
      · refine ⟨L, hL, g1, g3, Or.inl (tb_eq (or_s hd (p2_12 L hL)).2 hv fun i hi => ?_)⟩
        rw [tb_or, tb_p]
        constructor
        · rintro (z | z)
          · exact hs i hi z
          · rw [z]; exact g1
        · intro z
          by_cases y : d.testBit i = true
          · exact Or.inl y
          · by_cases w : i = L
            · exact Or.inr w
            · exact absurd ⟨i, hi, z, y, w⟩ ex
  · rintro ⟨h1, c, hc, h2, h3, h4⟩
    rcases h4 with e | ⟨L, hL, g, g3⟩
    · refine Or.inr ⟨c, hc, ⟨h2, stD_t hok (fun i hi q => ?_) h1⟩, h3⟩
      obtain ⟨q1, q2⟩ := (tb_dif hi).mp q
      rw [← e] at q1
      rcases tb_or.mp q1 with z | z
      · exact z
      · exact absurd z q2
    · exact Or.inr ⟨L, hL, g, fun z => g3 (tb_or.mpr (Or.inl z))⟩
def loR (A : AT) (v : Nat) : Nat → Int32
  | 0 => -4
  | n + 1 => if v / 2 ^ n % 2 = 1 ∧ aFall (aCut A (dif v (2 ^ n))) (aM A) = -4 then nI n else loR A v n
theorem loR_c (A : AT) (v : Nat) : ∀ n, n ≤ 12 → (loR A v n = -4 ∧ ∀ L, L < n → ¬ gG A v L) ∨ ∃ L, L < n ∧ loR A v n = nI L ∧ gG A v L ∧ ∀ M, M < n → gG A v M → M ≤ L := by
  intro n
  induction n with
  | zero => intro _; exact Or.inl ⟨rfl, fun L h => absurd h (Nat.not_lt_zero _)⟩
  | succ n ih =>
    intro hn
    show ((if v / 2 ^ n % 2 = 1 ∧ aFall (aCut A (dif v (2 ^ n))) (aM A) = -4 then nI n else loR A v n) = -4 ∧ _) ∨ ∃ L, L < n + 1 ∧ (if v / 2 ^ n % 2 = 1 ∧ aFall (aCut A (dif v (2 ^ n))) (aM A) = -4 then nI n else loR A v n) = nI L ∧ _
    by_cases c : v / 2 ^ n % 2 = 1 ∧ aFall (aCut A (dif v (2 ^ n))) (aM A) = -4
    · rw [if_pos c]
      exact Or.inr ⟨n, by omega, rfl, ⟨tb.mp c.1, c.2⟩, fun M hM _ => by omega⟩
    · rw [if_neg c]
      have nn : ¬ gG A v n := fun g => c ⟨tb.mpr g.1, g.2⟩
      rcases ih (by omega) with ⟨h1, h2⟩ | ⟨L, h1, h2, h3, h4⟩
      · refine Or.inl ⟨h1, fun L hL g => ?_⟩
        by_cases e : L = n
        · rw [e] at g; exact nn g
        · exact h2 L (by omega) g
      · refine Or.inr ⟨L, by omega, h2, h3, fun M hM g => ?_⟩
        by_cases e : M = n
        · rw [e] at g; exact absurd g nn
        · exact h4 M (by omega) g
theorem last_l {xs : XS} {A : AT} {N : Nat} (hok : okB N A) (hc : ct A (xT xs 0) (xB xs 0)) {v : Nat} (hv : v < 4096) (f : Nat) : ∀ (n : Nat) (K F : Nat → Int32) (x : XS), n ≤ 12 → TK 1 xs x → ct (aKF A K F) (xT x 1) (xB x 1) → ∃ x', X10_lastInOrder_p14 (f + n + 1) x (nI v) (nI n + (-1 : Int32)) = some (loR A v n, x') ∧ TK 1 xs x' := by
  intro n
  induction n with
  | zero =>
    intro K F x _ hT ht
    exact ⟨x, by rw [X10_lastInOrder_p14_s, if_pos (by decide)]; rfl, hT⟩
  | succ n ih =>
    intro K F x hn hT ht
    have hn12 : n < 12 := by omega
    obtain ⟨d1, d2⟩ := dif_s hv (p2_12 n hn12)
    have eb : (1 : Int32) <<< (nI n &&& 31) = nI (2 ^ n) := bi_n n hn12
    rw [show f + (n + 1) + 1 = (f + n + 1) + 1 from rfl, pk_m1, X10_lastInOrder_p14_s, if_neg (nI_pos (by omega)), bt_s hv hn12, eb, d1]
    unfold X10_lastInOrder_p45 X10_lastInOrder_p43
    show ∃ x', _ = some ((if v / 2 ^ n % 2 = 1 ∧ aFall (aCut A (dif v (2 ^ n))) (aM A) = -4 then nI n else loR A v n), x') ∧ _
    by_cases q : v / 2 ^ n % 2 = 1
    · obtain ⟨x1, e1, t1, c1⟩ := fallsWithout_a hok (TK1_c hT hc) d2 ht
      rw [if_pos (nI_01.mpr q), e1, bnd_s]
      by_cases z : aFall (aCut A (dif v (2 ^ n))) (aM A) = -4
      · rw [if_pos z, if_pos ⟨q, z⟩]
        exact ⟨x1, rfl, hT.tr t1⟩
      · rw [if_neg z, if_neg (fun y => z y.2), nm_s]
        exact ih _ _ x1 (by omega) (hT.tr t1) c1
    · rw [if_neg (fun z => q (nI_01.mp z)), if_neg (fun y => q y.1), nm_s]
      exact ih K F x (by omega) hT ht
/-- the p-th of the cells of S, from cell i on; how many there are -/
def ceL (S : Nat) : Nat → Nat → Nat → Int32
  | 0, _, _ => -4
  | n + 1, i, p => if S / 2 ^ i % 2 = 1 then (if p = 0 then nI i else ceL S n (i + 1) (p - 1)) else ceL S n (i + 1) p
def cnB (S : Nat) : Nat → Nat → Nat
  | 0, _ => 0
  | n + 1, i => S / 2 ^ i % 2 + cnB S n (i + 1)
theorem cellOf_l {S : Nat} (hS : S < 4096) : ∀ (n i p : Nat), i + n = 12 → p < 100 → X10_cellOf_p4 (n + 1) (nI S) (nI p) (nI i) = some (ceL S n i p) := by
  intro n
  induction n with
  | zero =>
    intro i p e _
    have e : i = 12 := by omega
    subst e
    rw [X10_cellOf_p4_s, if_pos n12_t]
    rfl
  | succ n ih =>
    intro i p e hp
    have hi : i < 12 := by omega
    rw [X10_cellOf_p4_s, if_neg (n12_f hi), bt_s hS hi]
    unfold X10_cellOf_p28 X10_cellOf_p23
    show _ = some (if S / 2 ^ i % 2 = 1 then (if p = 0 then nI i else ceL S n (i + 1) (p - 1)) else ceL S n (i + 1) p)
    by_cases q : S / 2 ^ i % 2 = 1
    · rw [if_pos (nI_01.mpr q), if_pos q]
      by_cases z : p = 0
      · rw [z, if_pos nI_0, if_pos rfl]
      · obtain ⟨m, rfl⟩ : ∃ m, p = m + 1 := ⟨p - 1, by omega⟩
        rw [if_neg (fun y => z ((nI_eq (a := m + 1) (b := 0) (by omega) (by decide)).mp (by rw [y, nI_0]))), if_neg z, pk_m1, nm_s, nm_s, nI_1]
        exact ih (i + 1) m (by omega) (by omega)
    · rw [if_neg (fun z => q (nI_01.mp z)), if_neg q, nm_s, nI_1]
      exact ih (i + 1) p (by omega) hp
theorem cnB_le (S : Nat) : ∀ n i, cnB S n i ≤ n := by
  intro n
  induction n with
  | zero => intro i; exact Nat.le_refl _
  | succ n ih =>
    intro i
    have := ih (i + 1)
    show S / 2 ^ i % 2 + cnB S n (i + 1) ≤ n + 1
    omega
theorem cnB_f (v : Nat) : ∀ n i a, (List.range' i n).foldl (fun n i => n + v / 2 ^ i % 2) a = a + cnB v n i := by
  intro n
  induction n with
  | zero => intro i a; rfl
  | succ n ih =>
    intro i a
    show (List.range' (i + 1) n).foldl (fun n i => n + v / 2 ^ i % 2) (a + v / 2 ^ i % 2) = a + (v / 2 ^ i % 2 + cnB v n (i + 1))
    rw [ih, Nat.add_assoc]
theorem cnB_pc (v : Nat) : pcN v = cnB v 12 0 := by
  unfold pcN
  rw [List.range_eq_range', cnB_f, Nat.zero_add]
theorem cnB_d {v L : Nat} (hL : v.testBit L = true) : ∀ n i, i + n ≤ 12 → cnB v n i = cnB (dif v (2 ^ L)) n i + (if i ≤ L ∧ L < i + n then 1 else 0) := by
  intro n
  induction n with
  | zero => intro i _; rw [if_neg (by omega)]; rfl
  | succ n ih =>
    intro i hi
    have h := ih (i + 1) (by omega)
    show v / 2 ^ i % 2 + cnB v n (i + 1) = dif v (2 ^ L) / 2 ^ i % 2 + cnB (dif v (2 ^ L)) n (i + 1) + _
    have b := tb_dif (a := v) (b := 2 ^ L) (i := i) (by omega)
    rw [tb_p, ← tb, ← tb] at b
    by_cases e : i = L
    · have v1 : v / 2 ^ i % 2 = 1 := by rw [e]; exact tb.mpr hL
      have d1 : ¬ dif v (2 ^ L) / 2 ^ i % 2 = 1 := fun z => (b.mp z).2 e
      rw [if_neg (by omega)] at h
      rw [if_pos (by omega)]
      omega
    · have hh : dif v (2 ^ L) / 2 ^ i % 2 = 1 ↔ v / 2 ^ i % 2 = 1 := ⟨fun z => (b.mp z).1, fun z => b.mpr ⟨z, e⟩⟩
      by_cases c : i + 1 ≤ L ∧ L < i + 1 + n
      · rw [if_pos c] at h
        rw [if_pos (by omega)]
        omega
      · rw [if_neg c] at h
        rw [if_neg (by omega)]
        omega
