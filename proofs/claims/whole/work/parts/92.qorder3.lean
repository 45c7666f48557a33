/-! which to cut in what order: the reference's choice -/
theorem skip_l {v d t : Nat} (hv : v < 4096) (hd : d < 4096) (ht : t < 12) (k210 : MS → Int32 → Int32 → Int32 → Int32 → Int32 → Option (Int32 × MS)) (s : MS) (v2 v5 : Int32) (hno : ∀ j, j < t → ¬ cdP v d (gA s 32) j) (hyes : cdP v d (gA s 32) t) (f : Nat) : ∀ (n c : Nat), c + n = t → X11_order_p219 k210 (f + n + 1) s (nI v) v2 (nI d) (nI c) v5 = k210 s (nI v) v2 (nI (d ||| 2 ^ t)) (nI t) (v5 + 1) := by
  intro n
  induction n with
  | zero =>
    intro c e
    have e : c = t := by omega
    subst e
    obtain ⟨d1, d2⟩ := dif_s hv hd
    obtain ⟨o1, o2⟩ := or_s hd (p2_12 c ht)
    have eb : (1 : Int32) <<< (nI c &&& 31) = nI (2 ^ c) := bi_n c ht
    obtain ⟨y1, y2, y3⟩ := hyes
    rw [X11_order_p219_s, d1, hb_t d2 ht, if_pos ((tb_dif ht).mpr ⟨y1, y2⟩), bd1_s, if_neg n10, eb, o1, inr_i o2, nI_cl o2, if_neg y3]
    unfold X11_order_p252
    rw [eb, o1, nm_s, nm_s]
  | succ n ih =>
    intro c e
    have hct : c < t := by omega
    have hc : c < 12 := by omega
    obtain ⟨d1, d2⟩ := dif_s hv hd
    obtain ⟨o1, o2⟩ := or_s hd (p2_12 c hc)
    have eb : (1 : Int32) <<< (nI c &&& 31) = nI (2 ^ c) := bi_n c hc
    rw [show f + (n + 1) + 1 = (f + n + 1) + 1 from rfl, X11_order_p219_s, d1, hb_t d2 hc, bd1_s, eb, o1, inr_i o2, nI_cl o2]
    unfold X11_order_p246
    by_cases q : (dif v d).testBit c = true
    · obtain ⟨q1, q2⟩ := (tb_dif hc).mp q
      rw [if_pos q, if_neg n10]
      by_cases g : gA s 32 (d ||| 2 ^ c) = 0
      · rw [if_pos g, nm_s, nI_1]
        exact ih (c + 1) (by omega)
      · exact absurd ⟨q1, q2, g⟩ (hno c hct)
    · rw [if_neg q, if_pos rfl, nm_s, nI_1]
      exact ih (c + 1) (by omega)
theorem tb_lo {S i j : Nat} : (S % 2 ^ i).testBit j = true ↔ j < i ∧ S.testBit j = true := by
  rw [Nat.testBit_mod_two_pow]
  by_cases c : j < i
  · rw [decide_eq_true c, Bool.true_and]; exact ⟨fun h => ⟨c, h⟩, fun h => h.2⟩
  · rw [decide_eq_false c, Bool.false_and]; exact ⟨fun h => absurd h (by decide), fun h => absurd h.1 c⟩
theorem lo_4 {S i : Nat} (hS : S < 4096) : S % 2 ^ i < 4096 := Nat.lt_of_le_of_lt (Nat.mod_le _ _) hS
theorem greedy_l {A : AT} {v L : Nat} (hv : v < 4096) (hL : L < 12) (hG : gG A v L) (hmax : ∀ M, M < 12 → gG A v M → M ≤ L) {s : MS} (hw : tabW A v (gA s 32) 0) (f : Nat) : ∀ (n i p k : Nat) (fo : Int32), i + n = 12 → p ≤ cnB (dif v (2 ^ L)) n i → k ≤ i → X11_order_p210 (f + p + 2) s (nI v) (nI (k + p)) (nI (dif v (2 ^ L) % 2 ^ i)) fo (nI k) = some ((if p = cnB (dif v (2 ^ L)) n i then nI L else ceL (dif v (2 ^ L)) n i p), s) := by
  have hS : dif v (2 ^ L) < 4096 := (dif_s hv (p2_12 L hL)).2
  have bS : ∀ j, j < 12 → ((dif v (2 ^ L)).testBit j = true ↔ v.testBit j = true ∧ ¬ j = L) := fun j hj => by rw [tb_dif hj, tb_p]
  generalize dif v (2 ^ L) = S at hS bS ⊢
  have fin : ∀ (g k t : Nat) (d : Int32), k < 100 → X11_order_p210 (g + 1) s (nI v) (nI k) d (nI t) (nI (k + 1)) = some (nI t, s) := fun g k t d hk => by
    rw [X11_order_p210_s, if_pos (nI_lt (by omega) (by omega))]
    rfl
  intro n
  induction n with
  | zero =>
    intro i p k fo e hp hk
    have e : i = 12 := by omega
    subst e
    have hp : p = 0 := Nat.le_zero.mp hp
    subst hp
    have hm : S % 2 ^ 12 = S := Nat.mod_eq_of_lt hS
    have hor : S ||| 2 ^ L = v := tb_eq (or_s hS (p2_12 L hL)).2 hv fun j hj => by
      rw [tb_or, tb_p, bS j hj]
      constructor
      · rintro (z | z)
        · exact z.1
        · rw [z]; exact hG.1
      · intro z
        by_cases y : j = L
        · exact Or.inr y
        · exact Or.inl ⟨z, y⟩
    have sk := skip_l hv hS hL (fun st v1 v2 v3 v4 v5 => X11_order_p210 (f + 1) st v1 v2 v3 v4 v5) s (nI (k + 0)) (nI k) (fun j hj h => (by
      obtain ⟨h1, h2, _⟩ := h
      exact h2 ((bS j (by omega)).mpr ⟨h1, by omega⟩))) ⟨hG.1, fun z => ((bS L hL).mp z).2 rfl, (hw (S ||| 2 ^ L) (Nat.zero_le _) (or_s hS (p2_12 L hL)).2 (fun c hc q => by rw [hor] at q; exact q)).mpr (Or.inl hor)⟩ (4999 - L) L 0 (by omega)
    rw [show 4999 - L + L + 1 = 5000 by omega, nI_0] at sk
    rw [show f + 0 + 2 = (f + 1) + 1 from rfl, X11_order_p210_s, if_neg (nI_nlt (by omega) (by omega)), hm, sk, nI_1, if_pos (show 0 = cnB S 0 12 from rfl)]
    exact fin f k L _ (by omega)
  | succ n ih =>
    intro i p k fo e hp hk
    have hi : i < 12 := by omega
    have ec : cnB S (n + 1) i = S / 2 ^ i % 2 + cnB S n (i + 1) := rfl
    by_cases q : S / 2 ^ i % 2 = 1
    · have qb := tb.mp q
      obtain ⟨qv, qL⟩ := (bS i hi).mp qb
      have hd : S % 2 ^ i < 4096 := lo_4 hS
      have hor : S % 2 ^ i ||| 2 ^ i = S % 2 ^ (i + 1) := tb_eq (or_s hd (p2_12 i hi)).2 (lo_4 hS) fun j hj => by
        rw [tb_or, tb_p, tb_lo, tb_lo]
        constructor
        · rintro (z | z)
          · exact ⟨by omega, z.2⟩
          · rw [z]; exact ⟨by omega, qb⟩
        · rintro ⟨z1, z2⟩
          by_cases y : j = i
          · exact Or.inr y
          · exact Or.inl ⟨by omega, z2⟩
      have sub : ∀ t, t < 12 → v.testBit t = true → ∀ c, c < 12 → (S % 2 ^ i ||| 2 ^ t).testBit c = true → v.testBit c = true := fun t ht hvt c hc z => by
        rcases tb_or.mp z with y | y
        · exact ((bS c hc).mp (tb_lo.mp y).2).1
        · rw [tb_p.mp y]; exact hvt
      have sk := skip_l hv hd hi (fun st v1 v2 v3 v4 v5 => X11_order_p210 (f + p + 1) st v1 v2 v3 v4 v5) s (nI (k + p)) (nI k) (fun j hj h => (by
        obtain ⟨h1, h2, h3⟩ := h
        have hj12 : j < 12 := by omega
        have jL : j = L := by
          by_cases y : j = L
          · exact y
          · exact absurd (tb_lo.mpr ⟨hj, (bS j hj12).mpr ⟨h1, y⟩⟩) h2
        subst jL
        rcases (hw (S % 2 ^ i ||| 2 ^ j) (Nat.zero_le _) (or_s hd (p2_12 j hL)).2 (sub j hL h1)).mp h3 with y | ⟨M, hM, gM, nM⟩
        · have z : (S % 2 ^ i ||| 2 ^ j).testBit i = true := by rw [y]; exact qv
          rcases tb_or.mp z with z | z
          · have := (tb_lo.mp z).1; omega
          · exact qL (tb_p.mp z)
        · have h5 := hmax M hM gM
          have h6 : M ≠ j := fun y => nM (tb_or.mpr (Or.inr (tb_p.mpr y)))
          exact nM (tb_or.mpr (Or.inl (tb_lo.mpr ⟨by omega, (bS M hM).mpr ⟨gM.1, h6⟩⟩))))) ⟨qv, fun z => absurd (tb_lo.mp z).1 (by omega), (hw (S % 2 ^ i ||| 2 ^ i) (Nat.zero_le _) (or_s hd (p2_12 i hi)).2 (sub i hi qv)).mpr (Or.inr ⟨L, hL, hG, fun z => by
          rcases tb_or.mp z with z | z
          · exact ((bS L hL).mp (tb_lo.mp z).2).2 rfl
          · exact qL (tb_p.mp z).symm⟩)⟩ (4999 - i) i 0 (by omega)
      rw [show 4999 - i + i + 1 = 5000 by omega, nI_0] at sk
      rw [show f + p + 2 = (f + p + 1) + 1 from rfl, X11_order_p210_s, if_neg (nI_nlt (by omega) (by have := cnB_le S (n + 1) i; omega)), sk, nI_1, hor]
      show _ = some ((if p = S / 2 ^ i % 2 + cnB S n (i + 1) then nI L else if S / 2 ^ i % 2 = 1 then (if p = 0 then nI i else ceL S n (i + 1) (p - 1)) else ceL S n (i + 1) p), s)
      rw [q, if_pos rfl]
      by_cases p0 : p = 0
      · subst p0
        rw [if_neg (show ¬ 0 = 1 + cnB S n (i + 1) by omega), if_pos rfl]
        exact fin f k i _ (by omega)
      · obtain ⟨m, rfl⟩ : ∃ m, p = m + 1 := ⟨p - 1, by omega⟩
        have hh := ih (i + 1) m (k + 1) (nI i) (by omega) (by omega) (by omega)
        rw [if_neg p0, show k + (m + 1) = k + 1 + m by omega]
        show X11_order_p210 (f + m + 2) s (nI v) (nI (k + 1 + m)) (nI (S % 2 ^ (i + 1))) (nI i) (nI (k + 1)) = _
        rw [hh]
        by_cases y : m = cnB S n (i + 1)
        · rw [if_pos y, if_pos (by omega)]
        · rw [if_neg y, if_neg (by omega)]
          rfl
    · have hlo : S % 2 ^ i = S % 2 ^ (i + 1) := tb_eq (lo_4 hS) (lo_4 hS) fun j hj => by
        rw [tb_lo, tb_lo]
        constructor
        · rintro ⟨z1, z2⟩; exact ⟨by omega, z2⟩
        · rintro ⟨z1, z2⟩
          refine ⟨?_, z2⟩
          by_cases y : j = i
          · rw [y] at z2; exact absurd (tb.mpr z2) q
          · omega
      have z0 : S / 2 ^ i % 2 = 0 := by omega
      have hh := ih (i + 1) p k fo (by omega) (by omega) (by omega)
      rw [hlo, hh, ec, z0, Nat.zero_add]
      show _ = some ((if p = cnB S n (i + 1) then nI L else if S / 2 ^ i % 2 = 1 then (if p = 0 then nI i else ceL S n (i + 1) (p - 1)) else ceL S n (i + 1) p), s)
      rw [if_neg q]
