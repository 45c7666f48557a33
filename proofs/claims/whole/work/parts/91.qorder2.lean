/-! which to cut in what order: the reference's table -/
theorem gA_A32 {m0 : MS} {w : Nat → Int32} : gA (sAA m0 32 w) 32 = w := by
  show (if (32 : Nat) = 32 then w else gA m0 32) = w
  exact if_pos rfl
theorem mo_32i {A B : AT} {m0 s : MS} (h : mo A B m0 s) : mo A B (sAA m0 32 (gA m0 32)) s := by
  obtain ⟨g1, g2, g3, g4, g5⟩ := h
  refine ⟨g1, g2, fun k hk => ?_, g4, g5⟩
  rw [gA_sAA]
  by_cases c : k = 32
  · rw [if_pos c, c]; exact g3 32 (by decide)
  · rw [if_neg c]; exact g3 k hk
theorem mo_32s {A B : AT} {m0 s : MS} {w : Nat → Int32} (h : mo A B (sAA m0 32 w) s) (c : Nat) (v : Int32) : mo A B (sAA m0 32 (upd w c v)) (sA s 32 c v) := by
  obtain ⟨⟨m1, m2, m3, m4, m5, m6, m7⟩, g2, g3, g4, g5⟩ := h
  refine ⟨⟨m1, m2, m3, m4, m5, m6, m7⟩, g2, fun k hk => ?_, g4, g5⟩
  have e := g3 k hk
  by_cases q : k = 32
  · rw [q, gA_A32]
    show upd (gA s 32) c v = upd w c v
    rw [g3 32 (by decide), gA_A32]
  · rw [gA_sAn _ _ q, e, gA_sAA, gA_sAA, if_neg q, if_neg q]
theorem FR_A32 (m0 : MS) (w : Nat → Int32) : FR m0 (sAA m0 32 w) := by
  refine ⟨fun k hk => ?_, rfl, rfl⟩
  rw [gA_sAA, if_neg (fun e => by rw [e] at hk; exact absurd hk (by decide))]
theorem mR_A32 {A : AT} {m0 : MS} (h : mR A m0) (w : Nat → Int32) : mR A (sAA m0 32 w) := FR_mR h (FR_A32 m0 w) h.2.2
def cdP (v d : Nat) (w : Nat → Int32) (c : Nat) : Prop := v.testBit c = true ∧ ¬ d.testBit c = true ∧ ¬ w (d ||| 2 ^ c) = 0
theorem hb_t {S : Nat} (hS : S < 4096) {i : Nat} (hi : i < 12) : X11_hasBit (nI S) (nI i) = some (if S.testBit i = true then 1 else 0) := by
  rw [hb_s hS hi]
  by_cases c : S.testBit i = true
  · rw [if_pos c, tb.mpr c]; rfl
  · have : ¬ S / 2 ^ i % 2 = 1 := fun z => c (tb.mp z)
    rw [if_neg c, show S / 2 ^ i % 2 = 0 by omega]; rfl
/-- is there a cell c to go on with -/
theorem any_l {v d : Nat} (hv : v < 4096) (hd : d < 4096) (k57 : MS → Int32 → Int32 → Int32 → Option (Int32 × MS)) (s : MS) (v2 v4 : Int32) : ∀ (n c : Nat) (b : Int32), c + n = 12 → (b = 0 ∨ b = 1) → ∃ r, X11_order_p102 k57 (n + 1) s (nI v) v2 (nI d) v4 b (nI c) = X11_order_p154 k57 s (nI v) v2 (nI d) v4 r ∧ (¬ r = 0 ↔ (b = 1 ∨ ∃ x, c ≤ x ∧ x < 12 ∧ cdP v d (gA s 32) x)) := by
  intro n
  induction n with
  | zero =>
    intro c b e hb
    have e : c = 12 := by omega
    subst e
    refine ⟨b, by rw [X11_order_p102_s, if_pos n12_t], ?_⟩
    rcases hb with q | q
    · rw [q]
      exact ⟨fun z => absurd rfl z, fun z => z.elim (fun y => absurd y (by decide)) (fun ⟨x, h1, h2, _⟩ => by omega)⟩
    · rw [q]
      exact ⟨fun _ => Or.inl rfl, fun _ => n10⟩
  | succ n ih =>
    intro c b e hb
    have hc : c < 12 := by omega
    obtain ⟨d1, d2⟩ := dif_s hv hd
    obtain ⟨o1, o2⟩ := or_s hd (p2_12 c hc)
    have eb : (1 : Int32) <<< (nI c &&& 31) = nI (2 ^ c) := bi_n c hc
    have b1 : ∀ b : Int32, b = 1 → ∃ r, X11_order_p102 k57 (n + 1) s (nI v) v2 (nI d) v4 b (nI (c + 1)) = X11_order_p154 k57 s (nI v) v2 (nI d) v4 r ∧ ¬ r = 0 := fun b e => by
      obtain ⟨r, r1, r2⟩ := ih (c + 1) b (by omega) (Or.inr e)
      exact ⟨r, r1, r2.mpr (Or.inl e)⟩
    rw [X11_order_p102_s, if_neg (n12_f hc), d1, hb_t d2 hc, bd1_s, eb, o1, inr_i o2, nI_cl o2]
    unfold X11_order_p145 X11_order_p141 X11_order_p146
    rcases hb with q | q
    · rw [if_pos q]
      by_cases t : (dif v d).testBit c = true
      · obtain ⟨t1, t2⟩ := (tb_dif hc).mp t
        rw [if_pos t, if_neg n10]
        by_cases g : gA s 32 (d ||| 2 ^ c) = 0
        · rw [if_pos g, nm_s, nI_1]
          obtain ⟨r, r1, r2⟩ := ih (c + 1) 0 (by omega) (Or.inl rfl)
          refine ⟨r, r1, r2.trans ⟨fun z => ?_, fun z => ?_⟩⟩
          · rcases z with y | ⟨x, x1, x2, x3⟩
            · exact absurd y (by decide)
            · exact Or.inr ⟨x, by omega, x2, x3⟩
          · rcases z with y | ⟨x, x1, x2, x3⟩
            · rw [q] at y; exact absurd y (by decide)
            · refine Or.inr ⟨x, ?_, x2, x3⟩
              by_cases y : x = c
              · rw [y] at x3; exact absurd g x3.2.2
              · omega
        · rw [if_neg g, nm_s, nI_1]
          obtain ⟨r, r1, r2⟩ := b1 1 rfl
          exact ⟨r, r1, fun _ => Or.inr ⟨c, Nat.le_refl _, hc, t1, t2, g⟩, fun _ => r2⟩
      · rw [if_neg t, if_pos rfl, nm_s, nI_1]
        obtain ⟨r, r1, r2⟩ := ih (c + 1) 0 (by omega) (Or.inl rfl)
        refine ⟨r, r1, r2.trans ⟨fun z => ?_, fun z => ?_⟩⟩
        · rcases z with y | ⟨x, x1, x2, x3⟩
          · exact absurd y (by decide)
          · exact Or.inr ⟨x, by omega, x2, x3⟩
        · rcases z with y | ⟨x, x1, x2, x3⟩
          · rw [q] at y; exact absurd y (by decide)
          · refine Or.inr ⟨x, ?_, x2, x3⟩
            by_cases y : x = c
            · rw [y] at x3; exact absurd ((tb_dif hc).mpr ⟨x3.1, x3.2.1⟩) t
            · omega
    · rw [if_neg (show ¬ b = 0 by rw [q]; exact n10), nm_s, nI_1]
      obtain ⟨r, r1, r2⟩ := b1 1 rfl
      exact ⟨r, r1, fun _ => Or.inl q, fun _ => r2⟩
/-- the table is right from d on -/
def tabW (A : AT) (v : Nat) (w : Nat → Int32) (n : Nat) : Prop := ∀ d, n ≤ d → d < 4096 → (∀ c, c < 12 → d.testBit c = true → v.testBit c = true) → (¬ w d = 0 ↔ tabP A v d)
theorem sub_le {a b : Nat} (ha : a < 4096) (hb : b < 4096) (h : ∀ c, c < 12 → a.testBit c = true → b.testBit c = true) : a ≤ b := by
  have e : a &&& b = a := tb_eq (Nat.lt_of_le_of_lt Nat.and_le_left ha) ha fun i hi => by
    rw [Nat.testBit_and]
    have := h i hi
    cases x : a.testBit i <;> cases y : b.testBit i <;> simp_all
  rw [← e]
  exact Nat.and_le_right
theorem or_lt {d c : Nat} (hd : d < 4096) (hc : c < 12) (h : ¬ d.testBit c = true) : d < d ||| 2 ^ c := by
  have h1 : d ≤ d ||| 2 ^ c := Nat.left_le_or
  rcases Nat.lt_or_ge d (d ||| 2 ^ c) with g | g
  · exact g
  · have e : d ||| 2 ^ c = d := Nat.le_antisymm g h1
    exact absurd (by rw [← e]; exact tb_or.mpr (Or.inr (tb_p.mpr rfl))) h
theorem table_l {A : AT} (hA : okD A) (hD : aD A = 0) {m0 : MS} (hR : mR A m0) {v : Nat} (hv : v < 4096) (v2 : Int32) (f : Nat) : ∀ (n : Nat) (w : Nat → Int32) (s : MS), n ≤ v → mo A A (sAA m0 32 w) s → tabW A v w n → ∃ w' s', X11_order_p57 (f + n + 1) s (nI v) v2 (nI n + (-1 : Int32)) = X11_order_p181 s' (nI v) v2 ∧ mo A A (sAA m0 32 w') s' ∧ tabW A v w' 0 := by
  intro n
  induction n with
  | zero =>
    intro w s _ ho hw
    exact ⟨w, s, by rw [X11_order_p57_s, if_pos (by decide)], ho, hw⟩
  | succ n ih =>
    intro w s hn ho hw
    have hn4 : n < 4096 := by omega
    obtain ⟨d1, d2⟩ := dif_s hn4 hv
    have st0 : stD A 0 := stD_0 (by
      have e := hA.2
      rw [hD] at e
      by_cases c : aFall A (aM A) = -4
      · exact c
      · rw [if_neg c] at e; exact absurd e (by decide))
    rw [show f + (n + 1) + 1 = (f + n + 1) + 1 from rfl, pk_m1, X11_order_p57_s, if_neg (nI_pos (by omega)), d1]
    unfold X11_order_p175
    by_cases z : dif n v = 0
    · have hs : ∀ c, c < 12 → n.testBit c = true → v.testBit c = true := fun c hc q => by
        by_cases y : v.testBit c = true
        · exact y
        · have := (tb_dif hc).mpr ⟨q, y⟩
          rw [z, Nat.zero_testBit] at this
          exact absurd this (by decide)
      obtain ⟨s1, e1, o1⟩ := mo_cutAll ho hn4
      obtain ⟨s2, e2, o2, _⟩ := mo_cl o1 hA.1.L hA.D
      have g32 : gA s2 32 = w := by rw [o2.2.2.1 32 (by decide), gA_A32]
      have fin : ∀ (t0 : Int32), (¬ t0 = 0 ↔ stD A n) → ∃ w' s', X11_order_p90 (fun st v1 v2 v3 => X11_order_p57 (f + n + 1) st v1 v2 v3) s1 (nI v) v2 (nI n) t0 = X11_order_p181 s' (nI v) v2 ∧ mo A A (sAA m0 32 w') s' ∧ tabW A v w' 0 := fun t0 ht => by
        obtain ⟨r, r1, r2⟩ := any_l hv hn4 (fun st v1 v2 v3 => X11_order_p57 (f + n + 1) st v1 v2 v3) s2 v2 t0 12 0 0 (by decide) (Or.inl rfl)
        rw [g32] at r2
        rw [nI_0] at r1
        have key : (¬ t0 = 0 ∧ ¬ r = 0) ↔ tabP A v n := by
          rw [tab_r hA.1 hv hn4 hs (by omega), ht, r2]
          constructor
          · rintro ⟨q1, q2⟩
            refine ⟨q1, ?_⟩
            rcases q2 with y | ⟨x, x1, x2, x3, x4, x5⟩
            · exact absurd y (by decide)
            · refine ⟨x, x2, x3, x4, (hw (n ||| 2 ^ x) (or_lt hn4 x2 x4) (or_s hn4 (p2_12 x x2)).2 (fun c hc q => ?_)).mp x5⟩
              rcases tb_or.mp q with y | y
              · exact hs c hc y
              · rw [tb_p.mp y]; exact x3
          · rintro ⟨q1, x, x2, x3, x4, x5⟩
            refine ⟨q1, Or.inr ⟨x, Nat.zero_le _, x2, x3, x4, (hw (n ||| 2 ^ x) (or_lt hn4 x2 x4) (or_s hn4 (p2_12 x x2)).2 (fun c hc q => ?_)).mpr x5⟩⟩
            rcases tb_or.mp q with y | y
            · exact hs c hc y
            · rw [tb_p.mp y]; exact x3
        have go : ∀ b : Int32, (¬ b = 0 ↔ tabP A v n) → ∃ w' s', X11_order_p57 (f + n + 1) (sA s2 32 n b) (nI v) v2 (nI n + (-1 : Int32)) = X11_order_p181 s' (nI v) v2 ∧ mo A A (sAA m0 32 w') s' ∧ tabW A v w' 0 := fun b hb => by
          refine ih (upd w n b) _ (by omega) (mo_32s o2 n b) (fun d h1 h2 h3 => ?_)
          show ¬ (if d = n then b else w d) = 0 ↔ _
          by_cases y : d = n
          · rw [if_pos y, y]; exact hb
          · rw [if_neg y]; exact hw d (by omega) h2 h3
        unfold X11_order_p90
        rw [e2, bnd_s, r1]
        unfold X11_order_p154 X11_order_p173 X11_order_p174 X11_order_p175
        rw [inr_i hn4, inr_i hn4, nI_cl hn4, nm_s, nm_s, nm_s, nm_s]
        by_cases q1 : t0 = 0
        · rw [if_pos q1]
          exact go 0 ⟨fun y => absurd rfl y, fun y => absurd q1 (key.mpr y).1⟩
        · rw [if_neg q1]
          by_cases q2 : r = 0
          · rw [if_pos q2]
            exact go 0 ⟨fun y => absurd rfl y, fun y => absurd q2 (key.mpr y).2⟩
          · rw [if_neg q2]
            exact go 1 ⟨fun _ => key.mp ⟨q1, q2⟩, fun _ => n10⟩
      rw [z, if_pos nI_0, e1, bnd_s]
      unfold X11_order_p85
      by_cases n0 : n = 0
      · rw [if_pos (show nI n = 0 by rw [n0, nI_0])]
        exact fin 1 ⟨fun _ => by rw [n0]; exact st0, fun _ => n10⟩
      · rw [if_neg (fun y => n0 ((nI_eq (a := n) (b := 0) (by omega) (by decide)).mp (by rw [y, nI_0]))), X11_stands_a (mo_mR o1 (mR_A32 hR w)) (okB_cut hA.1 n), bnd_s]
        by_cases q : aFall (aCut A n) (aM (aCut A n)) = -4
        · rw [if_pos q, if_neg n10]
          exact fin 1 ⟨fun _ => q, fun _ => n10⟩
        · rw [if_neg q, if_pos rfl]
          exact fin 0 ⟨fun y => absurd rfl y, fun y => absurd y q⟩
    · rw [if_neg (fun y => z ((nI_eq (a := dif n v) (b := 0) (by omega) (by decide)).mp (by rw [y, nI_0]))), nm_s]
      refine ih w s (by omega) ho (fun d h1 h2 h3 => ?_)
      by_cases y : d = n
      · exfalso
        refine z (tb_eq d2 (by decide) fun i hi => ?_)
        rw [tb_dif hi, Nat.zero_testBit]
        exact ⟨fun q => absurd (h3 i hi (by rw [y]; exact q.1)) q.2, fun q => absurd q (by decide)⟩
      · exact hw d (by omega) h2 h3
