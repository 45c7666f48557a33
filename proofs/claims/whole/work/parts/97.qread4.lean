/-! statement by statement, the reference's side -/
def kS (q : Nat) (s s' : MS) : Prop := (∀ k, k ≠ 20 → k ≠ 21 → k ≠ 22 → gF s' k = gF s k) ∧ (∀ k, k ≠ 23 → k ≠ 24 → k ≠ 25 → gA s' k = gA s k) ∧ (∀ k, gL s' k = gL s k) ∧ (∀ x, x < q → gA s' 23 x = gA s 23 x ∧ gA s' 24 x = gA s 24 x ∧ ∀ t, t < 3 → gA s' 25 (3 * x + t) = gA s 25 (3 * x + t))
theorem kS.tr {i j : Nat} {a b c : MS} (h : kS i a b) (g : kS j b c) (hij : i ≤ j) : kS i a c := ⟨fun k h1 h2 h3 => (g.1 k h1 h2 h3).trans (h.1 k h1 h2 h3), fun k h1 h2 h3 => (g.2.1 k h1 h2 h3).trans (h.2.1 k h1 h2 h3), fun k => (g.2.2.1 k).trans (h.2.2.1 k), fun x hx => ⟨(g.2.2.2 x (by omega)).1.trans (h.2.2.2 x hx).1, (g.2.2.2 x (by omega)).2.1.trans (h.2.2.2 x hx).2.1, fun t ht => ((g.2.2.2 x (by omega)).2.2 t ht).trans ((h.2.2.2 x hx).2.2 t ht)⟩⟩
theorem kS.rf {i : Nat} {s : MS} : kS i s s := ⟨fun _ _ _ _ => rfl, fun _ _ _ _ => rfl, fun _ => rfl, fun _ _ => ⟨rfl, rfl, fun _ _ => rfl⟩⟩
theorem kS_i {q : Nat} {s s' : MS} (h : kI (3 * q) s s') : kS q s s' := ⟨fun k h1 h2 _ => h.1 k h1 h2, fun k _ _ h3 => h.2.1 k h3, h.2.2.1, fun x hx => ⟨by rw [h.2.1 23 (by decide)], by rw [h.2.1 24 (by decide)], fun t ht => h.2.2.2 _ (by omega)⟩⟩
theorem kS_F {q : Nat} (s : MS) {a : Nat} (ha : a = 20 ∨ a = 21 ∨ a = 22) (v : Int32) : kS q s (sF s a v) := ⟨fun k h1 h2 h3 => by rw [gF_sF, if_neg (by omega)], fun _ _ _ _ => rfl, fun _ => rfl, fun _ _ => ⟨rfl, rfl, fun _ _ => rfl⟩⟩
theorem kS_23 (s : MS) (q : Nat) (v : Int32) : kS q s (sA s 23 q v) := ⟨fun _ _ _ _ => rfl, fun k h1 _ _ => gA_sAn _ _ h1, fun _ => rfl, fun x hx => ⟨by rw [gA_sA, if_pos rfl, if_neg (by omega)], by rw [gA_sAn _ _ (by decide)], fun t _ => by rw [gA_sAn _ _ (by decide)]⟩⟩
theorem kS_24 (s : MS) (q : Nat) (v : Int32) : kS q s (sA s 24 q v) := ⟨fun _ _ _ _ => rfl, fun k _ h1 _ => gA_sAn _ _ h1, fun _ => rfl, fun x hx => ⟨by rw [gA_sAn _ _ (by decide)], by rw [gA_sA, if_pos rfl, if_neg (by omega)], fun t _ => by rw [gA_sAn _ _ (by decide)]⟩⟩
theorem bR_s {d n q : Nat} {g : Nat → Int32} {s s' : MS} (h : bR d g n s) (k : kS q s s') : bR d g n s' := ⟨(k.1 19 (by decide) (by decide) (by decide)).trans h.1, by rw [k.2.1 15 (by decide) (by decide) (by decide)]; exact h.2.1, fun j hj => by rw [k.2.2.1]; exact h.2.2 j hj⟩
def SR (q : Nat) (s : MS) : Sum Nat Nat → Prop
  | Sum.inl j => gF s 21 = 1 ∧ gF s 20 = nI j
  | Sum.inr j => gF s 21 = 0 ∧ gF s 20 = nI j
/-- the q-th statement stands read: it begins at i -/
def okQ (c : Nat → Int32) (s : MS) (q i : Nat) : Prop := gA s 23 q = nI i ∧ gA s 24 q = c i ∧ nmP c (c i) (i + 1) (fun t => gA s 25 (3 * q + t))
theorem rs_bad {s : MS} {q : Nat} (h22 : gF s 22 = nI q) {j : Nat} (h20 : gF s 20 = nI j) : ∃ s', X11_readStatement_p103 s = some ((), s') ∧ kS q s s' ∧ gF s' 22 = nI (q + 1) ∧ gF s' 21 = 1 ∧ gF s' 20 = nI j := by
  refine ⟨sF (sF (sF s 21 1) 20 (nI j + 0)) 22 (nI q + 1), ?_, ((kS_F s (Or.inr (Or.inl rfl)) 1).tr (kS_F _ (Or.inl rfl) _) (Nat.le_refl _)).tr (kS_F _ (Or.inr (Or.inr rfl)) _) (Nat.le_refl _), by rw [nI_1]; rfl, rfl, by rw [Int32.add_zero]; rfl⟩
  unfold X11_readStatement_p103 X11_readStatement_p108 X11_readStatement_p128
  rw [gz_1, nm_s, show gF (sF s 21 1) 21 = (1 : Int32) from rfl, if_neg n10, nm_s, nm_s, show gF (sF s 21 1) 20 = gF s 20 from rfl, h20]
  show some ((), sF (sF (sF s 21 1) 20 (nI j + 0)) 22 (gF s 22 + 1)) = _
  rw [h22]
theorem rs_a {d n : Nat} {g : Nat → Int32} (hd : d < 8) (hn : n ≤ 100) {i q : Nat} (hi : i < 200) (hq : q < 51) {s : MS} (hb : bR d g n s) (h21 : gF s 21 = 0) (h20 : gF s 20 = nI i) (h22 : gF s 22 = nI q) : ∃ s', X11_readStatement s = some ((), s') ∧ kS q s s' ∧ gF s' 22 = nI (q + 1) ∧ SR q s' (rdS (chN g n) i) ∧ (∀ j, rdS (chN g n) i = Sum.inr j → okQ (chN g n) s' q i) ∧ bR d g n s' := by
  obtain ⟨c1, c2, c3, c4⟩ := chM_d g n i
  unfold X11_readStatement
  rw [nm_s, here_s hb hd hn (by omega) h20, bnd_s, h22, inr_i hq, nI_cl hq, h20, nm_s, inr_i hq, nm_s, show gF (sA (sA s 23 q (nI i)) 24 q (chM g n i)) 21 = gF s 21 from rfl, if_pos h21, dN_l, bd1_s, c2]
  have k1 : kS q s (sA (sA s 23 q (nI i)) 24 q (chM g n i)) := (kS_23 s q _).tr (kS_24 _ q _) (Nat.le_refl _)
  have b1 : bR d g n (sA (sA s 23 q (nI i)) 24 q (chM g n i)) := bR_s hb k1
  have a23 : gA (sA (sA s 23 q (nI i)) 24 q (chM g n i)) 23 q = nI i := by rw [gA_sAn _ _ (by decide), gA_sA, if_pos rfl, if_pos rfl]
  have a24 : gA (sA (sA s 23 q (nI i)) 24 q (chM g n i)) 24 q = chM g n i := by rw [gA_sA, if_pos rfl, if_pos rfl]
  have f20 : gF (sA (sA s 23 q (nI i)) 24 q (chM g n i)) 20 = nI i := h20
  have f22 : gF (sA (sA s 23 q (nI i)) 24 q (chM g n i)) 22 = nI q := h22
  generalize sA (sA s 23 q (nI i)) 24 q (chM g n i) = s1 at k1 b1 a23 a24 f20 f22 ⊢
  cases e : dN (chN g n i) with
  | none =>
    have er : rdS (chN g n) i = Sum.inl i := by unfold rdS; rw [e]; rfl
    rw [er, show dNl none = (0 : Int32) from rfl, if_pos rfl]
    unfold X11_readStatement_p42 X11_readStatement_p47 X11_readStatement_p67 X11_readStatement_p86
    rw [gz_1, nm_s, show gF (sF s1 21 1) 21 = (1 : Int32) from rfl, if_neg n10, nm_s, show gF (sF (sF s1 21 1) 20 (gF (sF s1 21 1) 20 + 0)) 21 = (1 : Int32) from rfl, if_neg n10, if_neg n10, show gF (sF s1 21 1) 20 = gF s1 20 from rfl, f20]
    have k2 : kS q s1 (sF (sF s1 21 1) 20 (nI i + 0)) := (kS_F s1 (Or.inr (Or.inl rfl)) 1).tr (kS_F _ (Or.inl rfl) _) (Nat.le_refl _)
    obtain ⟨s2, r1, r2, r3, r4, r5⟩ := rs_bad (s := sF (sF s1 21 1) 20 (nI i + 0)) (q := q) f22 (j := i) (by rw [Int32.add_zero]; rfl)
    exact ⟨s2, r1, (k1.tr k2 (Nat.le_refl _)).tr r2 (Nat.le_refl _), r3, ⟨r4, r5⟩, fun j hj => absurd hj (by simp), bR_s (bR_s b1 k2) r2⟩
  | some k =>
    have hk := dN_le e
    have er : rdS (chN g n) i = rdT (chN g n) i k (fdL (chN g n) k (i + 1)) := by unfold rdS; rw [e]; rfl
    rw [er, show dNl (some k) = (1 : Int32) from rfl, if_neg n10]
    have e2 : dN (chM g n i) = some k := c2.trans e
    have hin : i < n := by
      by_cases z : i < n
      · exact z
      · unfold chN at e; rw [if_neg z, show dN 0 = none by decide] at e; exact absurd e (by simp)
    have ecm : chM g n i = chN g n i := by unfold chM chN; rw [if_pos hin, if_pos hin]
    have k2 : kS q s1 (sF (sF s1 21 0) 20 (nI i + 1)) := (kS_F s1 (Or.inr (Or.inl rfl)) 0).tr (kS_F _ (Or.inl rfl) _) (Nat.le_refl _)
    obtain ⟨s2, r1, r2, r3, r4, r5⟩ := rn_a hd hn (p := i + 1) (q := q) (by omega) hq (s := sF (sF s1 21 0) 20 (nI i + 1)) (bR_s b1 k2) ⟨rfl, by rw [nI_1]; rfl⟩ e2
    have k3 := k2.tr (kS_i r2) (Nat.le_refl _)
    have g22 : gF s2 22 = nI q := by rw [r2.1 22 (by decide) (by decide)]; exact f22
    have e3 : (3 : Int32) * nI q = nI (3 * q) := pk_mul 3 q
    unfold X11_readStatement_p47 X11_readStatement_p67
    rw [gz_0, nm_s, show gF (sF s1 21 0) 21 = (0 : Int32) from rfl, if_pos rfl, nm_s, show gF (sF (sF s1 21 0) 20 (gF (sF s1 21 0) 20 + 1)) 21 = (0 : Int32) from rfl, if_pos rfl, show gF (sF s1 21 0) 20 = gF s1 20 from rfl, f20, e3, r1, bnd_s]
    unfold X11_readStatement_p86
    cases e4 : fdL (chN g n) k (i + 1) with
    | some j =>
      rw [e4] at r3
      obtain ⟨h1, h2⟩ : gF s2 21 = 1 ∧ gF s2 20 = nI j := r3
      rw [h1, if_neg n10]
      obtain ⟨s3, t1, t2, t3, t4, t5⟩ := rs_bad g22 h2
      exact ⟨s3, t1, (k1.tr k3 (Nat.le_refl _)).tr t2 (Nat.le_refl _), t3, ⟨t4, t5⟩, fun j hj => absurd hj (by simp [rdT]), bR_s r5 t2⟩
    | none =>
      rw [e4] at r3 r4
      obtain ⟨h1, h2⟩ : gF s2 21 = 0 ∧ gF s2 20 = nI (i + 1 + k) := r3
      obtain ⟨d1, d2, d3, d4⟩ := chM_d g n (i + 1 + k)
      rw [if_pos h1, here_s r5 hd hn (by omega) h2, bnd_s]
      by_cases c : chN g n (i + 1 + k) = 59
      · have et : rdT (chN g n) i k none = Sum.inr (i + k + 2) := if_pos c
        rw [if_pos (d3.mpr c), et]
        have k4 : kS q s2 (sF (sF (sF s2 21 0) 20 (nI (i + 1 + k) + 1)) 22 (nI q + 1)) := ((kS_F s2 (Or.inr (Or.inl rfl)) 0).tr (kS_F _ (Or.inl rfl) _) (Nat.le_refl _)).tr (kS_F _ (Or.inr (Or.inr rfl)) _) (Nat.le_refl _)
        refine ⟨sF (sF (sF s2 21 0) 20 (nI (i + 1 + k) + 1)) 22 (nI q + 1), ?_, (k1.tr k3 (Nat.le_refl _)).tr k4 (Nat.le_refl _), by rw [nI_1 (i + 1 + k), nI_1 q]; rfl, ⟨rfl, by rw [nI_1 (i + 1 + k), show i + 1 + k + 1 = i + k + 2 by omega]; rfl⟩, fun j _ => ⟨?_, ?_, ?_⟩, bR_s r5 k4⟩
        · unfold X11_readStatement_p108 X11_readStatement_p128
          rw [gz_0, nm_s, show gF (sF s2 21 0) 21 = (0 : Int32) from rfl, if_pos rfl, nm_s, nm_s, show gF (sF s2 21 0) 20 = gF s2 20 from rfl, h2]
          show some ((), sF (sF (sF s2 21 0) 20 (nI (i + 1 + k) + 1)) 22 (gF s2 22 + 1)) = _
          rw [g22]
        · show gA s2 23 q = nI i
          rw [r2.2.1 23 (by decide)]
          exact a23
        · show gA s2 24 q = chN g n i
          rw [r2.2.1 24 (by decide), ← ecm]
          exact a24
        · have := r4 rfl
          rw [ecm] at this
          exact this
      · have et : rdT (chN g n) i k none = Sum.inl (i + 1 + k) := if_neg c
        rw [if_neg (fun z => c (d3.mp z)), et]
        obtain ⟨s3, t1, t2, t3, t4, t5⟩ := rs_bad g22 h2
        exact ⟨s3, t1, (k1.tr k3 (Nat.le_refl _)).tr t2 (Nat.le_refl _), t3, ⟨t4, t5⟩, fun j hj => absurd hj (by simp), bR_s r5 t2⟩
