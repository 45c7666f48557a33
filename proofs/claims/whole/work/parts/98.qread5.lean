/-! all statements read, the reference's side -/
/-- where the q-th statement begins -/
def psN (c : Nat → Int32) : Nat → Nat
  | 0 => 0
  | q + 1 => match rdS c (psN c q) with
    | Sum.inl j => j
    | Sum.inr j => j
theorem psN_r {c : Nat → Int32} {q j : Nat} (h : rdS c (psN c q) = Sum.inr j) : psN c (q + 1) = j := by
  show (match rdS c (psN c q) with | Sum.inl j => j | Sum.inr j => j) = j
  rw [h]
theorem nmP_c {c : Nat → Int32} {x : Int32} {p : Nat} {F F' : Nat → Int32} (e : ∀ t, t < 3 → F' t = F t) (h : nmP c x p F) : nmP c x p F' := by
  obtain ⟨h1, h2, h3, h4, h5⟩ := h
  exact ⟨fun z => (e 0 (by decide)).trans (h1 z), fun z => (e 0 (by decide)).trans (h2 z), fun z => (e 1 (by decide)).trans (h3 z), fun z => (e 1 (by decide)).trans (h4 z), fun z => ⟨(e 1 (by decide)).trans (h5 z).1, (e 2 (by decide)).trans (h5 z).2⟩⟩
theorem okQ_k {c : Nat → Int32} {s s' : MS} {q x i : Nat} (h : okQ c s x i) (k : kS q s s') (hx : x < q) : okQ c s' x i := by
  obtain ⟨h1, h2, h3⟩ := h
  obtain ⟨k1, k2, k3⟩ := k.2.2.2 x hx
  exact ⟨k1.trans h1, k2.trans h2, nmP_c (fun t ht => k3 t ht) h3⟩
def tRes (g : Nat → Int32) (n m q : Nat) (s : MS) : Prop :=
  (∃ j, fuL (chN g n) n m (psN (chN g n) q) = some j ∧ gF s 21 = 1 ∧ gF s 20 = nI j ∧ j ≤ 200) ∨
  (fuL (chN g n) n m (psN (chN g n) q) = none ∧ gF s 21 = 0 ∧ ∃ Q, 0 < Q ∧ Q < 51 ∧ n ≤ psN (chN g n) Q ∧ gF s 22 = nI Q ∧ ∀ x, x < Q → rdS (chN g n) (psN (chN g n) x) = Sum.inr (psN (chN g n) (x + 1)) ∧ (x = 0 ∨ psN (chN g n) x < n) ∧ okQ (chN g n) s x (psN (chN g n) x))
theorem fdL_b (c : Nat → Int32) : ∀ (k i j : Nat), fdL c k i = some j → j < i + k := by
  intro k
  induction k with
  | zero => intro i j h; exact absurd h (by simp [fdL])
  | succ k ih =>
    intro i j h
    have h : (if dgP (c i) then fdL c k (i + 1) else some i) = some j := h
    by_cases q : dgP (c i)
    · rw [if_pos q] at h; have := ih (i + 1) j h; omega
    · rw [if_neg q] at h; injection h with h; omega
theorem rd_b2 {c : Nat → Int32} {i j : Nat} (h : rdS c i = Sum.inl j) : j ≤ i + 6 := by
  unfold rdS at h
  cases e : dN (c i) with
  | none => rw [e] at h; have h : (Sum.inl i : Sum Nat Nat) = Sum.inl j := h; injection h with h; omega
  | some k =>
    have hk := dN_le e
    rw [e] at h
    have h : rdT c i k (fdL c k (i + 1)) = Sum.inl j := h
    cases e2 : fdL c k (i + 1) with
    | some q =>
      have := fdL_b c k (i + 1) q e2
      rw [e2] at h; have h : (Sum.inl q : Sum Nat Nat) = Sum.inl j := h; injection h with h; omega
    | none =>
      rw [e2] at h
      have h : (if c (i + 1 + k) = 59 then Sum.inr (i + k + 2) else Sum.inl (i + 1 + k)) = (Sum.inl j : Sum Nat Nat) := h
      by_cases z : c (i + 1 + k) = 59
      · rw [if_pos z] at h; exact absurd h (by simp)
      · rw [if_neg z] at h; injection h with h; omega
theorem tr_l {d n : Nat} {g : Nat → Int32} (hd : d < 8) (hn : n ≤ 100) (f : Nat) : ∀ (m q : Nat) (s : MS), n ≤ psN (chN g n) q + m → psN (chN g n) q ≤ n → 0 < m → (q = 0 ∨ psN (chN g n) q < n) → 2 * q ≤ psN (chN g n) q → bR d g n s → gF s 21 = 0 → gF s 20 = nI (psN (chN g n) q) → gF s 22 = nI q → (∀ x, x < q → rdS (chN g n) (psN (chN g n) x) = Sum.inr (psN (chN g n) (x + 1)) ∧ (x = 0 ∨ psN (chN g n) x < n) ∧ okQ (chN g n) s x (psN (chN g n) x)) → ∃ s', X11_town_p57 (f + m + 2) s (nI d) = X11_town_p91 s' ∧ kS 0 s s' ∧ bR d g n s' ∧ tRes g n m q s' := by
  intro m
  induction m with
  | zero => intro q s _ _ h0; omega
  | succ m ih =>
    intro q s hm hi _ hq h2 hb h21 h20 h22 hx
    have hp : psN (chN g n) q = psN (chN g n) q := rfl
    obtain ⟨s1, r1, r2, r3, r4, r5, r6⟩ := rs_a hd hn (i := psN (chN g n) q) (q := q) (by omega) (by omega) hb h21 h20 h22
    have rd : X11_town_p57 (f + (m + 1) + 2) s (nI d) = X11_town_p57 (f + m + 2) s1 (nI d) := by
      rw [show f + (m + 1) + 2 = (f + m + 2) + 1 from rfl, X11_town_p57_s, if_pos h21]
      unfold X11_town_p84
      by_cases q0 : q = 0
      · rw [if_pos (show gF s 22 = 0 by rw [h22, q0, nI_0]), r1, bnd_s]
      · rw [if_neg (fun z => q0 ((nI_eq (a := q) (b := 0) (by omega) (by decide)).mp (by rw [← h22, z, nI_0]))), inr_i hd, nI_cl hd, hb.2.1, h20, if_neg (nI_ge (by omega) (by omega)), r1, bnd_s]
    rw [rd]
    have ef : fuL (chN g n) n (m + 1) (psN (chN g n) q) = fuK (fuL (chN g n) n m) n (rdS (chN g n) (psN (chN g n) q)) := rfl
    have k0 : kS 0 s s1 := ⟨r2.1, r2.2.1, r2.2.2.1, fun x hx => absurd hx (Nat.not_lt_zero _)⟩
    unfold tRes
    rw [ef]
    cases e : rdS (chN g n) (psN (chN g n) q) with
    | inl j =>
      rw [e] at r4
      have hj := rd_b2 e
      obtain ⟨h1, h3⟩ : gF s1 21 = 1 ∧ gF s1 20 = nI j := r4
      refine ⟨s1, ?_, k0, r6, Or.inl ⟨j, rfl, h1, h3, by omega⟩⟩
      rw [show f + m + 2 = (f + m + 1) + 1 from rfl, X11_town_p57_s, h1, if_neg n10]
    | inr j =>
      rw [e] at r4
      obtain ⟨h1, h3⟩ : gF s1 21 = 0 ∧ gF s1 20 = nI j := r4
      obtain ⟨l1, l2⟩ := rd_lt e
      have ep := psN_r e
      have hx' : ∀ x, x < q + 1 → rdS (chN g n) (psN (chN g n) x) = Sum.inr (psN (chN g n) (x + 1)) ∧ (x = 0 ∨ psN (chN g n) x < n) ∧ okQ (chN g n) s1 x (psN (chN g n) x) := fun x hxq => by
        by_cases z : x = q
        · subst z
          exact ⟨by rw [e, ep], hq, r5 j e⟩
        · obtain ⟨y1, y2, y3⟩ := hx x (by omega)
          exact ⟨y1, y2, okQ_k y3 r2 (by omega)⟩
      show ∃ s', _ ∧ _ ∧ _ ∧ ((∃ j', (if j < n then fuL (chN g n) n m j else none) = some j' ∧ _) ∨ ((if j < n then fuL (chN g n) n m j else none) = none ∧ _))
      by_cases c : j < n
      · obtain ⟨s2, t1, t2, t3, t4⟩ := ih (q + 1) s1 (by omega) (by omega) (by omega) (Or.inr (by omega)) (by omega) r6 h1 (by rw [h3, ep]) r3 hx'
        unfold tRes at t4
        rw [ep] at t4
        rw [if_pos c]
        exact ⟨s2, t1, k0.tr t2 (Nat.le_refl _), t3, t4⟩
      · rw [if_neg c]
        refine ⟨s1, ?_, k0, r6, Or.inr ⟨rfl, h1, q + 1, by omega, by omega, by omega, r3, hx'⟩⟩
        rw [show f + m + 2 = (f + m + 1) + 1 from rfl, X11_town_p57_s, if_pos h1, if_neg (fun z => absurd ((nI_eq (a := q + 1) (b := 0) (by omega) (by decide)).mp (by rw [← r3, z, nI_0])) (by omega)), inr_i hd, nI_cl hd, r6.2.1, h3, if_pos (nI_le (by omega) (by omega))]
