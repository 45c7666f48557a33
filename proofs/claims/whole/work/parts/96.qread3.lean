/-! a statement read, the reference's side -/
theorem fdL_add (c : Nat → Int32) : ∀ (a b i : Nat), fdL c (a + b) i = orB (fdL c a i) (fdL c b (i + a)) := by
  intro a
  induction a with
  | zero => intro b i; rw [Nat.zero_add]; rfl
  | succ a ih =>
    intro b i
    rw [show a + 1 + b = (a + b) + 1 by omega]
    show (if dgP (c i) then fdL c (a + b) (i + 1) else some i) = orB (if dgP (c i) then fdL c a (i + 1) else some i) (fdL c b (i + (a + 1)))
    by_cases q : dgP (c i)
    · rw [if_pos q, if_pos q, ih b (i + 1), show i + 1 + a = i + (a + 1) by omega]
    · rw [if_neg q, if_neg q]; rfl
def kI (idx : Nat) (s s' : MS) : Prop := (∀ k, k ≠ 20 → k ≠ 21 → gF s' k = gF s k) ∧ (∀ k, k ≠ 25 → gA s' k = gA s k) ∧ (∀ k, gL s' k = gL s k) ∧ (∀ x, x < idx → gA s' 25 x = gA s 25 x)
theorem kI.tr {i j : Nat} {a b c : MS} (h : kI i a b) (g : kI j b c) (hij : i ≤ j) : kI i a c := ⟨fun k h1 h2 => (g.1 k h1 h2).trans (h.1 k h1 h2), fun k h1 => (g.2.1 k h1).trans (h.2.1 k h1), fun k => (g.2.2.1 k).trans (h.2.2.1 k), fun x hx => (g.2.2.2 x (by omega)).trans (h.2.2.2 x hx)⟩
theorem kI.rf {i : Nat} {s : MS} : kI i s s := ⟨fun _ _ _ => rfl, fun _ _ => rfl, fun _ => rfl, fun _ _ => rfl⟩
theorem kI_k {i : Nat} {s s' : MS} (h : kR s s') : kI i s s' := ⟨h.1, fun k _ => h.2.1 k, h.2.2, fun x _ => by rw [h.2.1]⟩
theorem bR_i {d n idx : Nat} {g : Nat → Int32} {s s' : MS} (h : bR d g n s) (k : kI idx s s') : bR d g n s' := ⟨(k.1 19 (by decide) (by decide)).trans h.1, by rw [k.2.1 15 (by decide)]; exact h.2.1, fun j hj => by rw [k.2.2.1]; exact h.2.2 j hj⟩
/-- some digits read and kept -/
theorem stp {d n : Nat} {g : Nat → Int32} (hd : d < 8) (hn : n ≤ 100) {kk i : Nat} (hkk : kk < 100) (hi : i < 800) {o : Option Nat} {s : MS} (hb : bR d g n s) (hs : St s o i) {w u : Int32} (hw : w = nI kk) {idx : Nat} (hu : u = nI idx) (hx : idx < 153) : ∃ s', (∀ K : MS → Option (Unit × MS), (bnd (X11_readDigits s w) fun y st => inr u 153 <| nm (sA st 25 u.toNatClampNeg y) K) = K s') ∧ kI idx s s' ∧ St s' (orB o (fdL (chN g n) kk i)) (i + kk) ∧ (orB o (fdL (chN g n) kk i) = none → gA s' 25 idx = numF (chN g n) kk i 0) ∧ bR d g n s' := by
  obtain ⟨v, s1, r1, r2, r3, r4⟩ := rd_a hd hn hkk hi hb hs
  subst hw
  subst hu
  have k2 : kI idx s (sA s1 25 idx v) := by
    refine ⟨r2.1, fun k hk => ?_, r2.2.2, fun x hxx => ?_⟩
    · rw [gA_sAn _ _ hk]; exact r2.2.1 k
    · rw [gA_sA, if_pos rfl, if_neg (by omega), r2.2.1]
  refine ⟨sA s1 25 idx v, fun K => ?_, k2, ?_, fun z => ?_, bR_i hb k2⟩
  · rw [r1, bnd_s, inr_i hx, nI_cl hx, nm_s]
  · cases e : orB o (fdL (chN g n) kk i) with
    | none => rw [e] at r3; exact r3
    | some j => rw [e] at r3; exact r3
  · rw [gA_sA, if_pos rfl, if_pos rfl]
    exact r4 z
/-- the numbers behind a letter x at p -/
def nmP (c : Nat → Int32) (x : Int32) (p : Nat) (F : Nat → Int32) : Prop :=
  (x = 97 ∨ x = 99 ∨ x = 108 ∨ x = 110 ∨ x = 111 ∨ x = 119 → F 0 = numF c 2 p 0) ∧ (x = 103 ∨ x = 104 → F 0 = numF c 3 p 0) ∧ (x = 108 ∨ x = 119 → F 1 = numF c 2 (p + 2) 0) ∧ (x = 111 → F 1 = numF c 3 (p + 2) 0) ∧ (x = 99 → F 1 = numF c 1 (p + 2) 0 ∧ F 2 = numF c 1 (p + 3) 0)
theorem orB_n {a b : Option Nat} (h : orB a b = none) : a = none ∧ b = none := by
  cases a with
  | none => exact ⟨rfl, h⟩
  | some j => exact absurd h (by simp [orB])
theorem n_ne {a b : Int32} (h : decide (a = b) = false) : ¬ a = b := of_decide_eq_false h
theorem rn_1 {d n : Nat} {g : Nat → Int32} (hd : d < 8) (hn : n ≤ 100) {p q : Nat} (hp : p < 300) (hq : q < 51) {s : MS} (hb : bR d g n s) (hs : St s none p) {x : Int32} {kk : Nat} (hkk : kk < 100) (hx : (kk = 2 ∧ (x = 97 ∨ x = 110)) ∨ (kk = 3 ∧ (x = 103 ∨ x = 104))) : ∃ s', X11_readNumbers s x (nI (3 * q)) = some ((), s') ∧ kI (3 * q) s s' ∧ St s' (fdL (chN g n) kk p) (p + kk) ∧ (fdL (chN g n) kk p = none → nmP (chN g n) x p (fun t => gA s' 25 (3 * q + t))) ∧ bR d g n s' := by
  rcases hx with ⟨e, hx⟩ | ⟨e, hx⟩
  · subst e
    obtain ⟨s1, a1, a2, a3, a4, a5⟩ := stp hd hn (kk := 2) (by decide) (by omega) hb hs (w := 2) rfl (idx := 3 * q) rfl (by omega)
    rcases hx with hx | hx <;> subst hx <;> refine ⟨s1, ?_, a2, a3, fun z => ⟨fun _ => a4 z, fun h => ?_, fun h => ?_, fun h => ?_, fun h => ?_⟩, a5⟩
    · unfold X11_readNumbers
      rw [if_pos rfl, a1]
      rfl
    · exact absurd h (by decide)
    · exact absurd h (by decide)
    · exact absurd h (by decide)
    · exact absurd h (by decide)
    · have e : X11_readNumbers s 110 (nI (3 * q)) = (bnd (X11_readDigits s 2) fun y st => inr (nI (3 * q)) 153 <| nm (sA st 25 (nI (3 * q)).toNatClampNeg y) fun st_6 => X11_readNumbers_p230 st_6) := rfl
      rw [e, a1]
      rfl
    · exact absurd h (by decide)
    · exact absurd h (by decide)
    · exact absurd h (by decide)
    · exact absurd h (by decide)
  · subst e
    obtain ⟨s1, a1, a2, a3, a4, a5⟩ := stp hd hn (kk := 3) (by decide) (by omega) hb hs (w := 3) rfl (idx := 3 * q) rfl (by omega)
    rcases hx with hx | hx <;> subst hx <;> refine ⟨s1, ?_, a2, a3, fun z => ⟨fun h => ?_, fun _ => a4 z, fun h => ?_, fun h => ?_, fun h => ?_⟩, a5⟩
    · have e : X11_readNumbers s 103 (nI (3 * q)) = (bnd (X11_readDigits s 3) fun y st => inr (nI (3 * q)) 153 <| nm (sA st 25 (nI (3 * q)).toNatClampNeg y) fun st_6 => X11_readNumbers_p230 st_6) := rfl
      rw [e, a1]
      rfl
    · exact absurd h (by decide)
    · exact absurd h (by decide)
    · exact absurd h (by decide)
    · exact absurd h (by decide)
    · have e : X11_readNumbers s 104 (nI (3 * q)) = (bnd (X11_readDigits s 3) fun y st => inr (nI (3 * q)) 153 <| nm (sA st 25 (nI (3 * q)).toNatClampNeg y) fun st_6 => X11_readNumbers_p230 st_6) := rfl
      rw [e, a1]
      rfl
    · exact absurd h (by decide)
    · exact absurd h (by decide)
    · exact absurd h (by decide)
    · exact absurd h (by decide)
theorem rn_2 {d n : Nat} {g : Nat → Int32} (hd : d < 8) (hn : n ≤ 100) {p q : Nat} (hp : p < 300) (hq : q < 51) {s : MS} (hb : bR d g n s) (hs : St s none p) {x : Int32} {kk : Nat} (hkk : kk < 100) (w : Int32) (hw : w = nI kk) (hx : (kk = 2 ∧ (x = 108 ∨ x = 119)) ∨ (kk = 3 ∧ x = 111)) (e : X11_readNumbers s x (nI (3 * q)) = (bnd (X11_readDigits s 2) fun y st => inr (nI (3 * q)) 153 <| nm (sA st 25 (nI (3 * q)).toNatClampNeg y) fun st_6 => bnd (X11_readDigits st_6 w) fun y st => inr (nI (3 * q) + 1) 153 <| nm (sA st 25 (nI (3 * q) + 1).toNatClampNeg y) fun st_6 => X11_readNumbers_p230 st_6)) : ∃ s', X11_readNumbers s x (nI (3 * q)) = some ((), s') ∧ kI (3 * q) s s' ∧ St s' (fdL (chN g n) (2 + kk) p) (p + (2 + kk)) ∧ (fdL (chN g n) (2 + kk) p = none → nmP (chN g n) x p (fun t => gA s' 25 (3 * q + t))) ∧ bR d g n s' := by
  obtain ⟨s1, a1, a2, a3, a4, a5⟩ := stp hd hn (kk := 2) (by decide) (by omega) hb hs (w := 2) rfl (idx := 3 * q) rfl (by omega)
  obtain ⟨s2, b1, b2, b3, b4, b5⟩ := stp hd hn (kk := kk) hkk (by omega) a5 a3 (w := w) hw (idx := 3 * q + 1) (u := nI (3 * q) + 1) (nI_1 _) (by omega)
  refine ⟨s2, ?_, a2.tr b2 (by omega), ?_, fun z => ?_, b5⟩
  · rw [e, a1, b1]
    rfl
  · rw [fdL_add, show p + (2 + kk) = p + 2 + kk by omega]
    exact b3
  · rw [fdL_add] at z
    have z1 := (orB_n z).1
    have f0 : gA s2 25 (3 * q) = numF (chN g n) 2 p 0 := by rw [b2.2.2.2 (3 * q) (by omega)]; exact a4 z1
    have f1 := b4 z
    rcases hx with ⟨ek, hx⟩ | ⟨ek, hx⟩
    · subst ek
      refine ⟨fun _ => f0, fun h => ?_, fun _ => f1, fun h => ?_, fun h => ?_⟩ <;> rcases hx with hx | hx <;> subst hx
      · exact absurd h (by decide)
      · exact absurd h (by decide)
      · exact absurd h (by decide)
      · exact absurd h (by decide)
      · exact absurd h (by decide)
      · exact absurd h (by decide)
    · subst ek
      subst hx
      exact ⟨fun _ => f0, fun h => absurd h (by decide), fun h => absurd h (by decide), fun _ => f1, fun h => absurd h (by decide)⟩
theorem rn_3 {d n : Nat} {g : Nat → Int32} (hd : d < 8) (hn : n ≤ 100) {p q : Nat} (hp : p < 300) (hq : q < 51) {s : MS} (hb : bR d g n s) (hs : St s none p) : ∃ s', X11_readNumbers s 99 (nI (3 * q)) = some ((), s') ∧ kI (3 * q) s s' ∧ St s' (fdL (chN g n) 4 p) (p + 4) ∧ (fdL (chN g n) 4 p = none → nmP (chN g n) 99 p (fun t => gA s' 25 (3 * q + t))) ∧ bR d g n s' := by
  obtain ⟨s1, a1, a2, a3, a4, a5⟩ := stp hd hn (kk := 2) (by decide) (by omega) hb hs (w := 2) rfl (idx := 3 * q) rfl (by omega)
  obtain ⟨s2, b1, b2, b3, b4, b5⟩ := stp hd hn (kk := 1) (by decide) (by omega) a5 a3 (w := 1) rfl (idx := 3 * q + 1) (u := nI (3 * q) + 1) (nI_1 _) (by omega)
  obtain ⟨s3, c1, c2, c3, c4, c5⟩ := stp hd hn (kk := 1) (by decide) (by omega) b5 b3 (w := 1) rfl (idx := 3 * q + 2) (u := nI (3 * q) + 2) (nI_add _ 2) (by omega)
  have e : X11_readNumbers s 99 (nI (3 * q)) = (bnd (X11_readDigits s 2) fun y st => inr (nI (3 * q)) 153 <| nm (sA st 25 (nI (3 * q)).toNatClampNeg y) fun st_6 => bnd (X11_readDigits st_6 1) fun y st => inr (nI (3 * q) + 1) 153 <| nm (sA st 25 (nI (3 * q) + 1).toNatClampNeg y) fun st_6 => bnd (X11_readDigits st_6 1) fun y st => inr (nI (3 * q) + 2) 153 <| nm (sA st 25 (nI (3 * q) + 2).toNatClampNeg y) fun st_6 => X11_readNumbers_p230 st_6) := rfl
  have ed : fdL (chN g n) 4 p = orB (orB (orB none (fdL (chN g n) 2 p)) (fdL (chN g n) 1 (p + 2))) (fdL (chN g n) 1 (p + 2 + 1)) := by
    rw [show (4 : Nat) = 2 + 1 + 1 from rfl, fdL_add, fdL_add]
    rfl
  refine ⟨s3, ?_, (a2.tr b2 (by omega)).tr c2 (by omega), ?_, fun z => ?_, c5⟩
  · rw [e, a1, b1, c1]
    rfl
  · rw [ed]
    exact c3
  · rw [ed] at z
    have z2 := (orB_n z).1
    have z1 := (orB_n z2).1
    refine ⟨fun _ => ?_, fun h => absurd h (by decide), fun h => absurd h (by decide), fun h => absurd h (by decide), fun _ => ⟨?_, c4 z⟩⟩
    · show gA s3 25 (3 * q) = _
      rw [c2.2.2.2 (3 * q) (by omega), b2.2.2.2 (3 * q) (by omega)]
      exact a4 z1
    · show gA s3 25 (3 * q + 1) = _
      rw [c2.2.2.2 (3 * q + 1) (by omega)]
      exact b4 z2
/-- all numbers behind a letter -/
theorem rn_a {d n : Nat} {g : Nat → Int32} (hd : d < 8) (hn : n ≤ 100) {p q : Nat} (hp : p < 300) (hq : q < 51) {s : MS} (hb : bR d g n s) (hs : St s none p) {x : Int32} {k : Nat} (hx : dN x = some k) : ∃ s', X11_readNumbers s x (nI (3 * q)) = some ((), s') ∧ kI (3 * q) s s' ∧ St s' (fdL (chN g n) k p) (p + k) ∧ (fdL (chN g n) k p = none → nmP (chN g n) x p (fun t => gA s' 25 (3 * q + t))) ∧ bR d g n s' := by
  by_cases h97 : x = 97
  · subst h97; have e : some 2 = some k := hx; injection e with e; subst e
    exact rn_1 hd hn hp hq hb hs (by decide) (Or.inl ⟨rfl, Or.inl rfl⟩)
  by_cases h99 : x = 99
  · subst h99; have e : some 4 = some k := hx; injection e with e; subst e
    exact rn_3 hd hn hp hq hb hs
  by_cases h102 : x = 102
  · subst h102; have e : some 0 = some k := hx; injection e with e; subst e
    exact ⟨s, rfl, kI.rf, hs, fun _ => ⟨fun h => absurd h (by decide), fun h => absurd h (by decide), fun h => absurd h (by decide), fun h => absurd h (by decide), fun h => absurd h (by decide)⟩, hb⟩
  by_cases h103 : x = 103
  · subst h103; have e : some 3 = some k := hx; injection e with e; subst e
    exact rn_1 hd hn hp hq hb hs (by decide) (Or.inr ⟨rfl, Or.inl rfl⟩)
  by_cases h104 : x = 104
  · subst h104; have e : some 3 = some k := hx; injection e with e; subst e
    exact rn_1 hd hn hp hq hb hs (by decide) (Or.inr ⟨rfl, Or.inr rfl⟩)
  by_cases h108 : x = 108
  · subst h108; have e : some 4 = some k := hx; injection e with e; subst e
    exact rn_2 hd hn hp hq hb hs (kk := 2) (by decide) 2 rfl (Or.inl ⟨rfl, Or.inl rfl⟩) rfl
  by_cases h110 : x = 110
  · subst h110; have e : some 2 = some k := hx; injection e with e; subst e
    exact rn_1 hd hn hp hq hb hs (by decide) (Or.inl ⟨rfl, Or.inr rfl⟩)
  by_cases h111 : x = 111
  · subst h111; have e : some 5 = some k := hx; injection e with e; subst e
    exact rn_2 hd hn hp hq hb hs (kk := 3) (by decide) 3 rfl (Or.inr ⟨rfl, rfl⟩) rfl
  by_cases h119 : x = 119
  · subst h119; have e : some 4 = some k := hx; injection e with e; subst e
    exact rn_2 hd hn hp hq hb hs (kk := 2) (by decide) 2 rfl (Or.inl ⟨rfl, Or.inr rfl⟩) rfl
  exfalso
  unfold dN at hx
  rw [if_neg h97, if_neg h99, if_neg h102, if_neg h103, if_neg h104, if_neg h108, if_neg h110, if_neg h111, if_neg h119] at hx
  exact absurd hx (by simp)
