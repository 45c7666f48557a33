/-! a row's letters, both sides -/
/-- how many digits stand behind a letter -/
def dN (x : Int32) : Option Nat := if x = 97 then some 2 else if x = 99 then some 4 else if x = 102 then some 0 else if x = 103 then some 3 else if x = 104 then some 3 else if x = 108 then some 4 else if x = 110 then some 2 else if x = 111 then some 5 else if x = 119 then some 4 else none
def dNv : Option Nat → Int32
  | none => -4
  | some k => nI k
def dNl : Option Nat → Int32
  | none => 0
  | some _ => 1
theorem dN_s (x : Int32) : X10_digitsBehind x = some (dNv (dN x)) := by
  by_cases h97 : x = 97
  · subst h97; rfl
  by_cases h98 : x = 98
  · subst h98; rfl
  by_cases h99 : x = 99
  · subst h99; rfl
  by_cases h100 : x = 100
  · subst h100; rfl
  by_cases h101 : x = 101
  · subst h101; rfl
  by_cases h102 : x = 102
  · subst h102; rfl
  by_cases h103 : x = 103
  · subst h103; rfl
  by_cases h104 : x = 104
  · subst h104; rfl
  by_cases h105 : x = 105
  · subst h105; rfl
  by_cases h106 : x = 106
  · subst h106; rfl
  by_cases h107 : x = 107
  · subst h107; rfl
  by_cases h108 : x = 108
  · subst h108; rfl
  by_cases h109 : x = 109
  · subst h109; rfl
  by_cases h110 : x = 110
  · subst h110; rfl
  by_cases h111 : x = 111
  · subst h111; rfl
  by_cases h112 : x = 112
  · subst h112; rfl
  by_cases h113 : x = 113
  · subst h113; rfl
  by_cases h114 : x = 114
  · subst h114; rfl
  by_cases h115 : x = 115
  · subst h115; rfl
  by_cases h116 : x = 116
  · subst h116; rfl
  by_cases h117 : x = 117
  · subst h117; rfl
  by_cases h118 : x = 118
  · subst h118; rfl
  by_cases h119 : x = 119
  · subst h119; rfl
  unfold X10_digitsBehind dN
  rw [if_neg h97, if_neg h98, if_neg h99, if_neg h100, if_neg h101, if_neg h102, if_neg h103, if_neg h104, if_neg h105, if_neg h106, if_neg h107, if_neg h108, if_neg h109, if_neg h110, if_neg h111, if_neg h112, if_neg h113, if_neg h114, if_neg h115, if_neg h116, if_neg h117, if_neg h118, if_neg h119, if_neg h97, if_neg h99, if_neg h102, if_neg h103, if_neg h104, if_neg h108, if_neg h110, if_neg h111, if_neg h119]
  rfl
theorem dN_l (x : Int32) : X11_isLetter x = some (dNl (dN x)) := by
  by_cases h97 : x = 97
  · subst h97; rfl
  by_cases h99 : x = 99
  · subst h99; rfl
  by_cases h102 : x = 102
  · subst h102; rfl
  by_cases h103 : x = 103
  · subst h103; rfl
  by_cases h104 : x = 104
  · subst h104; rfl
  by_cases h108 : x = 108
  · subst h108; rfl
  by_cases h110 : x = 110
  · subst h110; rfl
  by_cases h111 : x = 111
  · subst h111; rfl
  by_cases h119 : x = 119
  · subst h119; rfl
  unfold X11_isLetter X11_isLetter_p59 dN
  rw [if_neg h99, if_neg h108, if_neg h119, if_neg h103, if_neg h104, if_neg h97, if_neg h111, if_neg h102, if_neg h110, if_neg h97, if_neg h99, if_neg h102, if_neg h103, if_neg h104, if_neg h108, if_neg h110, if_neg h111, if_neg h119, gz_0]
  rfl
theorem dN_le {x : Int32} {k : Nat} (h : dN x = some k) : k ≤ 5 := by
  by_cases h97 : x = 97
  · subst h97; have h : some 2 = some k := h; injection h with h; omega
  by_cases h99 : x = 99
  · subst h99; have h : some 4 = some k := h; injection h with h; omega
  by_cases h102 : x = 102
  · subst h102; have h : some 0 = some k := h; injection h with h; omega
  by_cases h103 : x = 103
  · subst h103; have h : some 3 = some k := h; injection h with h; omega
  by_cases h104 : x = 104
  · subst h104; have h : some 3 = some k := h; injection h with h; omega
  by_cases h108 : x = 108
  · subst h108; have h : some 4 = some k := h; injection h with h; omega
  by_cases h110 : x = 110
  · subst h110; have h : some 2 = some k := h; injection h with h; omega
  by_cases h111 : x = 111
  · subst h111; have h : some 5 = some k := h; injection h with h; omega
  by_cases h119 : x = 119
  · subst h119; have h : some 4 = some k := h; injection h with h; omega
  unfold dN at h
  rw [if_neg h97, if_neg h99, if_neg h102, if_neg h103, if_neg h104, if_neg h108, if_neg h110, if_neg h111, if_neg h119] at h
  exact absurd h (by simp)
/-- the j-th number of a row of n, 0 beyond -/
def chN (g : Nat → Int32) (n j : Nat) : Int32 := if j < n then g j else 0
abbrev dgP (x : Int32) : Prop := ¬ x < 48 ∧ ¬ 57 < x
/-- the first that is no digit, of k from i on -/
def fdL (c : Nat → Int32) : Nat → Nat → Option Nat
  | 0, _ => none
  | k + 1, i => if dgP (c i) then fdL c k (i + 1) else some i
/-- a statement from i on: Sum.inl the first unread; Sum.inr where the next begins -/
def rdT (c : Nat → Int32) (i k : Nat) : Option Nat → Sum Nat Nat
  | some j => Sum.inl j
  | none => if c (i + 1 + k) = 59 then Sum.inr (i + k + 2) else Sum.inl (i + 1 + k)
def rdK (c : Nat → Int32) (i : Nat) : Option Nat → Sum Nat Nat
  | none => Sum.inl i
  | some k => rdT c i k (fdL c k (i + 1))
def rdS (c : Nat → Int32) (i : Nat) : Sum Nat Nat := rdK c i (dN (c i))
def fuK (fu : Nat → Option Nat) (n : Nat) : Sum Nat Nat → Option Nat
  | Sum.inl j => some j
  | Sum.inr j => if j < n then fu j else none
/-- the first unread of a row of n, from i on -/
def fuL (c : Nat → Int32) (n : Nat) : Nat → Nat → Option Nat
  | 0, _ => none
  | m + 1, i => fuK (fuL c n m) n (rdS c i)
def fuV : Option Nat → Int32
  | none => -4
  | some j => nI j
theorem X7_at_c {n : Nat} (hn : n ≤ 100) (st : MS) {j : Nat} (hj : j < 1000) : X7_at n st (nI j) = some (chN (gA st 1) n j, st) := by
  unfold chN
  by_cases c : j < n
  · rw [if_pos c]; exact X7_at_t hn st c
  · rw [if_neg c]
    exact X7_at_f hn st (fun ⟨i, hi, e⟩ => c (by rw [(nI_eq (by omega) (by omega)).mp e]; exact hi))
theorem X7_isDigit_c {n : Nat} (hn : n ≤ 100) (st : MS) {j : Nat} (hj : j < 1000) : X7_isDigit n st (nI j) = some ((if dgP (chN (gA st 1) n j) then 1 else 0), st) := by
  unfold X7_isDigit X7_isDigit_p25
  rw [X7_at_c hn st hj, bnd_s]
  by_cases a : chN (gA st 1) n j < 48
  · rw [if_pos a, if_neg (fun z => z.1 a), gz_0]
  · rw [if_neg a, X7_at_c hn st hj, bnd_s]
    by_cases b : 57 < chN (gA st 1) n j
    · rw [if_pos b, if_neg (fun z => z.2 b), gz_0]
    · rw [if_neg b, if_pos ⟨a, b⟩, gz_1]
theorem rd_lt {g : Nat → Int32} {n i j : Nat} (h : rdS (chN g n) i = Sum.inr j) : i + 2 ≤ j ∧ j ≤ n := by
  unfold rdS at h
  cases e : dN (chN g n i) with
  | none => rw [e] at h; exact absurd h (by simp [rdK])
  | some k =>
    rw [e] at h
    have h : rdT (chN g n) i k (fdL (chN g n) k (i + 1)) = Sum.inr j := h
    cases e2 : fdL (chN g n) k (i + 1) with
    | some q => rw [e2] at h; exact absurd h (by simp [rdT])
    | none =>
      rw [e2] at h
      have h : (if chN g n (i + 1 + k) = 59 then Sum.inr (i + k + 2) else Sum.inl (i + 1 + k)) = (Sum.inr j : Sum Nat Nat) := h
      by_cases c : chN g n (i + 1 + k) = 59
      · rw [if_pos c] at h
        injection h with h
        have : i + 1 + k < n := by
          by_cases q : i + 1 + k < n
          · exact q
          · unfold chN at c
            rw [if_neg q] at c
            exact absurd c (by decide)
        omega
      · rw [if_neg c] at h
        exact absurd h (by simp)
theorem fu_d {xs : XS} {d n : Nat} {st : MS} (h : xR xs d = some (n, st)) (hn : n ≤ 100) (k2 : XS → Nat → Int32 → Option (Int32 × XS)) {kk : Nat} (hkk : kk < 900) (f : Nat) : ∀ (m k i : Nat), k + m = kk → i + m < 900 → X10_firstUnread_p24 k2 (f + m + 1) xs d (nI i) (nI kk) (nI k) = (match fdL (chN (gA st 1) n) m i with | some j => some (nI j, xs) | none => X10_firstUnread_p48 k2 xs d (nI (i + m))) := by
  intro m
  induction m with
  | zero =>
    intro k i e _
    have e : k = kk := by omega
    subst e
    rw [X10_firstUnread_p24_s, if_pos (Int32.le_refl _)]
    rfl
  | succ m ih =>
    intro k i e hi
    rw [show f + (m + 1) + 1 = (f + m + 1) + 1 from rfl, X10_firstUnread_p24_s, if_neg (nI_ge (by omega) (by omega)), h, bd1_s, X7_isDigit_c hn st (by omega), bnd_s, uR_id h, nm_s xs]
    by_cases q : dgP (chN (gA st 1) n i)
    · have e2 : fdL (chN (gA st 1) n) (m + 1) i = fdL (chN (gA st 1) n) m (i + 1) := if_pos q
      rw [if_pos q, if_neg n10, nm_s, nm_s, nI_1, nI_1, e2, show i + (m + 1) = i + 1 + m by omega]
      exact ih (k + 1) (i + 1) (by omega) (by omega)
    · have e2 : fdL (chN (gA st 1) n) (m + 1) i = some i := if_neg q
      rw [if_neg q, if_pos rfl, e2]
      rfl
theorem fu_l {xs : XS} {d n : Nat} {st : MS} (h : xR xs d = some (n, st)) (hn : n ≤ 100) (f : Nat) : ∀ (m i : Nat), n ≤ i + m → i ≤ n → 0 < m → X10_firstUnread_p2 (f + m + 1) xs d (nI i) = some (fuV (fuL (chN (gA st 1) n) n m i), xs) := by
  intro m
  induction m with
  | zero => intro i _ _ h0; omega
  | succ m ih =>
    intro i hm hi _
    rw [show f + (m + 1) + 1 = (f + m + 1) + 1 from rfl, X10_firstUnread_p2_s, h, bd1_s, X7_at_c hn st (by omega), bnd_s, uR_id h, nm_s xs, dN_s, bd1_s]
    show _ = some (fuV (fuK (fuL (chN (gA st 1) n) n m) n (rdS (chN (gA st 1) n) i)), xs)
    have lt := @rd_lt (gA st 1) n i
    unfold rdS at lt ⊢
    cases e : dN (chN (gA st 1) n i) with
    | none =>
      rw [show dNv none = (-4 : Int32) from rfl, if_pos rfl]
      rfl
    | some k =>
      have hk := dN_le e
      rw [e] at lt
      rw [show dNv (some k) = nI k from rfl, if_neg (nI_z (by omega)), nm_s, nI_1]
      have fd := fu_d h hn (fun xs v0 v1 => X10_firstUnread_p2 (f + m + 1) xs v0 v1) (kk := k) (by omega) (4999 - k) k 0 (i + 1) (by omega) (by omega)
      rw [show 4999 - k + k + 1 = 5000 by omega, nI_0] at fd
      rw [fd]
      have lt : ∀ {j : Nat}, rdT (chN (gA st 1) n) i k (fdL (chN (gA st 1) n) k (i + 1)) = Sum.inr j → i + 2 ≤ j ∧ j ≤ n := lt
      show _ = some (fuV (fuK (fuL (chN (gA st 1) n) n m) n (rdT (chN (gA st 1) n) i k (fdL (chN (gA st 1) n) k (i + 1)))), xs)
      cases e2 : fdL (chN (gA st 1) n) k (i + 1) with
      | some j => rfl
      | none =>
        rw [e2] at lt
        show X10_firstUnread_p48 _ xs d (nI (i + 1 + k)) = some (fuV (fuK (fuL (chN (gA st 1) n) n m) n (if chN (gA st 1) n (i + 1 + k) = 59 then Sum.inr (i + k + 2) else Sum.inl (i + 1 + k))), xs)
        unfold X10_firstUnread_p48 X10_firstUnread_p58
        rw [h, bd1_s, X7_at_c hn st (by omega), bnd_s, uR_id h, nm_s xs]
        by_cases c : chN (gA st 1) n (i + 1 + k) = 59
        · have l2 := lt (j := i + k + 2) (if_pos c)
          rw [if_pos c, if_pos c, nm_s, nI_1, h, bd1_s]
          unfold X7_size
          rw [bnd_s, uR_id h, nm_s xs, show i + 1 + k + 1 = i + k + 2 by omega]
          show _ = some (fuV (if i + k + 2 < n then fuL (chN (gA st 1) n) n m (i + k + 2) else none), xs)
          by_cases q : i + k + 2 < n
          · rw [if_pos (nI_lt q (by omega)), if_pos q]
            exact ih (i + k + 2) (by omega) (by omega) (by omega)
          · rw [if_neg (nI_nlt (by omega) (by omega)), if_neg q]
            rfl
        · rw [if_neg c, if_neg c]
          rfl
