/-! the pure side. First: combinators, small numbers -/
theorem bnd_s {α β γ : Type} (x : α) (s : β) (k : α → β → Option γ) : bnd (some (x, s)) k = k x s := rfl
theorem bd1_s {α γ : Type} (x : α) (k : α → Option γ) : bd1 (some x) k = k x := rfl
theorem nm_s {α β : Type} (x : α) (k : α → β) : nm x k = k x := rfl
theorem ob_n {α γ : Type} (A : Option γ) (B : α → Option γ) : ob none A B = A := rfl
theorem ob_s {α γ : Type} (x : α) (A : Option γ) (B : α → Option γ) : ob (some x) A B = B x := rfl
theorem gz_0 {γ : Type} (X : Option γ) : gz 0 X = X := if_pos (Or.inl rfl)
theorem gz_1 {γ : Type} (X : Option γ) : gz 1 X = X := if_pos (Or.inr rfl)
theorem gz_c {γ : Type} {v : Int32} {X : Option γ} (h : v = 0 ∨ v = 1) : gz v X = X := if_pos h
theorem inr_i {γ : Type} {i n : Nat} {X : Option γ} (h : i < n) (hn : n < 2 ^ 31 := by decide) : inr (nI i) n X = X := if_neg (nI_in h hn)
theorem inr_c {γ : Type} {v : Int32} {n : Nat} {X : Option γ} (h : vp_in v n) : inr v n X = X := if_neg h
theorem nI_cl {i n : Nat} (h : i < n) (hn : n < 2 ^ 31 := by decide) : (nI i).toNatClampNeg = i := nI_clamp (Nat.lt_trans h hn)
theorem dvi_c {γ : Type} {y : Int32} {X : Option γ} (h : ¬ y = 0) : dvi y X = X := if_neg h
theorem dvi_2 {γ : Type} {X : Option γ} : dvi (2 : Int32) X = X := if_neg (by decide)
theorem dvi_3 {γ : Type} {X : Option γ} : dvi (3 : Int32) X = X := if_neg (by decide)
theorem dvi_6 {γ : Type} {X : Option γ} : dvi (6 : Int32) X = X := if_neg (by decide)
theorem dvi_10 {γ : Type} {X : Option γ} : dvi (10 : Int32) X = X := if_neg (by decide)
theorem dvi_12 {γ : Type} {X : Option γ} : dvi (12 : Int32) X = X := if_neg (by decide)
theorem dvi_21 {γ : Type} {X : Option γ} : dvi (21 : Int32) X = X := if_neg (by decide)
theorem dvi_65536 {γ : Type} {X : Option γ} : dvi (65536 : Int32) X = X := if_neg (by decide)
theorem cz_0 : (0 : Int32).toNatClampNeg = 0 := by decide
theorem cz_1 : (1 : Int32).toNatClampNeg = 1 := by decide
theorem cz_2 : (2 : Int32).toNatClampNeg = 2 := by decide
theorem cz_3 : (3 : Int32).toNatClampNeg = 3 := by decide
theorem cz_4 : (4 : Int32).toNatClampNeg = 4 := by decide
theorem cz_5 : (5 : Int32).toNatClampNeg = 5 := by decide
theorem cz_6 : (6 : Int32).toNatClampNeg = 6 := by decide
theorem ic_0 {γ : Type} {X : Option γ} : inr (0 : Int32) 7 X = X := if_neg (by decide)
theorem ic_1 {γ : Type} {X : Option γ} : inr (1 : Int32) 7 X = X := if_neg (by decide)
theorem ic_2 {γ : Type} {X : Option γ} : inr (2 : Int32) 7 X = X := if_neg (by decide)
theorem ic_3 {γ : Type} {X : Option γ} : inr (3 : Int32) 7 X = X := if_neg (by decide)
theorem ic_4 {γ : Type} {X : Option γ} : inr (4 : Int32) 7 X = X := if_neg (by decide)
theorem ic_5 {γ : Type} {X : Option γ} : inr (5 : Int32) 7 X = X := if_neg (by decide)
theorem ic_6 {γ : Type} {X : Option γ} : inr (6 : Int32) 7 X = X := if_neg (by decide)
theorem t_0 : (0 : Int32).toInt = 0 := by decide
theorem i_le {a b : Int32} : a ≤ b ↔ a.toInt ≤ b.toInt := Int32.le_iff_toInt_le
theorem i_lt {a b : Int32} : a < b ↔ a.toInt < b.toInt := Int32.lt_iff_toInt_lt
theorem i_eq {a b : Int32} : a = b ↔ a.toInt = b.toInt := Int32.toInt_inj.symm
theorem n12_f {i : Nat} (h : i < 12) : ¬ (12 : Int32) ≤ nI i := nI_ge (a := i) (b := 12) h (by decide)
theorem n12_t : (12 : Int32) ≤ nI 12 := by decide
theorem n7_f {i : Nat} (h : i < 7) : ¬ (7 : Int32) ≤ nI i := nI_ge (a := i) (b := 7) h (by decide)
theorem n7_t : (7 : Int32) ≤ nI 7 := by decide
theorem n6_f {i : Nat} (h : i < 6) : ¬ (6 : Int32) ≤ nI i := nI_ge (a := i) (b := 6) h (by decide)
theorem n6_t : (6 : Int32) ≤ nI 6 := by decide
theorem nI_z {i : Nat} (h : i < 2 ^ 31) : ¬ nI i = (-4 : Int32) := fun e => by
  have h1 := nI_toInt h
  rw [e] at h1
  have h2 : (-4 : Int32).toInt = -4 := by decide
  omega
/-- a number below n -/
def isN (n : Nat) (v : Int32) : Prop := ∃ i, i < n ∧ v = nI i
theorem isN_f {n : Nat} {v : Int32} (h : ¬ isN n v) (hn : n < 2 ^ 31) : v < 0 ∨ nI n ≤ v := by
  rcases pk_ix v hn with h1 | h1 | ⟨j, hj, e⟩
  · exact Or.inl h1
  · exact Or.inr h1
  · exact absurd ⟨j, hj, e⟩ h
theorem isN_t {n : Nat} {v : Int32} (h1 : ¬ v < 0) (h2 : ¬ nI n ≤ v) (hn : n < 2 ^ 31) : isN n v := by
  rcases pk_ix v hn with g | g | g
  · exact absurd g h1
  · exact absurd g h2
  · exact g
/-! ranges, on both sides -/
theorem X10_isSide_t {v : Int32} (h : isN 12 v) : X10_isSide v = some 1 := by
  obtain ⟨i, hi, rfl⟩ := h
  unfold X10_isSide
  rw [if_neg (nI_pos (by omega)), if_neg (n12_f hi)]
  exact gz_1 _
theorem X10_isSide_f {v : Int32} (h : ¬ isN 12 v) : X10_isSide v = some 0 := by
  unfold X10_isSide
  by_cases h1 : v < 0
  · rw [if_pos h1]; exact gz_0 _
  · rw [if_neg h1]
    rcases isN_f h (by decide) with h2 | h2
    · exact absurd h2 h1
    · rw [if_pos (show (12 : Int32) ≤ v from h2)]; exact gz_0 _
theorem X10_isShelf_t {v : Int32} (h : isN 8 v) : X10_isShelf v = some 1 := by
  obtain ⟨i, hi, rfl⟩ := h
  unfold X10_isShelf
  rw [if_neg (nI_pos (by omega)), if_neg (show ¬ (8 : Int32) ≤ nI i from nI_ge (a := i) (b := 8) hi (by decide))]
  exact gz_1 _
theorem X10_isShelf_f {v : Int32} (h : ¬ isN 8 v) : X10_isShelf v = some 0 := by
  unfold X10_isShelf
  by_cases h1 : v < 0
  · rw [if_pos h1]; exact gz_0 _
  · rw [if_neg h1]
    rcases isN_f h (by decide) with h2 | h2
    · exact absurd h2 h1
    · rw [if_pos (show (8 : Int32) ≤ v from h2)]; exact gz_0 _
theorem l_lt {a b : Int32} : a.toInt64 < b.toInt64 ↔ a < b := by
  rw [Int64.lt_iff_toInt_lt, Int32.toInt_toInt64, Int32.toInt_toInt64, i_lt]
theorem X11_in_s (v lo hi : Int64) : X11_in v lo hi = some (if v < lo ∨ hi < v then 0 else 1) := by
  unfold X11_in
  by_cases h1 : v < lo
  · rw [if_pos ((lg_cmp_lt v lo).mpr h1), if_pos (Or.inl h1)]; exact gz_0 _
  · rw [if_neg (fun g => h1 ((lg_cmp_lt v lo).mp g))]
    by_cases h2 : hi < v
    · rw [if_pos ((lg_cmp_gt v hi).mpr h2), if_pos (Or.inr h2)]; exact gz_0 _
    · rw [if_neg (fun g => h2 ((lg_cmp_gt v hi).mp g)), if_neg (fun g => g.elim h1 h2)]; exact gz_1 _
theorem X11_in_i (v lo hi : Int32) : X11_in v.toInt64 lo.toInt64 hi.toInt64 = some (if v < lo ∨ hi < v then 0 else 1) := by
  rw [X11_in_s]
  simp only [l_lt]
theorem X11_in_t {v lo hi : Int32} {L U : Int64} (eL : lo.toInt64 = L) (eU : hi.toInt64 = U) (h1 : lo ≤ v) (h2 : v ≤ hi) : X11_in v.toInt64 L U = some 1 := by
  subst eL; subst eU
  rw [X11_in_i, if_neg (fun g => g.elim (fun g => Int32.not_lt.mpr h1 g) (fun g => Int32.not_lt.mpr h2 g))]
theorem X11_in_f {v lo hi : Int32} {L U : Int64} (eL : lo.toInt64 = L) (eU : hi.toInt64 = U) (h : v < lo ∨ hi < v) : X11_in v.toInt64 L U = some 0 := by
  subst eL; subst eU
  rw [X11_in_i, if_pos h]
theorem X11_in_n {n : Nat} {v : Int32} {U : Int64} (hn : n + 1 < 2 ^ 31) (eU : (nI n).toInt64 = U) (h : isN (n + 1) v) : X11_in v.toInt64 (0 : Int64) U = some 1 := by
  obtain ⟨i, hi, rfl⟩ := h
  exact X11_in_t (lo := 0) (hi := nI n) (by decide) eU (nI_pos' (by omega)) (nI_le (by omega) (by omega))
theorem X11_in_nf {n : Nat} {v : Int32} {U : Int64} (hn : n + 1 < 2 ^ 31) (eU : (nI n).toInt64 = U) (h : ¬ isN (n + 1) v) : X11_in v.toInt64 (0 : Int64) U = some 0 := by
  refine X11_in_f (lo := 0) (hi := nI n) (by decide) eU ?_
  rcases isN_f h hn with g | g
  · exact Or.inl g
  · refine Or.inr ?_
    rw [i_le, nI_toInt hn] at g
    rw [i_lt, nI_toInt (by omega)]
    omega
theorem X11_isSide_t {v : Int32} (h : isN 12 v) : X11_isSide v = some 1 := by
  unfold X11_isSide
  rw [X11_in_n (n := 11) (by decide) (by decide) h, bd1_s, gz_1]
theorem X11_isSide_f {v : Int32} (h : ¬ isN 12 v) : X11_isSide v = some 0 := by
  unfold X11_isSide
  rw [X11_in_nf (n := 11) (by decide) (by decide) h, bd1_s, gz_0]
/-! what presses, what holds -/
def alk (i j : Nat) : Int32 := cAh i * cAh j + cAs i * cAs j
theorem alk_c (i j : Nat) : alk i j = alk j i := by
  unfold alk
  rw [Int32.mul_comm (cAh i), Int32.mul_comm (cAs i)]
def sumF (f : Nat → Int32) : Nat → Nat → Int32 → Int32
  | 0, _, acc => acc
  | n + 1, i, acc => sumF f n (i + 1) (acc + f i)
theorem sumF_c {f g : Nat → Int32} : ∀ (n i : Nat) (acc : Int32), (∀ j, j < i + n → f j = g j) → sumF f n i acc = sumF g n i acc := by
  intro n
  induction n with
  | zero => intro i acc _; rfl
  | succ n ih =>
    intro i acc h
    show sumF f n (i + 1) (acc + f i) = sumF g n (i + 1) (acc + g i)
    rw [h i (by omega)]
    exact ih (i + 1) _ (fun j hj => h j (by omega))
def hoF (b : Nat → Int32) (s c : Nat) : Int32 := if alk s c ≤ 0 then 0 else b c * alk s c
def hoP (b : Nat → Int32) (s : Nat) : Int32 := sumF (hoF b s) 12 0 0 / 10
def preP (tl : Nat → Int32) (s : Nat) : Int32 := tl 4 + (alk s (tl 0).toNatClampNeg * tl 1 + alk s (tl 2).toNatClampNeg * tl 3) / 10
def lkP (tl b : Nat → Int32) (s : Nat) : Int32 := preP tl s - hoP b s
def bAt (be bu : Nat → Int32) (m : Int32) (c : Nat) : Int32 := if bu c = -4 then be c else if m < bu c then be c else 0
theorem hoP_c {b b' : Nat → Int32} (h : ∀ c, c < 12 → b c = b' c) (s : Nat) : hoP b s = hoP b' s := by
  unfold hoP
  rw [sumF_c 12 0 0 (g := hoF b' s) (fun j hj => by unfold hoF; rw [h j (by omega)])]
theorem preP_c {t t' : Nat → Int32} (h : ∀ i, i < 7 → t i = t' i) (s : Nat) : preP t s = preP t' s := by
  unfold preP
  rw [h 0 (by decide), h 1 (by decide), h 2 (by decide), h 3 (by decide), h 4 (by decide)]
theorem lkP_c {t t' b b' : Nat → Int32} (ht : ∀ i, i < 7 → t i = t' i) (h : ∀ c, c < 12 → b c = b' c) (s : Nat) : lkP t b s = lkP t' b' s := by
  unfold lkP
  rw [preP_c ht s, hoP_c h s]
/-! the greatest lack, where it falls -/
def flL (f : Nat → Int32) : Nat → Nat → Int32 → Int32 → Int32
  | 0, _, fo, _ => fo
  | n + 1, i, fo, mo => if f i ≤ mo then flL f n (i + 1) fo mo else flL f n (i + 1) (nI i) (f i)
def fallF (f : Nat → Int32) : Int32 := flL f 12 0 (-4) 0
def wkL (f : Nat → Int32) : Nat → Nat → Nat → Nat
  | 0, _, b => b
  | n + 1, i, b => if f i ≤ f b then wkL f n (i + 1) b else wkL f n (i + 1) i
def weakF (f : Nat → Int32) : Nat := wkL f 11 1 0
theorem wkL_lt (f : Nat → Int32) {N : Nat} : ∀ n i b : Nat, b < N → i + n ≤ N → wkL f n i b < N := by
  intro n
  induction n with
  | zero => intro i b hb _; exact hb
  | succ n ih =>
    intro i b hb h
    show (if f i ≤ f b then wkL f n (i + 1) b else wkL f n (i + 1) i) < N
    by_cases c : f i ≤ f b
    · rw [if_pos c]; exact ih (i + 1) b hb (by omega)
    · rw [if_neg c]; exact ih (i + 1) i (by omega) (by omega)
theorem weakF_lt (f : Nat → Int32) : weakF f < 12 := wkL_lt f 11 1 0 (by decide) (by decide)
theorem fl_inv (f : Nat → Int32) : ∀ n i b : Nat, flL f n i (if f b ≤ 0 then -4 else nI b) (if f b ≤ 0 then 0 else f b) = if f (wkL f n i b) ≤ 0 then -4 else nI (wkL f n i b) := by
  intro n
  induction n with
  | zero => intro i b; rfl
  | succ n ih =>
    intro i b
    show (if f i ≤ (if f b ≤ 0 then 0 else f b) then flL f n (i + 1) (if f b ≤ 0 then -4 else nI b) (if f b ≤ 0 then 0 else f b) else flL f n (i + 1) (nI i) (f i)) = _
    by_cases c : f i ≤ f b
    · rw [show wkL f (n + 1) i b = wkL f n (i + 1) b from if_pos c, ← ih (i + 1) b]
      refine if_pos ?_
      by_cases d : f b ≤ 0
      · rw [if_pos d]; exact Int32.le_trans c d
      · rw [if_neg d]; exact c
    · rw [show wkL f (n + 1) i b = wkL f n (i + 1) i from if_neg c, ← ih (i + 1) i]
      rw [i_le] at c
      by_cases d : f i ≤ 0
      · have e : f b ≤ 0 := by rw [i_le, t_0] at d ⊢; omega
        rw [if_pos e, if_pos e, if_pos d, if_pos d, if_pos d]
      · rw [if_neg d, if_neg d]
        refine if_neg ?_
        by_cases e : f b ≤ 0
        · rw [if_pos e]; exact d
        · rw [if_neg e, i_le]; exact c
theorem fall_weak (f : Nat → Int32) : fallF f = if f (weakF f) ≤ 0 then -4 else nI (weakF f) := by
  unfold fallF weakF
  rw [← fl_inv f 11 1 0]
  show (if f 0 ≤ 0 then flL f 11 1 (-4) 0 else flL f 11 1 (nI 0) (f 0)) = _
  by_cases c : f 0 ≤ 0
  · rw [if_pos c, if_pos c, if_pos c]
  · rw [if_neg c, if_neg c, if_neg c]
theorem flL_c {f g : Nat → Int32} : ∀ (n i : Nat) (a b : Int32), (∀ j, j < i + n → f j = g j) → flL f n i a b = flL g n i a b := by
  intro n
  induction n with
  | zero => intro i a b _; rfl
  | succ n ih =>
    intro i a b h
    show (if f i ≤ b then flL f n (i + 1) a b else flL f n (i + 1) (nI i) (f i)) = (if g i ≤ b then flL g n (i + 1) a b else flL g n (i + 1) (nI i) (g i))
    rw [h i (by omega), ih (i + 1) a b (fun j hj => h j (by omega)), ih (i + 1) _ _ (fun j hj => h j (by omega))]
theorem fallF_c {f g : Nat → Int32} (h : ∀ j, j < 12 → f j = g j) : fallF f = fallF g := flL_c 12 0 _ _ (fun j hj => h j (by omega))
theorem wkL_c {f g : Nat → Int32} : ∀ (n i b : Nat), b < i + n → (∀ j, j < i + n → f j = g j) → wkL f n i b = wkL g n i b := by
  intro n
  induction n with
  | zero => intro i b _ _; rfl
  | succ n ih =>
    intro i b hb h
    show (if f i ≤ f b then wkL f n (i + 1) b else wkL f n (i + 1) i) = (if g i ≤ g b then wkL g n (i + 1) b else wkL g n (i + 1) i)
    rw [h i (by omega), h b (by omega), ih (i + 1) b (by omega) (fun j hj => h j (by omega)), ih (i + 1) i (by omega) (fun j hj => h j (by omega))]
theorem weakF_c {f g : Nat → Int32} (h : ∀ j, j < 12 → f j = g j) : weakF f = weakF g := wkL_c 11 1 0 (by decide) (fun j hj => h j (by omega))
theorem fallF_r (f : Nat → Int32) : fallF f = -4 ∨ isN 12 (fallF f) := by
  rw [fall_weak]
  by_cases c : f (weakF f) ≤ 0
  · exact Or.inl (if_pos c)
  · rw [if_neg c]; exact Or.inr ⟨_, weakF_lt f, rfl⟩
def lkT (be bu tl : Nat → Int32) (m : Int32) (s : Nat) : Int32 := lkP tl (bAt be bu m) s
def flT (be bu tl : Nat → Int32) (m : Int32) : Int32 := fallF (lkT be bu tl m)
theorem bAt_c {be be' bu bu' : Nat → Int32} (h1 : ∀ c, c < 12 → be c = be' c) (h2 : ∀ c, c < 12 → bu c = bu' c) (m : Int32) : ∀ c, c < 12 → bAt be bu m c = bAt be' bu' m c := fun c hc => by
  unfold bAt
  rw [h1 c hc, h2 c hc]
theorem lkT_c {be be' bu bu' tl tl' : Nat → Int32} (h1 : ∀ c, c < 12 → be c = be' c) (h2 : ∀ c, c < 12 → bu c = bu' c) (h3 : ∀ i, i < 7 → tl i = tl' i) (m : Int32) (s : Nat) : lkT be bu tl m s = lkT be' bu' tl' m s := lkP_c h3 (bAt_c h1 h2 m) s
theorem flT_c {be be' bu bu' tl tl' : Nat → Int32} (h1 : ∀ c, c < 12 → be c = be' c) (h2 : ∀ c, c < 12 → bu c = bu' c) (h3 : ∀ i, i < 7 → tl i = tl' i) (m : Int32) : flT be bu tl m = flT be' bu' tl' m := fallF_c fun s _ => lkT_c h1 h2 h3 m s
