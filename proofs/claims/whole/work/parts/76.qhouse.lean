/-! what a fall does to houses -/
def brk (A : AT) (m : Int32) : Int32 := if 10 ≤ m then 1 else if aT A 3 < 10 then 0 else 1
theorem brk_r (A : AT) (m : Int32) : brk A m = 0 ∨ brk A m = 1 := by
  unfold brk
  by_cases c : 10 ≤ m
  · rw [if_pos c]; exact Or.inr rfl
  · rw [if_neg c]
    by_cases d : aT A 3 < 10
    · rw [if_pos d]; exact Or.inl rfl
    · rw [if_neg d]; exact Or.inr rfl
theorem X8_breaksAt_a {A : AT} {ts : MS} {B : Nat → BK} (h : ct A ts B) (m : Int32) : X8_breaksAt ts m = some (brk A m, ts) := by
  unfold X8_breaksAt X8_breaksAt_p17 X8_breaksAt_p22 brk
  by_cases c : 10 ≤ m
  · rw [if_pos c, if_pos c, gz_1]
  · rw [if_neg c, if_neg c, ic_3, cz_3, h.T (by decide)]
    by_cases d : aT A 3 < 10
    · rw [if_pos d, if_pos d, gz_0]
    · rw [if_neg d, if_neg d, gz_1]
theorem X11_breaks_a {A : AT} {st : MS} (h : mt A st) : X11_breaks st = some (brk A (aM A), st) := by
  unfold X11_breaks X11_breaks_p20 X11_breaks_p25 brk
  rw [h.M]
  by_cases c : 10 ≤ aM A
  · rw [if_pos c, if_pos c, gz_1]
  · rw [if_neg c, if_neg c, ic_3, cz_3, h.T (by decide)]
    by_cases d : aT A 3 < 10
    · rw [if_pos d, if_pos d, gz_0]
    · rw [if_neg d, if_neg d, gz_1]
def tsN (w s : Nat) : Nat := if (w + 12 - s) % 12 = 0 then s else if (w + 12 - s) % 12 ≤ 6 then (s + 1) % 12 else (s + 11) % 12
def tsP (A : AT) (s : Nat) : Nat := tsN (aT A 2).toNatClampNeg s
theorem tsN_lt (w s : Nat) (h : s < 12) : tsN w s < 12 := by
  unfold tsN
  by_cases c : (w + 12 - s) % 12 = 0
  · rw [if_pos c]; exact h
  · rw [if_neg c]
    by_cases d : (w + 12 - s) % 12 ≤ 6
    · rw [if_pos d]; omega
    · rw [if_neg d]; omega
theorem tsP_lt (A : AT) {s : Nat} (h : s < 12) : tsP A s < 12 := tsN_lt _ _ h
theorem X8_topSide_a {A : AT} {ts : MS} {B : Nat → BK} (h : ct A ts B) {N : Nat} (hok : okB N A) (m : Int32) {s : Nat} (hs : s < 12) : X8_topSide ts (nI s) m = some ((if brk A m = 0 then -4 else nI (tsP A s)), ts) := by
  obtain ⟨w, hw, ew⟩ := hok.T2
  unfold X8_topSide X8_topSide_p44
  rw [X8_breaksAt_a h, bnd_s]
  by_cases c : brk A m = 0
  · rw [if_pos c, if_pos c]
  rw [if_neg c, if_neg c, ic_2, cz_2, h.T (by decide), ew, ar_m w hw s (by omega), bd1_s]
  have et : tsP A s = tsN w s := by unfold tsP; rw [ew, nI_cl hw]
  rw [et]
  unfold tsN
  by_cases d : (w + 12 - s) % 12 = 0
  · rw [d, if_pos nI_0, if_pos rfl]
  rw [if_neg (nI_ne0 (by omega) (by omega)), if_neg d]
  by_cases e : (w + 12 - s) % 12 ≤ 6
  · rw [if_neg (show ¬ (6 : Int32) < nI ((w + 12 - s) % 12) from nI_nlt (a := 6) e (by decide)), nI_1, ar_p (s + 1) (by omega), bd1_s, if_pos e]
  · rw [if_pos (show (6 : Int32) < nI ((w + 12 - s) % 12) from nI_lt (a := 6) (by omega) (by omega)), show nI s - (1 : Int32) = nI s - nI 1 from rfl, ar_m s hs 1 (by decide), bd1_s, if_neg e]
    rfl
theorem X11_topSide_a {A : AT} {st : MS} (h : mt A st) {N : Nat} (hok : okB N A) {s : Nat} (hs : s < 12) : X11_topSide st (nI s) = some (nI (tsP A s), st) := by
  obtain ⟨w, hw, ew⟩ := hok.T2
  have et : tsP A s = tsN w s := by unfold tsP; rw [ew, nI_cl hw]
  unfold X11_topSide X11_topSide_p45
  rw [ic_2, cz_2, h.T (by decide), ew, dvi_12, dvi_12, dvi_12, w12 w hw s hs, rm_12 (by omega), nm_s, et]
  unfold tsN
  by_cases d : (w + 12 - s) % 12 = 0
  · rw [d, if_pos nI_0, if_pos rfl]
  rw [if_neg (nI_ne0 (by omega) (by omega)), if_neg d]
  by_cases e : (w + 12 - s) % 12 ≤ 6
  · rw [if_neg (show ¬ (6 : Int32) < nI ((w + 12 - s) % 12) from nI_nlt (a := 6) e (by decide)), nI_1, rm_12 (by omega), if_pos e]
  · rw [if_pos (show (6 : Int32) < nI ((w + 12 - s) % 12) from nI_lt (a := 6) (by omega) (by omega)), show nI s + (11 : Int32) = nI (s + 11) from nI_add s 11, rm_12 (by omega), if_neg e]
def tfP (A : AT) : Int32 := aT A 5 + aT A 5 / 3 / 2
theorem X8_topFar_a {A : AT} {ts : MS} {B : Nat → BK} (h : ct A ts B) : X8_topFar ts = some (tfP A, ts) := by
  unfold X8_topFar tfP
  rw [ic_5, dvi_3, nm_s, ic_5, dvi_2, cz_5, h.T (by decide)]
theorem X11_topFar_a {A : AT} {st : MS} (h : mt A st) : X11_topFar st = some (tfP A, st) := by
  unfold X11_topFar tfP
  rw [ic_5, ic_5, dvi_3, dvi_2, cz_5, h.T (by decide)]
theorem X8_kickFar_a {A : AT} {ts : MS} {B : Nat → BK} (h : ct A ts B) : X8_kickFar ts = some (aT A 5 / 6, ts) := by
  unfold X8_kickFar
  rw [ic_5, dvi_6, cz_5, h.T (by decide)]
def abI (x : Int32) : Int32 := if 0 ≤ x then x else 0 - x
theorem X11_plainly_a (x : Int32) : X11_plainly x = some (abI x) := by
  unfold X11_plainly X11_plainly_p10 abI
  by_cases c : 0 ≤ x
  · rw [if_pos c, if_pos c]
  · rw [if_neg c, if_neg c, Int32.zero_sub]
def orL (f : Nat → Int32) : Nat → Nat → Int32 → Int32
  | 0, _, acc => acc
  | n + 1, i, acc => orL f n (i + 1) (acc ||| f i)
def hiF (A : AT) (m : Int32) (s h : Nat) : Int32 := if (aS A h = nI s ∧ ¬ aT A 5 < aR A h) ∨ (¬ brk A m = 0 ∧ aS A h = nI (tsP A s) ∧ ¬ 10 < abI (aR A h - tfP A)) then biI h else 0
def kiF (A : AT) (s h : Nat) : Int32 := if aS A h = nI ((s + 6) % 12) ∧ ¬ aT A 5 / 6 < aR A h then biI h else 0
theorem or_0 (x : Int32) : x ||| 0 = x := Int32.or_zero
theorem X8_hb61 {A : AT} {ts : MS} {B : Nat → BK} (h : ct A ts B) (k : MS → Int32 → Int32 → Int32 → Int32 → Option (Int32 × MS)) (v1 v3 acc : Int32) {i : Nat} (hi : i < 6) (t : Int32) : X8_hitBy_p61 k ts v1 v3 acc (nI i) t = k ts v1 v3 (if t = 0 ∧ ¬ (aS A i = v3 ∧ ¬ 10 < abI (aR A i - tfP A)) then acc else acc ||| biI i) (nI (i + 1)) := by
  have h99 : ∀ t0 : Int32, X8_hitBy_p99 k ts v1 v3 acc (nI i) t t0 = k ts v1 v3 (if t = 0 ∧ t0 = 0 then acc else acc ||| biI i) (nI (i + 1)) := fun t0 => by
    unfold X8_hitBy_p99 X8_hitBy_p111 X8_hitBy_p120
    by_cases c : t = 0
    · rw [if_pos c]
      by_cases d : t0 = 0
      · rw [if_pos d, if_pos ⟨c, d⟩, nm_s, nI_1]
      · rw [if_neg d, if_neg (fun q => d q.2), nm_s, nm_s, nI_1]
        rfl
    · rw [if_neg c, if_neg (fun q => c q.1), nm_s, nm_s, nI_1]
      rfl
  unfold X8_hitBy_p61 X8_hitBy_p98
  rw [inr_i hi, inr_i hi, nI_cl hi, h.S hi, h.R hi]
  by_cases c : aS A i = v3
  · rw [if_pos c, X8_topFar_a h, bnd_s, nm_s]
    show (if 10 < abI (aR A i - tfP A) then _ else _) = _
    by_cases d : 10 < abI (aR A i - tfP A)
    · rw [if_pos d, h99]
      by_cases e : t = 0
      · rw [if_pos ⟨e, rfl⟩, if_pos ⟨e, fun q => q.2 d⟩]
      · rw [if_neg (fun q => e q.1), if_neg (fun q => e q.1)]
    · rw [if_neg d, h99, if_neg (fun q => n10 q.2), if_neg (fun q => q.2 ⟨c, d⟩)]
  · rw [if_neg c, h99]
    by_cases e : t = 0
    · rw [if_pos ⟨e, rfl⟩, if_pos ⟨e, fun q => c q.1⟩]
    · rw [if_neg (fun q => e q.1), if_neg (fun q => e q.1)]
theorem X8_hitBy_l {A : AT} {ts : MS} {B : Nat → BK} (h : ct A ts B) {N : Nat} (hok : okB N A) (m : Int32) {s : Nat} (hs : s < 12) {H : Nat} (hH : aH A = nI H) (hH7 : H < 7) (f : Nat) : ∀ (n i : Nat) (acc : Int32), i + n = H → X8_hitBy_p13 (f + n + 1) ts (nI s) (if brk A m = 0 then -4 else nI (tsP A s)) acc (nI i) = some (orL (hiF A m s) n i acc, ts) := by
  intro n
  induction n with
  | zero =>
    intro i acc e
    rw [X8_hitBy_p13_s, h.H, hH, if_pos (nI_le (by omega) (by omega))]
    rfl
  | succ n ih =>
    intro i acc e
    have hi : i < 6 := by omega
    have i4 : ¬ aS A i = -4 := by
      obtain ⟨j, hj, q⟩ := (hok.SR hi).1
      rw [q]; exact nI_z (by omega)
    rw [show f + (n + 1) + 1 = (f + n + 1) + 1 from rfl, X8_hitBy_p13_s, h.H, hH, if_neg (nI_ge (by omega) (by omega)), if_neg (n6_f hi), inr_i hi, inr_i hi, ic_5, cz_5, nI_cl hi, h.S hi, h.R hi, h.T (by decide)]
    unfold X8_hitBy_p60
    rw [X8_hb61 h _ _ _ _ hi, X8_hb61 h _ _ _ _ hi]
    show _ = some (orL (hiF A m s) n (i + 1) (acc ||| hiF A m s i), ts)
    unfold hiF
    have key : ∀ (x : Int32), (acc ||| (if (aS A i = nI s ∧ ¬ aT A 5 < aR A i) ∨ (¬ brk A m = 0 ∧ aS A i = nI (tsP A s) ∧ ¬ 10 < abI (aR A i - tfP A)) then biI i else 0)) = x → X8_hitBy_p13 (f + n + 1) ts (nI s) (if brk A m = 0 then -4 else nI (tsP A s)) x (nI (i + 1)) = some (orL (fun h => if (aS A h = nI s ∧ ¬ aT A 5 < aR A h) ∨ (¬ brk A m = 0 ∧ aS A h = nI (tsP A s) ∧ ¬ 10 < abI (aR A h - tfP A)) then biI h else 0) n (i + 1) (acc ||| (if (aS A i = nI s ∧ ¬ aT A 5 < aR A i) ∨ (¬ brk A m = 0 ∧ aS A i = nI (tsP A s) ∧ ¬ 10 < abI (aR A i - tfP A)) then biI i else 0)), ts) := fun x hx => by
      rw [hx]
      exact ih (i + 1) x (by omega)
    have two : ∀ b0 : Prop, [Decidable b0] → (b0 ↔ (¬ brk A m = 0 ∧ aS A i = nI (tsP A s) ∧ ¬ 10 < abI (aR A i - tfP A))) → ¬ (aS A i = nI s ∧ ¬ aT A 5 < aR A i) → X8_hitBy_p13 (f + n + 1) ts (nI s) (if brk A m = 0 then -4 else nI (tsP A s)) (if (0 : Int32) = 0 ∧ ¬ b0 then acc else acc ||| biI i) (nI (i + 1)) = some (orL (fun h => if (aS A h = nI s ∧ ¬ aT A 5 < aR A h) ∨ (¬ brk A m = 0 ∧ aS A h = nI (tsP A s) ∧ ¬ 10 < abI (aR A h - tfP A)) then biI h else 0) n (i + 1) (acc ||| (if (aS A i = nI s ∧ ¬ aT A 5 < aR A i) ∨ (¬ brk A m = 0 ∧ aS A i = nI (tsP A s) ∧ ¬ 10 < abI (aR A i - tfP A)) then biI i else 0)), ts) := fun b0 _ hb hn => by
      refine key _ ?_
      by_cases q : b0
      · rw [if_pos (Or.inr (hb.mp q)), if_neg (fun z => z.2 q)]
      · rw [if_neg (fun z => z.elim hn (fun z => q (hb.mpr z))), or_0, if_pos ⟨rfl, q⟩]
    have iff0 : (aS A i = (if brk A m = 0 then -4 else nI (tsP A s)) ∧ ¬ 10 < abI (aR A i - tfP A)) ↔ (¬ brk A m = 0 ∧ aS A i = nI (tsP A s) ∧ ¬ 10 < abI (aR A i - tfP A)) := by
      by_cases c : brk A m = 0
      · rw [if_pos c]
        exact ⟨fun q => absurd q.1 i4, fun q => absurd c q.1⟩
      · rw [if_neg c]
        exact ⟨fun q => ⟨c, q⟩, fun q => q.2⟩
    by_cases c : aS A i = nI s
    · rw [if_pos c]
      by_cases d : aT A 5 < aR A i
      · rw [if_pos d]
        exact two _ iff0 (fun q => q.2 d)
      · rw [if_neg d]
        refine key _ ?_
        rw [if_pos (Or.inl ⟨c, d⟩), if_neg (fun q => n10 q.1)]
    · rw [if_neg c]
      exact two _ iff0 (fun q => c q.1)
theorem X8_hitBy_a {A : AT} {ts : MS} {B : Nat → BK} (h : ct A ts B) {N : Nat} (hok : okB N A) (m : Int32) {s : Nat} (hs : s < 12) {H : Nat} (hH : aH A = nI H) (hH7 : H < 7) : X8_hitBy ts (nI s) m = some (orL (hiF A m s) H 0 0, ts) := by
  unfold X8_hitBy
  have e := X8_hitBy_l h hok m hs hH hH7 (4999 - H) H 0 0 (by omega)
  rw [show 4999 - H + H + 1 = 5000 by omega, nI_0] at e
  rw [X8_topSide_a h hok m hs, bnd_s, e]
theorem X8_kickedBy_l {A : AT} {ts : MS} {B : Nat → BK} (h : ct A ts B) {s : Nat} {H : Nat} (hH : aH A = nI H) (hH7 : H < 7) (f : Nat) : ∀ (n i : Nat) (acc : Int32), i + n = H → X8_kickedBy_p13 (f + n + 1) ts (nI ((s + 6) % 12)) acc (nI i) = some (orL (kiF A s) n i acc, ts) := by
  intro n
  induction n with
  | zero =>
    intro i acc e
    rw [X8_kickedBy_p13_s, h.H, hH, if_pos (nI_le (by omega) (by omega))]
    rfl
  | succ n ih =>
    intro i acc e
    have hi : i < 6 := by omega
    rw [show f + (n + 1) + 1 = (f + n + 1) + 1 from rfl, X8_kickedBy_p13_s, h.H, hH, if_neg (nI_ge (by omega) (by omega)), if_neg (n6_f hi), inr_i hi, inr_i hi, X8_kickFar_a h, bnd_s, nI_cl hi, h.S hi, h.R hi]
    show _ = some (orL (kiF A s) n (i + 1) (acc ||| (if aS A i = nI ((s + 6) % 12) ∧ ¬ aT A 5 / 6 < aR A i then biI i else 0)), ts)
    unfold X8_kickedBy_p61
    by_cases c : aS A i = nI ((s + 6) % 12)
    · rw [if_pos c]
      by_cases d : aT A 5 / 6 < aR A i
      · rw [if_pos d, if_neg (fun q => q.2 d), or_0, nm_s, nI_1]
        exact ih (i + 1) _ (by omega)
      · rw [if_neg d, if_pos ⟨c, d⟩, nm_s, nm_s, nI_1]
        exact ih (i + 1) _ (by omega)
    · rw [if_neg c, if_neg (fun q => c q.1), or_0, nm_s, nI_1]
      exact ih (i + 1) _ (by omega)
theorem X8_kickedBy_a {A : AT} {ts : MS} {B : Nat → BK} (h : ct A ts B) {s : Nat} (hs : s < 12) {H : Nat} (hH : aH A = nI H) (hH7 : H < 7) : X8_kickedBy ts (nI s) = some (orL (kiF A s) H 0 0, ts) := by
  unfold X8_kickedBy
  have e := X8_kickedBy_l h (s := s) hH hH7 (4999 - H) H 0 0 (by omega)
  rw [show 4999 - H + H + 1 = 5000 by omega, nI_0] at e
  rw [show nI s + (6 : Int32) = nI (s + 6) from nI_add s 6, ar_p (s + 6) (by omega), bd1_s, e]
theorem X11_hitBy_l {A : AT} {st : MS} (h : mt A st) {N : Nat} (hok : okB N A) {s : Nat} (hs : s < 12) {H : Nat} (hH : aH A = nI H) (hH7 : H < 7) (f : Nat) : ∀ (n i : Nat) (acc : Int32), i + n = H → X11_hitBy_p4 (f + n + 1) st (nI s) acc (nI i) = some (orL (hiF A (aM A) s) n i acc, st) := by
  intro n
  induction n with
  | zero =>
    intro i acc e
    rw [X11_hitBy_p4_s, h.H, hH, if_pos (nI_le (by omega) (by omega))]
    rfl
  | succ n ih =>
    intro i acc e
    have hi : i < 6 := by omega
    rw [show f + (n + 1) + 1 = (f + n + 1) + 1 from rfl, X11_hitBy_p4_s, h.H, hH, if_neg (nI_ge (by omega) (by omega)), inr_i hi, inr_i hi, ic_5, cz_5, nI_cl hi, h.S hi, h.R hi, h.T (by decide)]
    show _ = some (orL (hiF A (aM A) s) n (i + 1) (acc ||| (if (aS A i = nI s ∧ ¬ aT A 5 < aR A i) ∨ (¬ brk A (aM A) = 0 ∧ aS A i = nI (tsP A s) ∧ ¬ 10 < abI (aR A i - tfP A)) then biI i else 0)), st)
    have yes : ∀ P : Prop, [Decidable P] → P → X11_hitBy_p4 (f + n + 1) st (nI s) (acc ||| biI i) (nI (i + 1)) = some (orL (hiF A (aM A) s) n (i + 1) (acc ||| (if P then biI i else 0)), st) := fun P _ hP => by
      rw [if_pos hP]
      exact ih (i + 1) _ (by omega)
    have no : ∀ P : Prop, [Decidable P] → ¬ P → X11_hitBy_p4 (f + n + 1) st (nI s) (acc ||| 0) (nI (i + 1)) = some (orL (hiF A (aM A) s) n (i + 1) (acc ||| (if P then biI i else 0)), st) := fun P _ hP => by
      rw [if_neg hP]
      exact ih (i + 1) _ (by omega)
    have two : ¬ (aS A i = nI s ∧ ¬ aT A 5 < aR A i) → X11_hitBy_p42 (fun st v1 v2 v3 => X11_hitBy_p4 (f + n + 1) st v1 v2 v3) st (nI s) acc (nI i) 0 = some (orL (hiF A (aM A) s) n (i + 1) (acc ||| (if (aS A i = nI s ∧ ¬ aT A 5 < aR A i) ∨ (¬ brk A (aM A) = 0 ∧ aS A i = nI (tsP A s) ∧ ¬ 10 < abI (aR A i - tfP A)) then biI i else 0)), st) := fun hn => by
      unfold X11_hitBy_p42 X11_hitBy_p93 X11_hitBy_p89 X11_hitBy_p94 X11_hitBy_p109
      rw [if_pos rfl, X11_breaks_a h, bnd_s]
      by_cases c : brk A (aM A) = 0
      · rw [if_pos c, if_pos rfl, nm_s, nm_s, nI_1]
        exact no _ (fun z => z.elim hn (fun z => z.1 c))
      rw [if_neg c, inr_i hi, X11_topSide_a h hok hs, bnd_s, nI_cl hi, h.S hi]
      by_cases d : aS A i = nI (tsP A s)
      · rw [if_pos d, inr_i hi, X11_topFar_a h, bnd_s, h.R hi, X11_plainly_a, bd1_s]
        by_cases e : 10 < abI (aR A i - tfP A)
        · rw [if_pos e, if_pos rfl, nm_s, nm_s, nI_1]
          exact no _ (fun z => z.elim hn (fun z => z.2.2 e))
        · rw [if_neg e, if_neg n10, nm_s, nm_s, nI_1]
          exact yes _ (Or.inr ⟨c, d, e⟩)
      · rw [if_neg d, if_pos rfl, nm_s, nm_s, nI_1]
        exact no _ (fun z => z.elim hn (fun z => d z.2.1))
    unfold X11_hitBy_p41
    by_cases c : aS A i = nI s
    · rw [if_pos c]
      by_cases d : aT A 5 < aR A i
      · rw [if_pos d]
        exact two (fun q => q.2 d)
      · rw [if_neg d]
        unfold X11_hitBy_p42 X11_hitBy_p89 X11_hitBy_p94 X11_hitBy_p109
        rw [if_neg n10, if_neg n10, nm_s, nm_s, nI_1]
        exact yes _ (Or.inl ⟨c, d⟩)
    · rw [if_neg c]
      exact two (fun q => c q.1)
theorem X11_hitBy_a {A : AT} {st : MS} (h : mt A st) {N : Nat} (hok : okB N A) {s : Nat} (hs : s < 12) {H : Nat} (hH : aH A = nI H) (hH7 : H < 7) : X11_hitBy st (nI s) = some (orL (hiF A (aM A) s) H 0 0, st) := by
  unfold X11_hitBy
  have e := X11_hitBy_l h hok hs hH hH7 (4999 - H) H 0 0 (by omega)
  rw [show 4999 - H + H + 1 = 5000 by omega, nI_0] at e
  exact e
theorem X11_kickedBy_l {A : AT} {st : MS} (h : mt A st) {s : Nat} (hs : s < 12) {H : Nat} (hH : aH A = nI H) (hH7 : H < 7) (f : Nat) : ∀ (n i : Nat) (acc : Int32), i + n = H → X11_kickedBy_p4 (f + n + 1) st (nI s) acc (nI i) = some (orL (kiF A s) n i acc, st) := by
  intro n
  induction n with
  | zero =>
    intro i acc e
    rw [X11_kickedBy_p4_s, h.H, hH, if_pos (nI_le (by omega) (by omega))]
    rfl
  | succ n ih =>
    intro i acc e
    have hi : i < 6 := by omega
    rw [show f + (n + 1) + 1 = (f + n + 1) + 1 from rfl, X11_kickedBy_p4_s, h.H, hH, if_neg (nI_ge (by omega) (by omega)), inr_i hi, inr_i hi, dvi_12, ic_5, dvi_6, cz_5, nI_cl hi, h.S hi, h.R hi, h.T (by decide), show nI s + (6 : Int32) = nI (s + 6) from nI_add s 6, rm_12 (by omega)]
    show _ = some (orL (kiF A s) n (i + 1) (acc ||| (if aS A i = nI ((s + 6) % 12) ∧ ¬ aT A 5 / 6 < aR A i then biI i else 0)), st)
    unfold X11_kickedBy_p53 X11_kickedBy_p54
    by_cases c : aS A i = nI ((s + 6) % 12)
    · rw [if_pos c]
      by_cases d : aT A 5 / 6 < aR A i
      · rw [if_pos d, if_neg (fun q => q.2 d), nm_s, nm_s, nI_1]
        exact ih (i + 1) _ (by omega)
      · rw [if_neg d, if_pos ⟨c, d⟩, nm_s, nm_s, nI_1]
        exact ih (i + 1) _ (by omega)
    · rw [if_neg c, if_neg (fun q => c q.1), nm_s, nm_s, nI_1]
      exact ih (i + 1) _ (by omega)
theorem X11_kickedBy_a {A : AT} {st : MS} (h : mt A st) {s : Nat} (hs : s < 12) {H : Nat} (hH : aH A = nI H) (hH7 : H < 7) : X11_kickedBy st (nI s) = some (orL (kiF A s) H 0 0, st) := by
  unfold X11_kickedBy
  have e := X11_kickedBy_l h hs hH hH7 (4999 - H) H 0 0 (by omega)
  rw [show 4999 - H + H + 1 = 5000 by omega, nI_0] at e
  exact e
/-- houses struck by a fall to side s at minute m -/
def stP (A : AT) (m : Int32) (s : Nat) : Int32 := orL (hiF A m s) (aH A).toNatClampNeg 0 0 ||| orL (kiF A s) (aH A).toNatClampNeg 0 0
theorem X8_struckBy_a {A : AT} {ts : MS} {B : Nat → BK} (h : ct A ts B) {N : Nat} (hok : okB N A) (m : Int32) {s : Nat} (hs : s < 12) : X8_struckBy ts (nI s) m = some (stP A m s, ts) := by
  obtain ⟨H, hH7, hH⟩ := hok.H
  unfold X8_struckBy stP
  rw [X8_hitBy_a h hok m hs hH hH7, bnd_s, X8_kickedBy_a h hs hH hH7, bnd_s, hH, nI_clamp (by omega)]
theorem X11_struckBy_a {A : AT} {st : MS} (h : mt A st) {N : Nat} (hok : okB N A) {s : Nat} (hs : s < 12) : X11_struckBy st (nI s) = some (stP A (aM A) s, st) := by
  obtain ⟨H, hH7, hH⟩ := hok.H
  unfold X11_struckBy stP
  rw [X11_hitBy_a h hok hs hH hH7, bnd_s, X11_kickedBy_a h hs hH hH7, bnd_s, hH, nI_clamp (by omega)]
theorem orL_r {f : Nat → Int32} (hf : ∀ i, f i = biI i ∨ f i = 0) : ∀ (n i a : Nat), i + n ≤ 6 → a < 64 → ∃ b, b < 64 ∧ orL f n i (nI a) = nI b := by
  intro n
  induction n with
  | zero => intro i a _ ha; exact ⟨a, ha, rfl⟩
  | succ n ih =>
    intro i a h ha
    show ∃ b, b < 64 ∧ orL f n (i + 1) (nI a ||| f i) = nI b
    rcases hf i with e | e
    · obtain ⟨e1, e2⟩ := bi_or a ha i (by omega)
      rw [e, e1]
      exact ih (i + 1) _ (by omega) e2
    · rw [e, or_0]
      exact ih (i + 1) a (by omega) ha
theorem or_64 : ∀ a, a < 64 → ∀ b, b < 64 → nI a ||| nI b = nI (a ||| b) ∧ a ||| b < 64 := by decide +kernel
theorem stP_r {A : AT} {N : Nat} (hok : okB N A) (m : Int32) (s : Nat) : ∃ b, b < 64 ∧ stP A m s = nI b := by
  obtain ⟨H, hH7, hH⟩ := hok.H
  unfold stP
  rw [hH, nI_clamp (by omega)]
  obtain ⟨a, ha, e1⟩ := orL_r (f := hiF A m s) (fun i => by
    unfold hiF
    by_cases c : (aS A i = nI s ∧ ¬ aT A 5 < aR A i) ∨ (¬ brk A m = 0 ∧ aS A i = nI (tsP A s) ∧ ¬ 10 < abI (aR A i - tfP A))
    · exact Or.inl (if_pos c)
    · exact Or.inr (if_neg c)) H 0 0 (by omega) (by decide)
  obtain ⟨b, hb, e2⟩ := orL_r (f := kiF A s) (fun i => by
    unfold kiF
    by_cases c : aS A i = nI ((s + 6) % 12) ∧ ¬ aT A 5 / 6 < aR A i
    · exact Or.inl (if_pos c)
    · exact Or.inr (if_neg c)) H 0 0 (by omega) (by decide)
  rw [nI_0] at e1 e2
  obtain ⟨e3, e4⟩ := or_64 a ha b hb
  exact ⟨a ||| b, e4, by rw [e1, e2, e3]⟩
