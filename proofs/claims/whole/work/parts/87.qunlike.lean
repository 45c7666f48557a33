/-! props that burn unlike -/
theorem dg_t : ∀ n, n < 729 → nI n / 3 = nI (n / 3) ∧ nI n - nI n / 3 * 3 = nI (n % 3) := by decide +kernel
theorem bs_t : ∀ d, d < 3 → ∀ b, b < 45 → 2 ≤ b → ∃ j, j < 100 ∧ nI b + (nI d - 1) * (nI b / 3) = nI j := by
  intro d hd b hb h2
  have h : ∀ d, d < 3 → ∀ b, b < 45 → 2 ≤ b → nI b + (nI d - 1) * (nI b / 3) = nI (b + d * (b / 3) - b / 3) ∧ b + d * (b / 3) - b / 3 < 100 := by decide +kernel
  exact ⟨_, (h d hd b hb h2).2, (h d hd b hb h2).1⟩
/-- what is left of the number r when cell i comes; the shift there; the burning times so shifted -/
def rN (bu : Nat → Int32) (r : Nat) : Nat → Nat
  | 0 => r
  | i + 1 => if bu i = -4 then rN bu r i else rN bu r i / 3
def shU (bu : Nat → Int32) (r c : Nat) : Int32 := if bu c = -4 then 0 else nI (rN bu r c % 3) - 1
def bU (bu : Nat → Int32) (r c : Nat) : Int32 := if bu c = -4 then -4 else bu c + (nI (rN bu r c % 3) - 1) * (bu c / 3)
theorem rN_le (bu : Nat → Int32) (r : Nat) : ∀ i, rN bu r i ≤ r := by
  intro i
  induction i with
  | zero => exact Nat.le_refl _
  | succ i ih =>
    show (if bu i = -4 then rN bu r i else rN bu r i / 3) ≤ r
    by_cases c : bu i = -4
    · rw [if_pos c]; exact ih
    · rw [if_neg c]; omega
theorem rN_t {bu : Nat → Int32} {r i : Nat} (c : bu i = -4) : rN bu r (i + 1) = rN bu r i := if_pos c
theorem rN_f {bu : Nat → Int32} {r i : Nat} (c : ¬ bu i = -4) : rN bu r (i + 1) = rN bu r i / 3 := if_neg c
/-! in the class -/
def tB (A : AT) (ts : MS) : Prop := (∀ c, c < 12 → gA ts 1 c = aBe A c) ∧ (∀ c, c < 12 → aBu A c = -4 → gA ts 2 c = -4) ∧ (∀ i, i < 7 → gA ts 3 i = aT A i) ∧ gF ts 8 = aM A
theorem tB_ct {A : AT} {ts : MS} {B : Nat → BK} (h : ct A ts B) : tB A ts := ⟨fun _ hc => h.be hc, fun _ hc e => (h.bu hc).trans e, h.2.1, h.M⟩
theorem tB_s {A : AT} {ts : MS} (h : tB A ts) {i : Nat} (hi : ¬ aBu A i = -4) (v : Int32) : tB A (sA ts 2 i v) := by
  refine ⟨h.1, fun c hc e => ?_, h.2.2.1, h.2.2.2⟩
  show (if c = i then v else gA ts 2 c) = -4
  rw [if_neg (fun z => hi (by rw [← z]; exact e))]
  exact h.2.1 c hc e
theorem burnU_l {A : AT} {x0 : XS} (hc : ct A (xT x0 0) (xB x0 0)) {r : Nat} (hr : r < 729) : ∀ (n i : Nat) (x : XS), i + n = 12 → TK 1 x0 x → tB A (xT x 1) → (∀ c, c < i → gA (xT x 1) 2 c = bU (aBu A) r c) → ∃ x', X10_burnUnlike_p4 (n + 1) x (nI (rN (aBu A) r i)) (nI i) = some ((), x') ∧ TK 1 x0 x' ∧ tB A (xT x' 1) ∧ ∀ c, c < 12 → gA (xT x' 1) 2 c = bU (aBu A) r c := by
  intro n
  induction n with
  | zero =>
    intro i x e hT hB hU
    have e : i = 12 := by omega
    subst e
    exact ⟨x, by rw [X10_burnUnlike_p4_s, if_pos n12_t]; rfl, hT, hB, hU⟩
  | succ n ih =>
    intro i x e hT hB hU
    have hi : i < 12 := by omega
    have e0 : xT x 0 = xT x0 0 := (hT.1 0 (by decide)).1
    obtain ⟨d1, d2⟩ := dg_t (rN (aBu A) r i) (Nat.lt_of_le_of_lt (rN_le _ _ _) hr)
    rw [X10_burnUnlike_p4_s, if_neg (n12_f hi), inr_i hi, inr_i hi, inr_i hi, inr_i hi, dvi_3, dvi_3, nI_cl hi, e0, hc.bu hi]
    unfold X10_burnUnlike_p64
    by_cases q : aBu A i = -4
    · rw [if_pos q, nm_s, nI_1, ← rN_t (r := r) q]
      refine ih (i + 1) x (by omega) hT hB (fun c hcc => ?_)
      by_cases z : c = i
      · rw [z, hB.2.1 i hi q]
        exact (if_pos q).symm
      · exact hU c (by omega)
    · rw [if_neg q, nm_s, dvi_3, nm_s, nm_s, nI_1, d2, d1, ← rN_f (r := r) q]
      have x1 : xT (uT x 1 (sA (xT x 1) 2 i (aBu A i + (nI (rN (aBu A) r i % 3) - 1) * (aBu A i / 3)))) 1 = sA (xT x 1) 2 i (aBu A i + (nI (rN (aBu A) r i % 3) - 1) * (aBu A i / 3)) := xT_d
      refine ih (i + 1) _ (by omega) (hT.uT _) (by rw [x1]; exact tB_s hB q _) (fun c hcc => ?_)
      rw [x1]
      show (if c = i then aBu A i + (nI (rN (aBu A) r i % 3) - 1) * (aBu A i / 3) else gA (xT x 1) 2 c) = _
      by_cases z : c = i
      · rw [if_pos z, z]
        exact (if_neg q).symm
      · rw [if_neg z]
        exact hU c (by omega)
theorem burnU_a {A : AT} {x0 x : XS} (hc : ct A (xT x0 0) (xB x0 0)) {r : Nat} (hr : r < 729) (hT : TK 1 x0 x) (hB : tB A (xT x 1)) : ∃ x', X10_burnUnlike x (nI r) = some ((), x') ∧ TK 1 x0 x' ∧ tB A (xT x' 1) ∧ ∀ c, c < 12 → gA (xT x' 1) 2 c = bU (aBu A) r c := by
  have h := burnU_l hc hr 12 0 x (by decide) hT hB (fun c z => absurd z (Nat.not_lt_zero _))
  rw [nI_0] at h
  exact h
def gU (A : AT) (r a k : Nat) : Int32 := flT (aBe A) (bU (aBu A) r) (aT A) (nI (a + k))
theorem ftlU_a {A : AT} {ts : MS} (hB : tB A ts) {r : Nat} (hU : ∀ c, c < 12 → gA ts 2 c = bU (aBu A) r c) {N : Nat} (hok : okB N A) {a : Nat} (ha : a < 1000) (ea : aM A = nI a) : X8_fallToLaneAfter ts = some ((if faS (gU A r a) 61 0 = aT A 6 then faL (gU A r a) 61 0 else -4), ts) := by
  obtain ⟨b1, b2, b3, b4⟩ := hB
  have h := X8_fallToLaneAfter_s ts (by rw [b3 0 (by decide)]; exact hok.T0) (by rw [b3 2 (by decide)]; exact hok.T2) (b4.trans ea) ha (gU A r a) (funext fun k => (fallF_c fun s _ => lkT_c b1 hU b3 _ s).symm) (by rw [b3 6 (by decide)]; exact hok.T6)
  rw [b3 6 (by decide)] at h
  exact h
theorem ftl_4g {g : Nat → Int32} {T : Int32} (hT : isN 12 T) : ((if faS g 61 0 = T then faL g 61 0 else -4) = -4) ↔ ¬ faS g 61 0 = T := by
  obtain ⟨l, hl, el⟩ := hT
  by_cases c : faS g 61 0 = T
  · rw [if_pos c]
    refine ⟨fun q => ?_, fun q => absurd c q⟩
    rcases fa_r g 61 0 with ⟨q1, q2, _⟩ | ⟨j, j1, j2, q1, q2, q3, _⟩
    · rw [q2, el] at c
      exact absurd c.symm (nI_z (by omega))
    · rw [q1] at q
      exact absurd q (nI_z (by omega))
  · rw [if_neg c]
    exact ⟨fun _ => c, fun _ => rfl⟩
/-! in the reference: its shifts -/
def m18 (m0 : MS) (w : Nat → Int32) : MS := (m0.1, (fun j => if j = 18 then w else m0.2.1 j), m0.2.2)
theorem gA_18 {m0 : MS} {w : Nat → Int32} : gA (m18 m0 w) 18 = w := by
  show (if (18 : Nat) = 18 then w else m0.2.1 18) = w
  exact if_pos rfl
theorem gA_n18 {m0 : MS} {w : Nat → Int32} {k : Nat} (h : k ≠ 18) : gA (m18 m0 w) k = gA m0 k := if_neg h
theorem mo_18i {A B : AT} {m0 s : MS} (h : mo A B m0 s) : mo A B (m18 m0 (gA m0 18)) s := by
  obtain ⟨g1, g2, g3, g4, g5⟩ := h
  refine ⟨g1, g2, fun k hk => ?_, g4, g5⟩
  by_cases c : k = 18
  · rw [c, gA_18]; exact g3 18 (by decide)
  · rw [gA_n18 c]; exact g3 k hk
theorem mo_18e {A B : AT} {m0 s : MS} {w : Nat → Int32} (h : mo A B (m18 m0 w) s) (hw : w = gA m0 18) : mo A B m0 s := by
  obtain ⟨g1, g2, g3, g4, g5⟩ := h
  refine ⟨g1, g2, fun k hk => ?_, g4, g5⟩
  rw [g3 k hk]
  by_cases c : k = 18
  · rw [c, gA_18]; exact hw
  · rw [gA_n18 c]
theorem mo_18s {A B : AT} {m0 s : MS} {w : Nat → Int32} (h : mo A B (m18 m0 w) s) (c : Nat) (v : Int32) : mo A B (m18 m0 (upd w c v)) (sA s 18 c v) := by
  obtain ⟨⟨m1, m2, m3, m4, m5, m6, m7⟩, g2, g3, g4, g5⟩ := h
  refine ⟨⟨m1, m2, m3, m4, m5, m6, m7⟩, g2, fun k hk => ?_, g4, g5⟩
  by_cases q : k = 18
  · rw [q, gA_18]
    show upd (gA s 18) c v = upd w c v
    rw [g3 18 (by decide), gA_18]
  · rw [gA_sAn _ _ q, gA_n18 q, g3 k hk, gA_n18 q]
theorem buK_A (A : AT) (c : Nat) : buK (aK A c) (aF A c) = aBu A c := rfl
theorem bwK_A (A : AT) (c : Nat) : bwK (aK A c) (aF A c) = aBe A c := rfl
theorem mB_u {A : AT} {st s : MS} (h2 : ∀ c, c < 12 → gA st 2 c = aK A c ∧ gA st 3 c = aF A c) {r : Nat} (h18 : ∀ c, c < 12 → gA st 18 c = shU (aBu A) r c) {N : Nat} (hok : okB N A) {m : Int32} (hs : ∀ q, gA s q = gA st q) (h5 : gF s 5 = 1) (h6 : gF s 6 = m) : ∀ c, c < 12 → mB s c = bAt (aBe A) (bU (aBu A) r) m c := fun c hc => by
  unfold mB bAt
  rw [hs 2, hs 3, hs 18, (h2 c hc).1, (h2 c hc).2, h5, h6, h18 c hc, if_neg n10, buK_A, bwK_A]
  have hr : aBu A c = -4 ∨ ∃ b, 2 ≤ b ∧ b < 45 ∧ aBu A c = nI b := buK_r (hok.KF hc).2
  unfold bU shU
  rcases hr with e | ⟨b, hb1, hb2, e⟩
  · rw [if_pos (show aBu A c < 0 by rw [e]; decide), if_pos e, if_pos rfl]
  · have n4 : ¬ aBu A c = -4 := by rw [e]; exact nI_z (by omega)
    have p0 : ¬ aBu A c < 0 := by rw [e]; exact nI_pos (by omega)
    obtain ⟨j, hj, ej⟩ := bs_t (rN (aBu A) r c % 3) (by omega) b hb2 hb1
    rw [← e] at ej
    rw [if_neg p0, if_neg n4, if_neg n4, ej, if_neg (nI_z (by omega))]
theorem goesU_a {A : AT} (hA : okD A) {m0 : MS} (hM : mCon m0) {w : Nat → Int32} {st : MS} (ho : mo A A (m18 m0 w) st) {r : Nat} (hw : ∀ c, c < 12 → w c = shU (aBu A) r c) {a : Nat} (ea : aM A = nI a) : ∃ s', X11_goesToLane st = some ((if faS (gU A r a) 61 0 = aT A 6 then 1 else 0), s') ∧ mo A A (m18 m0 w) s' := by
  have hM' : mCon st := ⟨fun i hi => by rw [ho.2.2.1 0 (by decide)]; exact hM.1 i hi, fun i hi => by rw [ho.2.2.1 1 (by decide)]; exact hM.2 i hi⟩
  have h18 : ∀ c, c < 12 → gA st 18 c = shU (aBu A) r c := fun c hc => by rw [ho.2.2.1 18 (by decide), gA_18]; exact hw c hc
  obtain ⟨g1, g2, g3, g4, g5⟩ := ho
  obtain ⟨m1, m2, m3, m4, m5, m6, m7⟩ := g1
  obtain ⟨s', e, b1, b2, b3, b4, b5, b6, m, b7, b8, b9⟩ := burn_a (tl := aT A) (be := aBe A) (bu := bU (aBu A) r) (a := a) hM' m5 hA.1.T0 hA.1.T2 (by rw [m2, ea]) (fun k s h1 h2 h3 => mB_u m6 h18 hA.1 h1 h2 h3) (gU A r a) rfl
  have o1 : mo A (aMin (aLit A) (nI (a + m))) (m18 m0 w) s' := by
    refine ⟨⟨b5, b8, ?_, ?_, fun i hi => ?_, fun c hc => ?_, fun x hx => ?_⟩, ?_, fun k hk => ?_, fun k => ?_, fun k hk => ?_⟩
    · rw [b6 7 (by decide)]; exact m3
    · rw [b6 8 (by decide)]; exact m4
    · rw [b1]; exact m5 i hi
    · rw [b1, b1]; exact m6 c hc
    · rw [b1, b1]; exact m7 x hx
    · rw [b1]; exact g2
    · rw [b1]; exact g3 k hk
    · rw [b2]; exact g4 k
    · rw [b6 k (fun h => hk (by
        have : ∀ x ∈ ([5, 6, 33, 34] : List Nat), x ∈ ([5, 6, 7, 8, 29, 30, 33, 34, 35] : List Nat) := by decide
        exact this k h))]
      exact g5 k hk
  obtain ⟨s2, e2, o2, _⟩ := mo_cl o1 hA.1.L hA.D
  refine ⟨s2, ?_, o2⟩
  have e6 : gA s' 4 6 = aT A 6 := o1.1.T (i := 6) (by decide)
  unfold X11_goesToLane X11_goesToLane_p23
  rw [e, bnd_s, ic_6, cz_6, b4, e6, e2, bnd_s, bnd_s, gz_1, gz_0]
  by_cases c : faS (gU A r a) 61 0 = aT A 6
  · rw [if_pos c, if_pos c]
  · rw [if_neg c, if_neg c]
theorem burnsOf_o {A : AT} {m0 s : MS} (h : mo A A m0 s) {c : Nat} (hc : c < 12) : X11_burnsOf s (nI c) = some (aBu A c, s) := by
  rw [X11_burnsOf_s s hc, h.1.K hc, h.1.F hc, buK_A]
/-- all shifts set, out of the number r -/
theorem shift_l {A : AT} (hA : okD A) {m0 : MS} {r : Nat} (hr : r < 729) (k106 : MS → Int32 → Int32 → Int32 → Int32 → Option (Int64 × MS)) (v1 v3 v4 v5 : Int32) : ∀ (n i : Nat) (w : Nat → Int32) (s : MS), i + n = 12 → mo A A (m18 m0 w) s → (∀ c, c < i → w c = shU (aBu A) r c) → (∀ c, c < 12 → aBu A c = -4 → w c = 0) → (∀ c, 12 ≤ c → w c = gA m0 18 c) → ∃ w' s', X11_unlike_p119 k106 (n + 1) s v1 v3 v4 v5 (nI (rN (aBu A) r i)) (nI i) = X11_unlike_p160 k106 s' v1 v3 v4 v5 ∧ mo A A (m18 m0 w') s' ∧ (∀ c, c < 12 → w' c = shU (aBu A) r c) ∧ (∀ c, 12 ≤ c → w' c = gA m0 18 c) := by
  intro n
  induction n with
  | zero =>
    intro i w s e ho h1 h2 h3
    have e : i = 12 := by omega
    subst e
    exact ⟨w, s, by rw [X11_unlike_p119_s, if_pos n12_t], ho, h1, h3⟩
  | succ n ih =>
    intro i w s e ho h1 h2 h3
    have hi : i < 12 := by omega
    obtain ⟨d1, d2⟩ := dg_t (rN (aBu A) r i) (Nat.lt_of_le_of_lt (rN_le _ _ _) hr)
    have hb : aBu A i = -4 ∨ ∃ b, 2 ≤ b ∧ b < 45 ∧ aBu A i = nI b := buK_r (hA.1.KF hi).2
    rw [X11_unlike_p119_s, if_neg (n12_f hi), burnsOf_o ho hi, bnd_s, inr_i hi, dvi_3, nI_cl hi]
    unfold X11_unlike_p154
    rcases hb with q | ⟨b, hb1, hb2, eb⟩
    · rw [if_pos (show aBu A i < 0 by rw [q]; decide), nm_s, nI_1, ← rN_t (r := r) q]
      refine ih (i + 1) w s (by omega) ho (fun c hc => ?_) h2 h3
      by_cases z : c = i
      · rw [z, h2 i hi q]
        exact (if_pos q).symm
      · exact h1 c (by omega)
    · have q : ¬ aBu A i = -4 := by rw [eb]; exact nI_z (by omega)
      rw [if_neg (show ¬ aBu A i < 0 by rw [eb]; exact nI_pos (by omega)), nm_s, dvi_3, nm_s, nm_s, nI_1, d2, d1, ← rN_f (r := r) q]
      refine ih (i + 1) _ _ (by omega) (mo_18s ho i _) (fun c hc => ?_) (fun c hc e => ?_) (fun c hc => ?_)
      · show (if c = i then nI (rN (aBu A) r i % 3) - 1 else w c) = _
        by_cases z : c = i
        · rw [if_pos z, z]
          exact (if_neg q).symm
        · rw [if_neg z]
          exact h1 c (by omega)
      · show (if c = i then nI (rN (aBu A) r i % 3) - 1 else w c) = _
        rw [if_neg (fun z => q (by rw [← z]; exact e))]
        exact h2 c hc e
      · show (if c = i then nI (rN (aBu A) r i % 3) - 1 else w c) = _
        rw [if_neg (by omega)]
        exact h3 c hc
theorem unshift_l {A : AT} {m0 : MS} (v1 v3 v4 : Int32) : ∀ (n i : Nat) (w : Nat → Int32) (s : MS), i + n = 12 → mo A A (m18 m0 w) s → (∀ c, c < i → w c = 0) → (∀ c, 12 ≤ c → w c = gA m0 18 c) → ∃ w' s', X11_unlike_p186 (n + 1) s v1 v3 v4 (nI i) = X11_unlike_p207 s' v1 v3 v4 ∧ mo A A (m18 m0 w') s' ∧ (∀ c, c < 12 → w' c = 0) ∧ (∀ c, 12 ≤ c → w' c = gA m0 18 c) := by
  intro n
  induction n with
  | zero =>
    intro i w s e ho h1 h3
    have e : i = 12 := by omega
    subst e
    exact ⟨w, s, by rw [X11_unlike_p186_s, if_pos n12_t], ho, h1, h3⟩
  | succ n ih =>
    intro i w s e ho h1 h3
    have hi : i < 12 := by omega
    rw [X11_unlike_p186_s, if_neg (n12_f hi), inr_i hi, nI_cl hi, nm_s, nm_s, nI_1]
    refine ih (i + 1) _ _ (by omega) (mo_18s ho i 0) (fun c hc => ?_) (fun c hc => ?_)
    · show (if c = i then (0 : Int32) else w c) = _
      by_cases z : c = i
      · rw [if_pos z]
      · rw [if_neg z]
        exact h1 c (by omega)
    · show (if c = i then (0 : Int32) else w c) = _
      rw [if_neg (by omega)]
      exact h3 c hc
