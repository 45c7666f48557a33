/-! cells cut in thought -/
def aKF (A : AT) (K F : Nat → Int32) : AT := (A.1, aT A, K, F, aS A, aR A)
theorem aFall_c {A B : AT} (hT : ∀ i, i < 7 → aT A i = aT B i) (hK : ∀ c, c < 12 → aK A c = aK B c ∧ aF A c = aF B c) (m : Int32) : aFall A m = aFall B m := flT_c (fun c hc => by unfold aBe; rw [(hK c hc).1, (hK c hc).2]) (fun c hc => by unfold aBu; rw [(hK c hc).1, (hK c hc).2]) hT m
theorem lA_c {A B : AT} (hT : ∀ i, i < 7 → aT A i = aT B i) (hK : ∀ c, c < 12 → aK A c = aK B c ∧ aF A c = aF B c) (m : Int32) (s : Nat) : lA A m s = lA B m s := lkT_c (fun c hc => by unfold aBe; rw [(hK c hc).1, (hK c hc).2]) (fun c hc => by unfold aBu; rw [(hK c hc).1, (hK c hc).2]) hT m s
theorem ct_kf {A : AT} {K F K' F' : Nat → Int32} {ts : MS} {B : Nat → BK} (h : ct (aKF A K F) ts B) (hK : ∀ c, c < 12 → K c = K' c ∧ F c = F' c) : ct (aKF A K' F') ts B := by
  obtain ⟨c1, c2⟩ := h
  refine ⟨fun c hc => ?_, c2⟩
  have e : kiB (B c) = K c ∧ (B c).2 = F c ∧ (B c).1 < 8 ∧ gA ts 1 c = bwK (K c) (F c) ∧ gA ts 2 c = buK (K c) (F c) := c1 c hc
  show kiB (B c) = K' c ∧ (B c).2 = F' c ∧ (B c).1 < 8 ∧ gA ts 1 c = bwK (K' c) (F' c) ∧ gA ts 2 c = buK (K' c) (F' c)
  rw [← (hK c hc).1, ← (hK c hc).2]
  exact e
theorem okB_kf {N : Nat} {A : AT} (h : okB N A) {K F : Nat → Int32} (hK : ∀ c, c < 12 → isN 8 (K c) ∧ isN 10 (F c)) : okB N (aKF A K F) := by
  obtain ⟨h1, h2, h3, h4, h5, h6, h7⟩ := h
  exact ⟨h1, h2, h3, hK, h5, h6, h7⟩
theorem mt_kf {A : AT} {K F K' F' : Nat → Int32} {st : MS} (h : mt (aKF A K F) st) (hK : ∀ c, c < 12 → K c = K' c ∧ F c = F' c) : mt (aKF A K' F') st := by
  obtain ⟨m1, m2, m3, m4, m5, m6, m7⟩ := h
  refine ⟨m1, m2, m3, m4, m5, fun c hc => ?_, m7⟩
  have e : gA st 2 c = K c ∧ gA st 3 c = F c := m6 c hc
  show gA st 2 c = K' c ∧ gA st 3 c = F' c
  rw [← (hK c hc).1, ← (hK c hc).2]
  exact e
def cutK (A : AT) (v c : Nat) : Int32 := if v / 2 ^ c % 2 = 1 then 1 else aK A c
def cutF (A : AT) (v c : Nat) : Int32 := if v / 2 ^ c % 2 = 1 then 0 else aF A c
def aCut (A : AT) (v : Nat) : AT := aKF A (cutK A v) (cutF A v)
theorem okB_cut {N : Nat} {A : AT} (h : okB N A) (v : Nat) : okB N (aCut A v) := okB_kf h fun c hc => by
  unfold cutK cutF
  by_cases q : v / 2 ^ c % 2 = 1
  · rw [if_pos q, if_pos q]; exact ⟨⟨1, by decide, rfl⟩, ⟨0, by decide, rfl⟩⟩
  · rw [if_neg q, if_neg q]; exact h.KF hc
theorem nI_01 {v c : Nat} : nI (v / 2 ^ c % 2) = (1 : Int32) ↔ v / 2 ^ c % 2 = 1 := by
  have : v / 2 ^ c % 2 = 0 ∨ v / 2 ^ c % 2 = 1 := by omega
  rcases this with e | e <;> rw [e]
  · exact ⟨fun q => absurd q (by decide), fun q => absurd q (by decide)⟩
  · exact ⟨fun _ => rfl, fun _ => rfl⟩
theorem cutJust_l {A : AT} {x0 : XS} (hc : ct A (xT x0 0) (xB x0 0)) {v : Nat} (hv : v < 4096) : ∀ (n i : Nat) (K F : Nat → Int32) (xs : XS), i + n = 12 → TK 1 x0 xs → ct (aKF A K F) (xT xs 1) (xB xs 1) → (∀ c, c < i → K c = cutK A v c ∧ F c = cutF A v c) → ∃ xs', X10_cutJust_p2 (n + 1) xs (nI v) (nI i) = some ((), xs') ∧ TK 1 x0 xs' ∧ ct (aCut A v) (xT xs' 1) (xB xs' 1) := by
  intro n
  induction n with
  | zero =>
    intro i K F xs h hT ht hK
    have h : i = 12 := by omega
    subst h
    exact ⟨xs, by rw [X10_cutJust_p2_s, if_pos n12_t]; rfl, hT, ct_kf ht (fun c hc => hK c hc)⟩
  | succ n ih =>
    intro i K F xs h hT ht hK
    have hi : i < 12 := by omega
    have e0 : xB xs 0 = xB x0 0 := (hT.1 0 (by decide)).2
    rw [X10_cutJust_p2_s, if_neg (n12_f hi), bt_s hv hi, inr_i hi, nI_cl hi, e0]
    unfold X10_cutJust_p38
    by_cases q : v / 2 ^ i % 2 = 1
    · obtain ⟨x1, e1, t1, c1, _⟩ := X8_replace_1_a ht hi (k := ((1, 0) : BK)) (by decide)
      rw [if_pos (nI_01.mpr q), e1, bnd_s, nm_s, nI_1]
      refine ih (i + 1) (upd K i 1) (upd F i 0) x1 (by omega) (hT.tr t1) c1 (fun c hc => ?_)
      show (if c = i then (1 : Int32) else K c) = _ ∧ (if c = i then (0 : Int32) else F c) = _
      by_cases z : c = i
      · rw [if_pos z, if_pos z, z]
        unfold cutK cutF
        rw [if_pos q, if_pos q]
        exact ⟨rfl, rfl⟩
      · rw [if_neg z, if_neg z]
        exact hK c (by omega)
    · obtain ⟨x1, e1, t1, c1, _⟩ := X8_replace_1_a ht hi (k := xB x0 0 i) (hc.k8 hi)
      rw [if_neg (fun z => q (nI_01.mp z)), e1, bnd_s, nm_s, nI_1]
      refine ih (i + 1) (upd K i (kiB (xB x0 0 i))) (upd F i (xB x0 0 i).2) x1 (by omega) (hT.tr t1) c1 (fun c hcc => ?_)
      show (if c = i then kiB (xB x0 0 i) else K c) = _ ∧ (if c = i then (xB x0 0 i).2 else F c) = _
      by_cases z : c = i
      · rw [if_pos z, if_pos z, z, hc.K hi, hc.F hi]
        unfold cutK cutF
        rw [if_neg q, if_neg q]
        exact ⟨rfl, rfl⟩
      · rw [if_neg z, if_neg z]
        exact hK c (by omega)
theorem cutJust_a {A : AT} {xs : XS} (hc : ct A (xT xs 0) (xB xs 0)) {v : Nat} (hv : v < 4096) {K F : Nat → Int32} (ht : ct (aKF A K F) (xT xs 1) (xB xs 1)) : ∃ xs', X10_cutJust xs (nI v) = some ((), xs') ∧ TK 1 xs xs' ∧ ct (aCut A v) (xT xs' 1) (xB xs' 1) := by
  have h := cutJust_l hc hv 12 0 K F xs (by decide) TK.rf ht (fun c hc => absurd hc (Nat.not_lt_zero _))
  rw [nI_0] at h
  exact h
theorem fallsWithout_a {A : AT} {xs : XS} {N : Nat} (hok : okB N A) (hc : ct A (xT xs 0) (xB xs 0)) {v : Nat} (hv : v < 4096) {K F : Nat → Int32} (ht : ct (aKF A K F) (xT xs 1) (xB xs 1)) : ∃ xs', X10_fallsWithout xs (nI v) = some (aFall (aCut A v) (aM A), xs') ∧ TK 1 xs xs' ∧ ct (aCut A v) (xT xs' 1) (xB xs' 1) := by
  obtain ⟨x1, e1, t1, c1⟩ := cutJust_a hc hv ht
  refine ⟨x1, ?_, t1, c1⟩
  unfold X10_fallsWithout
  rw [e1, bnd_s, X8_fallSideAt_a c1 (okB_cut hok v), bnd_s, uT_self, nm_s, c1.M]
  rfl
theorem mo_cut {A B : AT} {m0 st : MS} (h : mo A B m0 st) {c : Nat} (hc : c < 12) : ∃ s', X11_cut st (nI c) = some ((), s') ∧ mo A (aRep B c 1 0) m0 s' := by
  obtain ⟨g1, g2, g3, g4, g5⟩ := h
  refine ⟨_, X11_cut_s st hc, mt_rep g1 c 1 0, g2, fun k hk => ?_, g4, g5⟩
  rw [gA_sAn _ _ (fun e => hk (by rw [e]; decide)), gA_sAn _ _ (fun e => hk (by rw [e]; decide))]
  exact g3 k hk
theorem cutAll_l {A : AT} {m0 : MS} {v : Nat} (hv : v < 4096) : ∀ (n i : Nat) (K F : Nat → Int32) (st : MS), i + n = 12 → mo A (aKF A K F) m0 st → (∀ c, c < 12 → (c < i → K c = cutK A v c ∧ F c = cutF A v c) ∧ (i ≤ c → K c = aK A c ∧ F c = aF A c)) → ∃ s', X11_cutAll_p2 (n + 1) st (nI v) (nI i) = some ((), s') ∧ mo A (aCut A v) m0 s' := by
  intro n
  induction n with
  | zero =>
    intro i K F st h hm hK
    have h : i = 12 := by omega
    subst h
    obtain ⟨g1, g2⟩ := hm
    exact ⟨st, by rw [X11_cutAll_p2_s, if_pos n12_t]; rfl, mt_kf g1 (fun c hc => (hK c hc).1 hc), g2⟩
  | succ n ih =>
    intro i K F st h hm hK
    have hi : i < 12 := by omega
    rw [X11_cutAll_p2_s, if_neg (n12_f hi), hb_s hv hi, bd1_s]
    unfold X11_cutAll_p21
    by_cases q : v / 2 ^ i % 2 = 1
    · obtain ⟨s1, e1, o1⟩ := mo_cut hm hi
      rw [q, if_neg (show ¬ nI 1 = 0 by decide), e1, bnd_s, nm_s, nI_1]
      refine ih (i + 1) (upd K i 1) (upd F i 0) s1 (by omega) o1 (fun c hc => ⟨fun z => ?_, fun z => ?_⟩)
      · show (if c = i then (1 : Int32) else K c) = _ ∧ (if c = i then (0 : Int32) else F c) = _
        by_cases y : c = i
        · rw [if_pos y, if_pos y, y]
          unfold cutK cutF
          rw [if_pos q, if_pos q]
          exact ⟨rfl, rfl⟩
        · rw [if_neg y, if_neg y]
          exact (hK c hc).1 (by omega)
      · show (if c = i then (1 : Int32) else K c) = _ ∧ (if c = i then (0 : Int32) else F c) = _
        rw [if_neg (by omega), if_neg (by omega)]
        exact (hK c hc).2 (by omega)
    · rw [show v / 2 ^ i % 2 = 0 by omega, if_pos nI_0, nm_s, nI_1]
      refine ih (i + 1) K F st (by omega) hm (fun c hc => ⟨fun z => ?_, fun z => (hK c hc).2 (by omega)⟩)
      by_cases y : c = i
      · rw [y]
        have := (hK i hi).2 (Nat.le_refl _)
        unfold cutK cutF
        rw [if_neg q, if_neg q]
        exact this
      · exact (hK c hc).1 (by omega)
theorem aKF_id (A : AT) : aKF A (aK A) (aF A) = A := rfl
theorem mo_cutAll {A : AT} {m0 st : MS} (hm : mo A A m0 st) {v : Nat} (hv : v < 4096) : ∃ s', X11_cutAll st (nI v) = some ((), s') ∧ mo A (aCut A v) m0 s' := by
  have h := cutAll_l hv 12 0 (aK A) (aF A) st (by decide) hm (fun c _ => ⟨fun z => absurd z (Nat.not_lt_zero _), fun _ => ⟨rfl, rfl⟩⟩)
  rw [nI_0] at h
  exact h
theorem bi_n : ∀ i, i < 12 → biI i = nI (2 ^ i) := by decide +kernel
theorem p2_12 : ∀ i, i < 12 → 2 ^ i < 4096 := by decide
theorem p2_bt : ∀ c, c < 12 → ∀ x, x < 12 → (2 ^ c / 2 ^ x % 2 = 1 ↔ x = c) := by decide
theorem cut_1 {A : AT} {c : Nat} (hc : c < 12) : ∀ x, x < 12 → aK (aCut A (2 ^ c)) x = aK (aRep A c 1 0) x ∧ aF (aCut A (2 ^ c)) x = aF (aRep A c 1 0) x := fun x hx => by
  show cutK A (2 ^ c) x = (if x = c then 1 else aK A x) ∧ cutF A (2 ^ c) x = (if x = c then 0 else aF A x)
  unfold cutK cutF
  by_cases e : x = c
  · rw [if_pos e, if_pos e, if_pos ((p2_bt c hc x hx).mpr e), if_pos ((p2_bt c hc x hx).mpr e)]
    exact ⟨rfl, rfl⟩
  · rw [if_neg e, if_neg e, if_neg (fun z => e ((p2_bt c hc x hx).mp z)), if_neg (fun z => e ((p2_bt c hc x hx).mp z))]
    exact ⟨rfl, rfl⟩
def caF (A : AT) (c : Nat) : Int32 := if bAt (aBe A) (aBu A) (aM A) c ≤ 0 then 0 else if aFall (aRep A c 1 0) (aM A) = -4 then biI c else 0
/-- the class's questions over the trial begin so -/
theorem take_a {xs : XS} {A : AT} (hc : ct A (xT xs 0) (xB xs 0)) (hL : aL A = 0 ∨ aL A = 1) : ∃ x1, X8_takeFrom_1_0 xs = some ((), x1) ∧ TK 1 xs x1 ∧ ct A (xT x1 0) (xB x1 0) ∧ ct A (xT x1 1) (xB x1 1) := by
  obtain ⟨x1, e1, t1, c1, _⟩ := tk10 hc hL
  refine ⟨x1, e1, t1, ?_, c1⟩
  rw [(t1.1 0 (by decide)).1, (t1.1 0 (by decide)).2]
  exact hc
theorem TK1_c {xs x1 : XS} {A : AT} (t : TK 1 xs x1) (hc : ct A (xT xs 0) (xB xs 0)) : ct A (xT x1 0) (xB x1 0) := by
  rw [(t.1 0 (by decide)).1, (t.1 0 (by decide)).2]
  exact hc
theorem cut1_f (A : AT) {c : Nat} (hc : c < 12) (m : Int32) : aFall (aCut A (2 ^ c)) m = aFall (aRep A c 1 0) m := aFall_c (A := aCut A (2 ^ c)) (B := aRep A c 1 0) (fun i hi => rfl) (cut_1 hc) m
theorem caF_1 {A : AT} {c : Nat} (h : bAt (aBe A) (aBu A) (aM A) c ≤ 0) : caF A c = 0 := if_pos h
theorem caF_2 {A : AT} {c : Nat} (h : ¬ bAt (aBe A) (aBu A) (aM A) c ≤ 0) (g : aFall (aRep A c 1 0) (aM A) = -4) : caF A c = biI c := (if_neg h).trans (if_pos g)
theorem caF_3 {A : AT} {c : Nat} (h : ¬ bAt (aBe A) (aBu A) (aM A) c ≤ 0) (g : ¬ aFall (aRep A c 1 0) (aM A) = -4) : caF A c = 0 := (if_neg h).trans (if_neg g)
theorem orL_s (f : Nat → Int32) (n i : Nat) (acc : Int32) : orL f (n + 1) i acc = orL f n (i + 1) (acc ||| f i) := rfl
theorem canCut_1 {xs : XS} {A : AT} {N : Nat} (hok : okB N A) (hc : ct A (xT xs 0) (xB xs 0)) : ∀ (n i : Nat) (acc : Int32) (K F : Nat → Int32) (x : XS), i + n = 12 → TK 1 xs x → ct (aKF A K F) (xT x 1) (xB x 1) → ∃ x', X10_canCut_p28 (n + 1) x acc (nI i) = some (orL (caF A) n i acc, x') ∧ TK 1 xs x' := by
  intro n
  induction n with
  | zero =>
    intro i acc K F x e hT ht
    have e : i = 12 := by omega
    subst e
    exact ⟨x, by rw [X10_canCut_p28_s, if_pos n12_t]; rfl, hT⟩
  | succ n ih =>
    intro i acc K F x e hT ht
    have hi : i < 12 := by omega
    have cx := TK1_c hT hc
    obtain ⟨x2, e2, t2, c2⟩ := fallsWithout_a hok cx (p2_12 i hi) ht
    rw [← bi_n i hi, cut1_f A hi] at e2
    rw [X10_canCut_p28_s, if_neg (n12_f hi), X8_bearsAt_a cx _ hi, bnd_s, uT_self, nm_s x, cx.M, orL_s]
    unfold X10_canCut_p70
    by_cases q : bAt (aBe A) (aBu A) (aM A) i ≤ 0
    · rw [if_pos q, caF_1 q, or_0, nm_s, nI_1]
      exact ih (i + 1) acc K F x (by omega) hT ht
    · rw [if_neg q, show (1 : Int32) <<< (nI i &&& 31) = biI i from rfl, e2, bnd_s]
      by_cases z : aFall (aRep A i 1 0) (aM A) = -4
      · rw [if_pos z, caF_2 q z, nm_s, nm_s, nI_1]
        exact ih (i + 1) _ _ _ x2 (by omega) (hT.tr t2) c2
      · rw [if_neg z, caF_3 q z, or_0, nm_s, nI_1]
        exact ih (i + 1) _ _ _ x2 (by omega) (hT.tr t2) c2
theorem canCut_2 {m0 : MS} {A : AT} (hA : okD A) (hR : mR A m0) : ∀ (n i : Nat) (acc : Int32) (s : MS), i + n = 12 → mo A A m0 s → ∃ s', X11_canCut_p23 (n + 1) s acc (nI i) = some (orL (caF A) n i acc, s') ∧ mo A A m0 s' := by
  intro n
  induction n with
  | zero =>
    intro i acc s e ho
    have e : i = 12 := by omega
    subst e
    exact ⟨s, by rw [X11_canCut_p23_s, if_pos n12_t]; rfl, ho⟩
  | succ n ih =>
    intro i acc s e ho
    have hi : i < 12 := by omega
    obtain ⟨s2, e2, o2⟩ := mo_cut ho hi
    have ok2 : okB 1000 (aRep A i 1 0) := okA_rep hA.1 ⟨1, by decide, rfl⟩ ⟨0, by decide, rfl⟩
    obtain ⟨s3, e3, o3, _⟩ := mo_cl o2 hA.1.L hA.D
    have est := X11_stands_a (mo_mR o2 hR) ok2
    rw [show aM (aRep A i 1 0) = aM A from rfl] at est
    rw [X11_canCut_p23_s, if_neg (n12_f hi), X11_bearsOf_a (mo_mR ho hR) hA.1 hi, bnd_s, orL_s]
    unfold X11_canCut_p42 X11_canCut_p66 X11_canCut_p67
    rw [e2, bnd_s, est, bnd_s]
    by_cases q : bAt (aBe A) (aBu A) (aM A) i ≤ 0
    · rw [if_pos q, caF_1 q, if_pos rfl, nm_s, e3, bnd_s, nm_s, nI_1]
      exact ih (i + 1) _ s3 (by omega) o3
    · rw [if_neg q, bnd_s, if_neg n10, est, bnd_s]
      by_cases z : aFall (aRep A i 1 0) (aM A) = -4
      · rw [if_pos z, caF_2 q z, if_neg n10, nm_s, e3, bnd_s, nm_s, nI_1]
        exact ih (i + 1) _ s3 (by omega) o3
      · rw [if_neg z, caF_3 q z, if_pos rfl, nm_s, e3, bnd_s, nm_s, nI_1]
        exact ih (i + 1) _ s3 (by omega) o3
theorem qm_canCut {xs : XS} {ms : MS} (h : RR xs ms) : Cm (X10_canCut xs) (X11_canCut ms) := by
  have h' := RR_17 h 0
  obtain ⟨A, hA, hc, h9, hR⟩ := h'.1
  unfold X10_canCut X11_canCut
  rw [nm_s (sF ms 17 0), X8_isDown_a hA h9, bnd_s, uT_self, nm_s xs, hR.2.2.D]
  by_cases D : aD A = 0
  · rw [if_pos D, if_pos D]
    obtain ⟨x1, e1, t1, c0, c1⟩ := take_a hc hA.1.L
    obtain ⟨s1, e2, o1⟩ := mo_op hR.2.2 hA.1.L hA.D
    rw [e1, bnd_s, e2, bnd_s]
    obtain ⟨x2, r1, t2⟩ := canCut_1 hA.1 hc 12 0 0 (aK A) (aF A) x1 (by decide) t1 c1
    obtain ⟨s2, r2, o2⟩ := canCut_2 hA hR 12 0 0 s1 (by decide) o1
    rw [nI_0] at r1 r2
    exact ⟨_, _, _, r1, r2, RR_q h' hA hc h9 o2.1 t2 (mo_FR o2)⟩
  · rw [if_neg D, if_neg D]
    exact ⟨_, _, _, rfl, rfl, h'⟩
