/-! how thick props must be -/
def proK (A : AT) (c : Nat) : Int32 := if aK A c = 1 then 2 else aK A c
def proF (A : AT) (f : Int32) (c : Nat) : Int32 := if aK A c = 1 then f else aF A c
def aPro (A : AT) (f : Int32) : AT := aKF A (proK A) (proF A f)
theorem okB_pro {N : Nat} {A : AT} (h : okB N A) {f : Int32} (hf : isN 10 f) : okB N (aPro A f) := okB_kf h fun c hc => by
  unfold proK proF
  by_cases q : aK A c = 1
  · rw [if_pos q, if_pos q]; exact ⟨⟨2, by decide, rfl⟩, hf⟩
  · rw [if_neg q, if_neg q]; exact h.KF hc
theorem propCuts_l {A : AT} {x0 : XS} (hc : ct A (xT x0 0) (xB x0 0)) (f : Int32) : ∀ (n i : Nat) (K F : Nat → Int32) (xs : XS), i + n = 12 → TK 1 x0 xs → ct (aKF A K F) (xT xs 1) (xB xs 1) → (∀ c, c < 12 → (¬ aK A c = 1 → K c = aK A c ∧ F c = aF A c) ∧ (c < i → aK A c = 1 → K c = 2 ∧ F c = f)) → ∃ xs', X10_propCuts_p11 (n + 1) xs ((2, f) : BK) (nI i) = some ((), xs') ∧ TK 1 x0 xs' ∧ ct (aPro A f) (xT xs' 1) (xB xs' 1) := by
  intro n
  induction n with
  | zero =>
    intro i K F xs h hT ht hK
    have h : i = 12 := by omega
    subst h
    refine ⟨xs, by rw [X10_propCuts_p11_s, if_pos n12_t]; rfl, hT, ct_kf ht (fun c hcc => ?_)⟩
    unfold proK proF
    by_cases q : aK A c = 1
    · rw [if_pos q, if_pos q]; exact (hK c hcc).2 hcc q
    · rw [if_neg q, if_neg q]; exact (hK c hcc).1 q
  | succ n ih =>
    intro i K F xs h hT ht hK
    have hi : i < 12 := by omega
    have e0 : xB xs 0 = xB x0 0 := (hT.1 0 (by decide)).2
    rw [X10_propCuts_p11_s, if_neg (n12_f hi), inr_i hi, nI_cl hi, e0, hc.K hi]
    unfold X10_propCuts_p42
    by_cases q : aK A i = 1
    · obtain ⟨x1, e1, t1, c1, _⟩ := X8_replace_1_a ht hi (k := ((2, f) : BK)) (show 2 < 8 by decide)
      rw [if_pos q, e1, bnd_s, nm_s, nI_1]
      refine ih (i + 1) (upd K i 2) (upd F i f) x1 (by omega) (hT.tr t1) c1 (fun c hcc => ⟨fun z => ?_, fun z1 z2 => ?_⟩)
      · show (if c = i then (2 : Int32) else K c) = _ ∧ (if c = i then f else F c) = _
        have ne : ¬ c = i := fun w => z (by rw [w]; exact q)
        rw [if_neg ne, if_neg ne]
        exact (hK c hcc).1 z
      · show (if c = i then (2 : Int32) else K c) = _ ∧ (if c = i then f else F c) = _
        by_cases w : c = i
        · rw [if_pos w, if_pos w]
          exact ⟨rfl, rfl⟩
        · rw [if_neg w, if_neg w]
          exact (hK c hcc).2 (by omega) z2
    · rw [if_neg q, nm_s, nI_1]
      refine ih (i + 1) K F xs (by omega) hT ht (fun c hcc => ⟨(hK c hcc).1, fun z1 z2 => (hK c hcc).2 (by
        have : ¬ c = i := fun w => q (by rw [← w]; exact z2)
        omega) z2⟩)
theorem propCuts_a {A : AT} {xs : XS} (hc : ct A (xT xs 0) (xB xs 0)) (f : Int32) {K F : Nat → Int32} (ht : ct (aKF A K F) (xT xs 1) (xB xs 1)) (hK : ∀ c, c < 12 → ¬ aK A c = 1 → K c = aK A c ∧ F c = aF A c) : ∃ xs', X10_propCuts xs f = some ((), xs') ∧ TK 1 xs xs' ∧ ct (aPro A f) (xT xs' 1) (xB xs' 1) := by
  have h := propCuts_l hc f 12 0 K F xs (by decide) TK.rf ht (fun c hcc => ⟨hK c hcc, fun z => absurd z (Nat.not_lt_zero _)⟩)
  rw [nI_0] at h
  exact h
theorem mo_32 {A : AT} {K F : Nat → Int32} {m0 s : MS} (h : mo A (aKF A K F) m0 s) (c : Nat) (k f : Int32) : mo A (aKF A (upd K c k) (upd F c f)) m0 (sA (sA s 3 c f) 2 c k) := by
  obtain ⟨⟨m1, m2, m3, m4, m5, m6, m7⟩, g2, g3, g4, g5⟩ := h
  refine ⟨⟨m1, m2, m3, m4, m5, fun x hx => ⟨?_, ?_⟩, m7⟩, g2, fun q hq => ?_, g4, g5⟩
  · show (if x = c then k else gA s 2 x) = (if x = c then k else K x)
    rw [(m6 x hx).1]
    rfl
  · show (if x = c then f else gA s 3 x) = (if x = c then f else F x)
    rw [(m6 x hx).2]
    rfl
  · rw [gA_sAn _ _ (fun e => hq (by rw [e]; decide)), gA_sAn _ _ (fun e => hq (by rw [e]; decide))]
    exact g3 q hq
theorem thickC_l {A : AT} {m0 : MS} (k44 : MS → Int32 → Int32 → Int32 → Int32 → Int32 → Option (Int32 × MS)) (v1 v2 v3 v4 f : Int32) : ∀ (n i : Nat) (K F : Nat → Int32) (s : MS), i + n = 12 → mo A (aKF A K F) m0 s → (∀ c, c < 12 → (c < i → K c = proK A c ∧ F c = proF A f c) ∧ (i ≤ c → K c = aK A c ∧ F c = aF A c)) → ∃ s', X11_thick_p54 k44 (n + 1) s v1 v2 v3 v4 f (nI i) = X11_thick_p126 k44 s' v1 v2 v3 v4 f ∧ mo A (aPro A f) m0 s' := by
  intro n
  induction n with
  | zero =>
    intro i K F s h ho hK
    have h : i = 12 := by omega
    subst h
    obtain ⟨g1, g2⟩ := ho
    exact ⟨s, by rw [X11_thick_p54_s, if_pos n12_t], mt_kf g1 (fun c hc => (hK c hc).1 hc), g2⟩
  | succ n ih =>
    intro i K F s h ho hK
    have hi : i < 12 := by omega
    have k1 : gA s 2 i = aK A i := by rw [ho.1.K hi]; exact ((hK i hi).2 (Nat.le_refl _)).1
    have k2 : gA s 3 i = aF A i := by rw [ho.1.F hi]; exact ((hK i hi).2 (Nat.le_refl _)).2
    have k3 : ∀ w, gA (sA s 3 i w) 2 i = aK A i := fun w => k1
    rw [X11_thick_p54_s, if_neg (n12_f hi), inr_i hi, inr_i hi, nI_cl hi, k1, k2]
    unfold X11_thick_p90 X11_thick_p119
    have step : ∀ k' f', k' = proK A i → f' = proF A f i → ∃ s', X11_thick_p54 k44 (n + 1) (sA (sA s 3 i f') 2 i k') v1 v2 v3 v4 f (nI (i + 1)) = X11_thick_p126 k44 s' v1 v2 v3 v4 f ∧ mo A (aPro A f) m0 s' := fun k' f' e1 e2 => by
      refine ih (i + 1) (upd K i k') (upd F i f') _ (by omega) (mo_32 ho i k' f') (fun c hc => ⟨fun z => ?_, fun z => ?_⟩)
      · show (if c = i then k' else K c) = _ ∧ (if c = i then f' else F c) = _
        by_cases w : c = i
        · rw [if_pos w, if_pos w, w, e1, e2]
          exact ⟨rfl, rfl⟩
        · rw [if_neg w, if_neg w]
          exact (hK c hc).1 (by omega)
      · show (if c = i then k' else K c) = _ ∧ (if c = i then f' else F c) = _
        rw [if_neg (by omega), if_neg (by omega)]
        exact (hK c hc).2 (by omega)
    by_cases q : aK A i = 1
    · rw [if_pos q]
      simp only [inr_i hi, nI_cl hi, nm_s, k3, nI_1]
      rw [if_pos q]
      exact step 2 f (if_pos q).symm (if_pos q).symm
    · rw [if_neg q]
      simp only [inr_i hi, nI_cl hi, nm_s, k3, nI_1]
      rw [if_neg q]
      exact step (aK A i) (aF A i) (if_neg q).symm (if_neg q).symm
def thL (g : Nat → Int32) : Nat → Nat → Int32 → Int32
  | 0, _, l => l
  | n + 1, f, l => thL g n (f + 1) (if l < 0 ∧ g f = -4 then nI f else l)
def thM (T M : Nat → Int32) (lane : Int32) : Nat → Nat → Int32 → Int32 → Int32
  | 0, _, la, _ => la
  | n + 1, f, la, a0 => thM T M lane n (f + 1) (if T f = lane ∧ a0 < M f then nI f else la) (if T f = lane ∧ a0 < M f then M f else a0)
theorem thL_t {g : Nat → Int32} {n f : Nat} {l : Int32} (h : l < 0 ∧ g f = -4) : thL g (n + 1) f l = thL g n (f + 1) (nI f) := by
  show thL g n (f + 1) (if l < 0 ∧ g f = -4 then nI f else l) = _
  rw [if_pos h]
theorem thL_f {g : Nat → Int32} {n f : Nat} {l : Int32} (h : ¬ (l < 0 ∧ g f = -4)) : thL g (n + 1) f l = thL g n (f + 1) l := by
  show thL g n (f + 1) (if l < 0 ∧ g f = -4 then nI f else l) = _
  rw [if_neg h]
theorem thM_t {T M : Nat → Int32} {lane : Int32} {n f : Nat} {la a0 : Int32} (h : T f = lane ∧ a0 < M f) : thM T M lane (n + 1) f la a0 = thM T M lane n (f + 1) (nI f) (M f) := by
  show thM T M lane n (f + 1) (if T f = lane ∧ a0 < M f then nI f else la) (if T f = lane ∧ a0 < M f then M f else a0) = _
  rw [if_pos h, if_pos h]
theorem thM_f {T M : Nat → Int32} {lane : Int32} {n f : Nat} {la a0 : Int32} (h : ¬ (T f = lane ∧ a0 < M f)) : thM T M lane (n + 1) f la a0 = thM T M lane n (f + 1) la a0 := by
  show thM T M lane n (f + 1) (if T f = lane ∧ a0 < M f then nI f else la) (if T f = lane ∧ a0 < M f then M f else a0) = _
  rw [if_neg h, if_neg h]
theorem thL_p (g : Nat → Int32) : ∀ (n f : Nat) (l : Int32), 0 ≤ l → thL g n f l = l := by
  intro n
  induction n with
  | zero => intro f l _; rfl
  | succ n ih =>
    intro f l h
    show thL g n (f + 1) (if l < 0 ∧ g f = -4 then nI f else l) = l
    rw [if_neg (fun z => Int32.not_lt.mpr h z.1)]
    exact ih (f + 1) l h
/-- where it falls now, where it falls in time, and when, with props of figure f -/
def pS (A : AT) (f : Nat) : Int32 := aFall (aPro A (nI f)) (aM A)
def pT (A : AT) (a f : Nat) : Int32 := faS (gT (aPro A (nI f)) a) 61 0
def pM (A : AT) (a f : Nat) : Int32 := faL (gT (aPro A (nI f)) a) 61 0
theorem pS_e (A : AT) (f : Nat) : aFall (aPro A (nI f)) (aM A) = pS A f := rfl
theorem pT_e (A : AT) (a f : Nat) : faS (gT (aPro A (nI f)) a) 61 0 = pT A a f := rfl
theorem pM_e (A : AT) (a f : Nat) : faL (gT (aPro A (nI f)) a) 61 0 = pM A a f := rfl
theorem aM_pro (A : AT) (f : Int32) : aM (aPro A f) = aM A := rfl
theorem aT_pro (A : AT) (f : Int32) : aT (aPro A f) = aT A := rfl
theorem p143_a {k44 : MS → Int32 → Int32 → Int32 → Int32 → Int32 → Option (Int32 × MS)} {s1 s2 s3 : MS} {w la a0 fI l T M lane : Int32} (e2 : X11_burnOn s1 = some ((), s2)) (f33 : gF s2 33 = M) (f34 : gF s2 34 = T) (e6 : gA s2 4 6 = lane) (e3 : X11_close s2 = some ((), s3)) : X11_thick_p143 k44 s1 w la a0 fI l = k44 s3 w l (if T = lane ∧ a0 < M then fI else la) (if T = lane ∧ a0 < M then M else a0) (fI + 1) := by
  unfold X11_thick_p143 X11_thick_p175 X11_thick_p176 X11_thick_p189 X11_thick_p204
  rw [e2, bnd_s, ic_6, cz_6, f34, e6, f33]
  by_cases c : T = lane
  · rw [if_pos c]
    by_cases d : M ≤ a0
    · rw [if_pos d, if_pos rfl, if_pos rfl, e3, bnd_s, nm_s, if_neg (show ¬ (T = lane ∧ a0 < M) from fun z => Int32.not_lt.mpr d z.2), if_neg (show ¬ (T = lane ∧ a0 < M) from fun z => Int32.not_lt.mpr d z.2)]
    · have d' : T = lane ∧ a0 < M := ⟨c, Int32.not_le.mp d⟩
      rw [if_neg d, if_neg n10, if_neg n10, e3, bnd_s, nm_s, if_pos d', if_pos d']
  · rw [if_neg c, if_pos rfl, if_pos rfl, e3, bnd_s, nm_s, if_neg (show ¬ (T = lane ∧ a0 < M) from fun z => c z.1), if_neg (show ¬ (T = lane ∧ a0 < M) from fun z => c z.1)]
theorem p126_a {k44 : MS → Int32 → Int32 → Int32 → Int32 → Int32 → Option (Int32 × MS)} {s1 : MS} {w la a0 fI l S : Int32} (es : X11_stands s1 = some ((if S = -4 then 1 else 0), s1)) : X11_thick_p126 k44 s1 w l la a0 fI = X11_thick_p143 k44 s1 w la a0 fI (if l < 0 ∧ S = -4 then fI else l) := by
  unfold X11_thick_p126 X11_thick_p142
  by_cases c : 0 ≤ l
  · rw [if_pos c, if_neg (fun z => Int32.not_lt.mpr c z.1)]
  · rw [if_neg c, es, bnd_s]
    by_cases d : S = -4
    · rw [if_pos d, if_neg n10, if_pos ⟨Int32.not_le.mp c, d⟩]
    · rw [if_neg d, if_pos rfl, if_neg (fun z => d z.2)]
theorem thL_s (g : Nat → Int32) (n f : Nat) (l : Int32) : thL g (n + 1) f l = thL g n (f + 1) (if l < 0 ∧ g f = -4 then nI f else l) := rfl
theorem thM_s (T M : Nat → Int32) (lane : Int32) (n f : Nat) (la a0 : Int32) : thM T M lane (n + 1) f la a0 = thM T M lane n (f + 1) (if T f = lane ∧ a0 < M f then nI f else la) (if T f = lane ∧ a0 < M f then M f else a0) := rfl
theorem thick_m {A : AT} (hA : okD A) {m0 : MS} (hR : mR A m0) {a : Nat} (ha : a < 1000) (ea : aM A = nI a) (w : Int32) : ∀ (n f : Nat) (l la a0 : Int32) (s : MS), f + n = 10 → mo A A m0 s → ∃ s', X11_thick_p44 (n + 1 + 1) s w l la a0 (nI f) = some ((if w = 0 then thL (pS A) n f l else thM (pT A a) (pM A a) (aT A 6) n f la a0), s') ∧ mo A A m0 s' := by
  intro n
  induction n with
  | zero =>
    intro f l la a0 s e ho
    have e : f = 10 := by omega
    subst e
    refine ⟨s, ?_, ho⟩
    rw [X11_thick_p44_s, if_pos (by decide)]
    unfold X11_thick_p216 X11_thick_p225 thL thM
    by_cases q : w = 0
    · rw [if_pos q, if_pos q]
    · rw [if_neg q, if_neg q]
  | succ n ih =>
    intro f l la a0 s e ho
    have hf : f < 10 := by omega
    have okP : okB 1000 (aPro A (nI f)) := okB_pro hA.1 ⟨f, hf, rfl⟩
    obtain ⟨s1, e1, o1⟩ := thickC_l (A := A) (m0 := m0) (fun st v1 v2 v3 v4 v5 => X11_thick_p44 (n + 1 + 1) st v1 v2 v3 v4 v5) w l la a0 (nI f) 12 0 (aK A) (aF A) s (by decide) ho (fun c _ => ⟨fun z => absurd z (Nat.not_lt_zero _), fun _ => ⟨rfl, rfl⟩⟩)
    rw [nI_0] at e1
    have eaP : aM (aPro A (nI f)) = nI a := by rw [aM_pro, ea]
    obtain ⟨s2, e2, f33, f34, m, hm, o2, _⟩ := mo_burn o1 hR okP eaP
    obtain ⟨s3, e3, o3, _⟩ := mo_cl o2 hA.1.L hA.D
    have es := X11_stands_a (mo_mR o1 hR) okP
    rw [aM_pro, pS_e] at es
    have e6 : gA s2 4 6 = aT A 6 := o2.1.T (i := 6) (by decide)
    rw [pM_e] at f33
    rw [pT_e] at f34
    rw [X11_thick_p44_s, if_neg (show ¬ (9 : Int32) < nI f from nI_nlt (a := 9) (by omega) (by decide)), e1, p126_a es, p143_a e2 f33 f34 e6 e3, nI_1, thL_s, thM_s]
    exact ih (f + 1) _ _ _ s3 (by omega) o3
theorem thick_0 {xs : XS} {A : AT} (hA : okD A) (hc : ct A (xT xs 0) (xB xs 0)) : ∀ (n f : Nat) (K F : Nat → Int32) (x : XS), f + n = 10 → TK 1 xs x → ct (aKF A K F) (xT x 1) (xB x 1) → (∀ c, c < 12 → ¬ aK A c = 1 → K c = aK A c ∧ F c = aF A c) → ∃ x', X10_thick_p44 (n + 1 + 1) x 0 (-4) (-4) (nI f) = some (thL (pS A) n f (-4), x') ∧ TK 1 xs x' := by
  intro n
  induction n with
  | zero =>
    intro f K F x e hT ht hK
    have e : f = 10 := by omega
    subst e
    exact ⟨x, by rw [X10_thick_p44_s, if_pos (by decide)]; rfl, hT⟩
  | succ n ih =>
    intro f K F x e hT ht hK
    have hf : f < 10 := by omega
    have okP : okB 1000 (aPro A (nI f)) := okB_pro hA.1 ⟨f, hf, rfl⟩
    obtain ⟨x1, e1, t1, c1⟩ := propCuts_a (TK1_c hT hc) (nI f) ht hK
    have ef := X8_fallSideAt_a c1 okP (aM A)
    have e8 : gF (xT x1 1) 8 = aM A := by rw [c1.M, aM_pro]
    rw [pS_e] at ef
    rw [X10_thick_p44_s, if_neg (show ¬ (9 : Int32) < nI f from nI_nlt (a := 9) (by omega) (by decide)), e1, bnd_s, if_pos rfl, e8, ef, bnd_s, uT_self, nm_s]
    unfold X10_thick_p80 X10_thick_p83 X10_thick_p99 X10_thick_p113
    by_cases d : pS A f = -4
    · rw [if_pos d, thL_t ⟨by decide, d⟩, thL_p _ _ _ _ (nI_pos' (by omega))]
      exact ⟨x1, rfl, hT.tr t1⟩
    · rw [if_neg d, if_pos rfl, if_pos (Int32.le_refl _), nm_s, nI_1, thL_f (fun z => d z.2)]
      exact ih (f + 1) _ _ x1 (by omega) (hT.tr t1) c1 (fun c _ hn => ⟨if_neg hn, if_neg hn⟩)
theorem thick_1 {xs : XS} {A : AT} (hA : okD A) (hc : ct A (xT xs 0) (xB xs 0)) {a : Nat} (ha : a < 1000) (ea : aM A = nI a) {w : Int32} (hw : ¬ w = 0) : ∀ (n f : Nat) (la a0 : Int32) (K F : Nat → Int32) (x : XS), f + n = 10 → -4 ≤ a0 → TK 1 xs x → ct (aKF A K F) (xT x 1) (xB x 1) → (∀ c, c < 12 → ¬ aK A c = 1 → K c = aK A c ∧ F c = aF A c) → ∃ x', X10_thick_p44 (n + 1 + 1) x w la a0 (nI f) = some (thM (pT A a) (pM A a) (aT A 6) n f la a0, x') ∧ TK 1 xs x' := by
  intro n
  induction n with
  | zero =>
    intro f la a0 K F x e h4 hT ht hK
    have e : f = 10 := by omega
    subst e
    exact ⟨x, by rw [X10_thick_p44_s, if_pos (by decide)]; rfl, hT⟩
  | succ n ih =>
    intro f la a0 K F x e h4 hT ht hK
    have hf : f < 10 := by omega
    have okP : okB 1000 (aPro A (nI f)) := okB_pro hA.1 ⟨f, hf, rfl⟩
    obtain ⟨x1, e1, t1, c1⟩ := propCuts_a (TK1_c hT hc) (nI f) ht hK
    have eaP : aM (aPro A (nI f)) = nI a := by rw [aM_pro, ea]
    have ef := ftl_a c1 okP ha eaP
    rw [pT_e, pM_e, aT_pro] at ef
    have next : ∀ la' a0', -4 ≤ a0' → ∃ x', X10_thick_p44 (n + 1 + 1) x1 w la' a0' (nI (f + 1)) = some (thM (pT A a) (pM A a) (aT A 6) n (f + 1) la' a0', x') ∧ TK 1 xs x' := fun la' a0' h => ih (f + 1) la' a0' _ _ x1 (by omega) h (hT.tr t1) c1 (fun c _ hn => ⟨if_neg hn, if_neg hn⟩)
    rw [X10_thick_p44_s, if_neg (show ¬ (9 : Int32) < nI f from nI_nlt (a := 9) (by omega) (by decide)), e1, bnd_s, if_neg hw]
    unfold X10_thick_p83 X10_thick_p99 X10_thick_p113
    rw [if_neg hw, ef, bnd_s, uT_self, nm_s, nm_s, nm_s, nI_1]
    by_cases c : pT A a f = aT A 6
    · rw [if_pos c]
      by_cases d : pM A a f ≤ a0
      · have em : thM (pT A a) (pM A a) (aT A 6) (n + 1) f la a0 = thM (pT A a) (pM A a) (aT A 6) n (f + 1) la a0 := thM_f (fun z => Int32.not_lt.mpr d z.2)
        rw [if_pos d, em]
        exact next la a0 h4
      · have d' := Int32.not_le.mp d
        have em : thM (pT A a) (pM A a) (aT A 6) (n + 1) f la a0 = thM (pT A a) (pM A a) (aT A 6) n (f + 1) (nI f) (pM A a f) := thM_t ⟨c, d'⟩
        rw [if_neg d, em]
        exact next (nI f) (pM A a f) (by rw [i_le] at h4 ⊢; rw [i_lt] at d'; omega)
    · have em : thM (pT A a) (pM A a) (aT A 6) (n + 1) f la a0 = thM (pT A a) (pM A a) (aT A 6) n (f + 1) la a0 := thM_f (fun z => c z.1)
      rw [if_neg c, if_pos h4, em]
      exact next la a0 h4
theorem qm_thick {xs : XS} {ms : MS} (h : RR xs ms) (v : Int32) : Cm (X10_thick xs v) (X11_thick ms v) := by
  have h' := RR_17 h 0
  obtain ⟨A, hA, hc, h9, hR⟩ := h'.1
  obtain ⟨a, ha, ea⟩ := hA.1.M
  unfold X10_thick X11_thick
  rw [nm_s (sF ms 17 0)]
  by_cases hv : isN 2 v
  · obtain ⟨v0, v1⟩ := in01 hv
    rw [if_neg v0, if_pos v1, X8_isDown_a hA h9, bnd_s, uT_self, nm_s xs, X11_in_n (n := 1) (by decide) (by decide) hv, bd1_s, if_neg n10, hR.2.2.D]
    by_cases D : aD A = 0
    · rw [if_pos D, if_pos D]
      obtain ⟨x1, e1, t1, c0, c1⟩ := take_a hc hA.1.L
      obtain ⟨s1, e2, o1⟩ := mo_op hR.2.2 hA.1.L hA.D
      obtain ⟨s2, r2, o2⟩ := thick_m hA hR ha ea v 9 1 (-4) (-4) (-4) s1 (by decide) o1
      rw [e1, bnd_s, e2, bnd_s]
      by_cases w : v = 0
      · obtain ⟨x2, r1, t2⟩ := thick_0 (xs := xs) hA hc 9 1 (aK A) (aF A) x1 (by decide) t1 c1 (fun _ _ _ => ⟨rfl, rfl⟩)
        rw [if_pos w] at r2
        rw [show nI 1 = (1 : Int32) from rfl] at r1 r2
        rw [w] at r2
        rw [w]
        exact ⟨_, _, _, r1, r2, RR_q h' hA hc h9 o2.1 t2 (mo_FR o2)⟩
      · obtain ⟨x2, r1, t2⟩ := thick_1 (xs := xs) hA hc ha ea w 9 1 (-4) (-4) (aK A) (aF A) x1 (by decide) (by decide) t1 c1 (fun _ _ _ => ⟨rfl, rfl⟩)
        rw [if_neg w] at r2
        rw [show nI 1 = (1 : Int32) from rfl] at r1 r2
        exact ⟨_, _, _, r1, r2, RR_q h' hA hc h9 o2.1 t2 (mo_FR o2)⟩
    · rw [if_neg D, if_neg D]
      exact ⟨_, _, _, rfl, rfl, h'⟩
  · rw [X11_in_nf (n := 1) (by decide) (by decide) hv, bd1_s, if_pos rfl]
    by_cases v0 : v < 0
    · rw [if_pos v0]
      exact ⟨_, _, _, rfl, rfl, h'⟩
    · rw [if_neg v0, if_neg (in01n hv v0)]
      exact ⟨_, _, _, rfl, rfl, h'⟩
