/-! more on which side, the wedge, sits -/
theorem p2_or : ∀ l, l < 12 → ∀ u, u < 12 → nI (2 ^ l) ||| nI (2 ^ u) = nI (2 ^ l ||| 2 ^ u) ∧ 2 ^ l ||| 2 ^ u < 4096 ∧ ∀ x, x < 12 → ((2 ^ l ||| 2 ^ u) / 2 ^ x % 2 = 1 ↔ (x = l ∨ x = u)) := by decide +kernel
theorem cut_2 {A : AT} {l u : Nat} (hl : l < 12) (hu : u < 12) : ∀ x, x < 12 → aK (aCut A (2 ^ l ||| 2 ^ u)) x = aK (aRep (aRep A l 1 0) u 1 0) x ∧ aF (aCut A (2 ^ l ||| 2 ^ u)) x = aF (aRep (aRep A l 1 0) u 1 0) x := fun x hx => by
  have hb := (p2_or l hl u hu).2.2 x hx
  show cutK A (2 ^ l ||| 2 ^ u) x = (if x = u then 1 else (if x = l then 1 else aK A x)) ∧ cutF A (2 ^ l ||| 2 ^ u) x = (if x = u then 0 else (if x = l then 0 else aF A x))
  unfold cutK cutF
  by_cases e : x = u
  · rw [if_pos e, if_pos e, if_pos (hb.mpr (Or.inr e)), if_pos (hb.mpr (Or.inr e))]
    exact ⟨rfl, rfl⟩
  · rw [if_neg e, if_neg e]
    by_cases g : x = l
    · rw [if_pos g, if_pos g, if_pos (hb.mpr (Or.inl g)), if_pos (hb.mpr (Or.inl g))]
      exact ⟨rfl, rfl⟩
    · have hn : ¬ (2 ^ l ||| 2 ^ u) / 2 ^ x % 2 = 1 := fun z => (hb.mp z).elim g e
      rw [if_neg g, if_neg g, if_neg hn, if_neg hn]
      exact ⟨rfl, rfl⟩
def ldF (B : AT) (m : Int32) (l : Nat) : Int32 := lA B m l - (if lA B m ((l + 1) % 12) < lA B m ((l + 11) % 12) then lA B m ((l + 11) % 12) else lA B m ((l + 1) % 12))
theorem ldF_c {A B : AT} (hT : ∀ i, i < 7 → aT A i = aT B i) (hK : ∀ c, c < 12 → aK A c = aK B c ∧ aF A c = aF B c) (m : Int32) (l : Nat) : ldF A m l = ldF B m l := by
  unfold ldF
  rw [lA_c hT hK, lA_c hT hK, lA_c hT hK]
theorem leadWithout_a {A : AT} {xs : XS} {N : Nat} (hok : okB N A) (hc : ct A (xT xs 0) (xB xs 0)) {l : Nat} (hl : l < 12) (el : aT A 6 = nI l) {v : Nat} (hv : v < 4096) {K F : Nat → Int32} (ht : ct (aKF A K F) (xT xs 1) (xB xs 1)) : ∃ xs', X10_leadWithout xs (nI v) = some (ldF (aCut A v) (aM A) l, xs') ∧ TK 1 xs xs' ∧ ct (aCut A v) (xT xs' 1) (xB xs' 1) := by
  obtain ⟨x1, e1, t1, c1⟩ := cutJust_a hc hv ht
  have ok1 := okB_cut hok v
  have e6 : gA (xT x1 1) 3 6 = nI l := by rw [c1.T (by decide)]; exact el
  refine ⟨x1, ?_, t1, c1⟩
  unfold X10_leadWithout ldF
  rw [e1, bnd_s, ic_6, cz_6, e6, nm_s, nI_1, ar_p (l + 1) (by omega), bd1_s, X8_lackOn_a c1 ok1 _ (show (l + 1) % 12 < 12 by omega), bnd_s, uT_self, nm_s x1, show nI l - (1 : Int32) = nI l - nI 1 from rfl, ar_m l hl 1 (by decide), bd1_s, X8_lackOn_a c1 ok1 _ (show (l + 12 - 1) % 12 < 12 by omega), bnd_s, uT_self, nm_s x1, X8_lackOn_a c1 ok1 _ hl, bnd_s, uT_self, nm_s x1, nm_s, c1.M]
  rfl
theorem more_3 {A : AT} (hA : okD A) {m0 : MS} (hR : mR A m0) {l : Nat} (hl : l < 12) {B : AT} {s : MS} (ho : mo A B m0 s) (hok : okB 1000 B) (hM : aM B = aM A) (k : MS → Int32 → Int32 → Int32 → Int32 → Int32 → Int32 → Option (Int32 × MS)) (v4 v5 v6 : Int32) : ∃ s', mo A A m0 s' ∧ X11_moreOn_p82 k s (nI l) (nI ((l + 1) % 12)) (nI ((l + 11) % 12)) v4 v5 v6 = k s' (nI l) (nI ((l + 1) % 12)) (nI ((l + 11) % 12)) (if v6 = 0 then v6 else if ldF B (aM A) l ≤ v5 then v4 else v6) (if v6 = 0 then ldF B (aM A) l else if ldF B (aM A) l ≤ v5 then v5 else ldF B (aM A) l) (v6 + 1) := by
  have R2 := mo_mR ho hR
  obtain ⟨s3, e3, o3, _⟩ := mo_cl ho hA.1.L hA.D
  refine ⟨s3, o3, ?_⟩
  have el : lA B (aM B) l - (if lA B (aM B) ((l + 1) % 12) < lA B (aM B) ((l + 11) % 12) then lA B (aM B) ((l + 11) % 12) else lA B (aM B) ((l + 1) % 12)) = ldF B (aM A) l := by
    rw [hM]
    rfl
  unfold X11_moreOn_p82 X11_moreOn_p119 X11_moreOn_p126 X11_moreOn_p140 X11_moreOn_p147
  rw [X11_lacksOn_a R2 hok hl, bnd_s, X11_lacksOn_a R2 hok (show (l + 1) % 12 < 12 by omega), bnd_s, X11_lacksOn_a R2 hok (show (l + 11) % 12 < 12 by omega), bnd_s, greater_s, bd1_s, nm_s, e3, bnd_s, el]
  by_cases q : v6 = 0
  · rw [if_pos q, if_pos q, if_pos q, if_pos q, nm_s]
  · rw [if_neg q, if_neg q, if_neg q, if_neg q]
    by_cases z : ldF B (aM A) l ≤ v5
    · rw [if_pos z, if_pos z, if_pos z, if_neg q, if_pos z, nm_s]
    · rw [if_neg z, if_neg z, if_neg z, if_neg q, if_neg z, nm_s]
theorem qm_moreOn {xs : XS} {ms : MS} (h : RR xs ms) : Cm (X10_moreOn xs) (X11_moreOn ms) := by
  have h' := RR_17 h 0
  obtain ⟨A, hA, hc, h9, hR⟩ := h'.1
  obtain ⟨l, hl, el⟩ := hA.1.T6
  have hu : (l + 1) % 12 < 12 := by omega
  have hd : (l + 11) % 12 < 12 := by omega
  unfold X10_moreOn X11_moreOn
  rw [nm_s (sF ms 17 0), X8_isDown_a hA h9, bnd_s, uT_self, nm_s xs, hR.2.2.D]
  by_cases D : aD A = 0
  · rw [if_pos D, if_pos D]
    obtain ⟨x1, e1, t1, c0, c1⟩ := take_a hc hA.1.L
    obtain ⟨x2, e2, t2, c2⟩ := leadWithout_a hA.1 c0 hl el (p2_12 l hl) (K := aK A) (F := aF A) c1
    obtain ⟨x3, e3, t3, c3⟩ := leadWithout_a hA.1 (TK1_c t2 c0) hl el (p2_or l hl _ hu).2.1 c2
    obtain ⟨x4, e4, t4, c4⟩ := leadWithout_a hA.1 (TK1_c t3 (TK1_c t2 c0)) hl el (p2_or l hl _ hd).2.1 c3
    rw [← (p2_or l hl _ hu).1, ← bi_n l hl, ← bi_n _ hu] at e3
    rw [← (p2_or l hl _ hd).1, ← bi_n l hl, ← bi_n _ hd] at e4
    rw [← bi_n l hl] at e2
    have n0 : ldF (aCut A (2 ^ l)) (aM A) l = ldF (aRep A l 1 0) (aM A) l := ldF_c (A := aCut A (2 ^ l)) (B := aRep A l 1 0) (fun i _ => rfl) (cut_1 hl) _ _
    have n1 : ldF (aCut A (2 ^ l ||| 2 ^ ((l + 1) % 12))) (aM A) l = ldF (aRep (aRep A l 1 0) ((l + 1) % 12) 1 0) (aM A) l := ldF_c (A := aCut A (2 ^ l ||| 2 ^ ((l + 1) % 12))) (B := aRep (aRep A l 1 0) ((l + 1) % 12) 1 0) (fun i _ => rfl) (cut_2 hl hu) _ _
    have n2 : ldF (aCut A (2 ^ l ||| 2 ^ ((l + 11) % 12))) (aM A) l = ldF (aRep (aRep A l 1 0) ((l + 11) % 12) 1 0) (aM A) l := ldF_c (A := aCut A (2 ^ l ||| 2 ^ ((l + 11) % 12))) (B := aRep (aRep A l 1 0) ((l + 11) % 12) 1 0) (fun i _ => rfl) (cut_2 hl hd) _ _
    rw [n0] at e2
    rw [n1] at e3
    rw [n2] at e4
    obtain ⟨N0, eN0⟩ : ∃ N, N = ldF (aRep A l 1 0) (aM A) l := ⟨_, rfl⟩
    obtain ⟨N1, eN1⟩ : ∃ N, N = ldF (aRep (aRep A l 1 0) ((l + 1) % 12) 1 0) (aM A) l := ⟨_, rfl⟩
    obtain ⟨N2, eN2⟩ : ∃ N, N = ldF (aRep (aRep A l 1 0) ((l + 11) % 12) 1 0) (aM A) l := ⟨_, rfl⟩
    rw [← eN0] at e2
    rw [← eN1] at e3
    rw [← eN2] at e4
    have TT := ((t1.tr t2).tr t3).tr t4
    have m6 : gA (sF ms 17 0) 4 6 = nI l := by rw [hR.2.2.T (by decide)]; exact el
    obtain ⟨s1, f1, o1⟩ := mo_op hR.2.2 hA.1.L hA.D
    obtain ⟨p1, g1, q1⟩ := mo_cut o1 hl
    obtain ⟨s2, o2, w1⟩ := more_3 hA hR hl q1 (okB_cut1 hA.1 l) rfl (fun st v1 v2 v3 v4 v5 v6 => X11_moreOn_p51 3 st v1 v2 v3 v4 v5 v6) 0 0 0
    obtain ⟨p2, g2, q2⟩ := mo_cut o2 hl
    obtain ⟨p3, g3, q3⟩ := mo_cut q2 hu
    obtain ⟨s3, o3, w2⟩ := more_3 hA hR hl q3 (okB_cut1 (okB_cut1 hA.1 l) _) rfl (fun st v1 v2 v3 v4 v5 v6 => X11_moreOn_p51 2 st v1 v2 v3 v4 v5 v6) 0 N0 1
    obtain ⟨p4, g4, q4⟩ := mo_cut o3 hl
    obtain ⟨p5, g5, q5⟩ := mo_cut q4 hd
    obtain ⟨s4, o4, w3⟩ := more_3 hA hR hl q5 (okB_cut1 (okB_cut1 hA.1 l) _) rfl (fun st v1 v2 v3 v4 v5 v6 => X11_moreOn_p51 1 st v1 v2 v3 v4 v5 v6) (if N1 ≤ N0 then 0 else 1) (if N1 ≤ N0 then N0 else N1) 2
    rw [← eN0, if_pos rfl, if_pos rfl, show (0 : Int32) + 1 = 1 from rfl] at w1
    rw [← eN1, if_neg n10, if_neg n10, show (1 : Int32) + 1 = 2 from rfl] at w2
    rw [← eN2, if_neg (show ¬ (2 : Int32) = 0 by decide), if_neg (show ¬ (2 : Int32) = 0 by decide), show (2 : Int32) + 1 = 3 from rfl] at w3
    have M1 : X11_moreOn_p51 4 s1 (nI l) (nI ((l + 1) % 12)) (nI ((l + 11) % 12)) 0 0 0 = X11_moreOn_p51 3 s2 (nI l) (nI ((l + 1) % 12)) (nI ((l + 11) % 12)) 0 N0 1 := by
      rw [X11_moreOn_p51_s, if_neg (by decide), g1, bnd_s, if_pos (by decide)]
      exact w1
    have M2 : X11_moreOn_p51 3 s2 (nI l) (nI ((l + 1) % 12)) (nI ((l + 11) % 12)) 0 N0 1 = X11_moreOn_p51 2 s3 (nI l) (nI ((l + 1) % 12)) (nI ((l + 11) % 12)) (if N1 ≤ N0 then 0 else 1) (if N1 ≤ N0 then N0 else N1) 2 := by
      rw [X11_moreOn_p51_s, if_neg (by decide), g2, bnd_s, if_neg (by decide), if_pos rfl]
      unfold X11_moreOn_p79
      rw [g3, bnd_s]
      exact w2
    have M3 : X11_moreOn_p51 2 s3 (nI l) (nI ((l + 1) % 12)) (nI ((l + 11) % 12)) (if N1 ≤ N0 then 0 else 1) (if N1 ≤ N0 then N0 else N1) 2 = some ((if N2 ≤ (if N1 ≤ N0 then N0 else N1) then (if N1 ≤ N0 then 0 else 1) else 2), s4) := by
      rw [X11_moreOn_p51_s, if_neg (by decide), g4, bnd_s, if_neg (by decide), if_neg (by decide)]
      unfold X11_moreOn_p79
      rw [g5, bnd_s, w3]
      show X11_moreOn_p51 1 s4 _ _ _ _ _ 3 = _
      rw [X11_moreOn_p51_s, if_pos (by decide)]
      rfl
    rw [e1, bnd_s, ic_6, cz_6, c0.T (by decide), el, nm_s (nI l), show (1 : Int32) <<< (nI l &&& 31) = biI l from rfl, nm_s (biI l), e2, bnd_s, nI_1, ar_p (l + 1) (by omega), bd1_s, show (1 : Int32) <<< (nI ((l + 1) % 12) &&& 31) = biI ((l + 1) % 12) from rfl, e3, bnd_s, show nI l - (1 : Int32) = nI l - nI 1 from rfl, ar_m l hl 1 (by decide), bd1_s, show (1 : Int32) <<< (nI ((l + 12 - 1) % 12) &&& 31) = biI ((l + 11) % 12) from rfl, e4, bnd_s]
    rw [ic_6, m6, nm_s (nI l), dvi_12, nI_1, rm_12 (by omega), nm_s, dvi_12, show nI l + (11 : Int32) = nI (l + 11) from nI_add l 11, rm_12 (by omega), nm_s, f1, bnd_s, M1, M2, M3]
    have r := RR_q h' hA hc h9 o4.1 TT (mo_FR o4)
    unfold X10_moreOn_p91 X10_moreOn_p103
    by_cases z : N0 < N1
    · have z1 : ¬ N1 ≤ N0 := Int32.not_le.mpr z
      rw [if_pos z, if_neg z1, if_neg z1]
      by_cases y : N1 < N2
      · rw [if_pos y, if_neg (Int32.not_le.mpr y)]
        exact ⟨_, _, _, rfl, rfl, r⟩
      · rw [if_neg y, if_pos (Int32.not_lt.mp y)]
        exact ⟨_, _, _, rfl, rfl, r⟩
    · have z1 : N1 ≤ N0 := Int32.not_lt.mp z
      rw [if_neg z, if_pos z1, if_pos z1]
      by_cases y : N0 < N2
      · rw [if_pos y, if_neg (Int32.not_le.mpr y), if_pos (by rw [i_le] at z1; rw [i_lt] at y ⊢; omega)]
        exact ⟨_, _, _, rfl, rfl, r⟩
      · rw [if_neg y, if_pos (Int32.not_lt.mp y)]
        exact ⟨_, _, _, rfl, rfl, r⟩
  · rw [if_neg D, if_neg D]
    exact ⟨_, _, _, rfl, rfl, h'⟩
/-! the wedge -/
def gLk (B : AT) : Int32 := lA B (aM B) (weakF (lA B (aM B)))
theorem X11_gl {B : AT} {st : MS} (hR : mR B st) {N : Nat} (hok : okB N B) (k : Int32 → MS → Option (Int32 × MS)) : (bnd (X11_weakestSide st) fun y st1 => bnd (X11_lacksOn st1 y) fun z st2 => k z st2) = k (gLk B) st := by
  rw [X11_weakestSide_a hR hok, bnd_s, X11_lacksOn_a hR hok (weakF_lt _), bnd_s]
  rfl
theorem ct_pt {A A' : AT} {ts : MS} {B : Nat → BK} (h : ct A ts B) (h1 : A.1 = A'.1) (hT : ∀ i, i < 7 → aT A i = aT A' i) (hK : ∀ c, c < 12 → aK A c = aK A' c ∧ aF A c = aF A' c) (hS : ∀ x, x < 6 → aS A x = aS A' x ∧ aR A x = aR A' x) : ct A' ts B := by
  obtain ⟨c1, c2, c3, c4, c5, c6⟩ := h
  have eH : aH A = aH A' := congrArg (fun z => z.2.2.2) h1
  have eL : aL A = aL A' := congrArg (fun z => z.1) h1
  have eM : aM A = aM A' := congrArg (fun z => z.2.1) h1
  refine ⟨fun c hc => ?_, fun i hi => (c2 i hi).trans (hT i hi), fun x hx => ⟨(c3 x hx).1.trans (hS x hx).1, (c3 x hx).2.trans (hS x hx).2⟩, c4.trans eH, c5.trans eL, c6.trans eM⟩
  have e := c1 c hc
  unfold aBe aBu at e ⊢
  rw [← (hK c hc).1, ← (hK c hc).2]
  exact e
theorem mt_pt {A A' : AT} {st : MS} (h : mt A st) (h1 : A.1 = A'.1) (hT : ∀ i, i < 7 → aT A i = aT A' i) (hK : ∀ c, c < 12 → aK A c = aK A' c ∧ aF A c = aF A' c) (hS : ∀ x, x < 6 → aS A x = aS A' x ∧ aR A x = aR A' x) : mt A' st := by
  obtain ⟨m1, m2, m3, m4, m5, m6, m7⟩ := h
  have eH : aH A = aH A' := congrArg (fun z => z.2.2.2) h1
  have eL : aL A = aL A' := congrArg (fun z => z.1) h1
  have eM : aM A = aM A' := congrArg (fun z => z.2.1) h1
  have eD : aD A = aD A' := congrArg (fun z => z.2.2.1) h1
  exact ⟨m1.trans eL, m2.trans eM, m3.trans eD, m4.trans eH, fun i hi => (m5 i hi).trans (hT i hi), fun c hc => ⟨(m6 c hc).1.trans (hK c hc).1, (m6 c hc).2.trans (hK c hc).2⟩, fun x hx => ⟨(m7 x hx).1.trans (hS x hx).1, (m7 x hx).2.trans (hS x hx).2⟩⟩
theorem wedge_l {A : AT} (hA : okD A) {xs : XS} (hc : ct A (xT xs 0) (xB xs 0)) {m0 : MS} (hR : mR A m0) : ∀ (n i : Nat) (least found : Int32) (x : XS) (s : MS), i + n = 12 → TK 1 xs x → ct A (xT x 1) (xB x 1) → mo A A m0 s → ∃ r x' s', X10_wedge_p47 (n + 1) x ((7, 0) : BK) least found (nI i) = some (r, x') ∧ X11_wedge_p33 (n + 1) s least found (nI i) = some (r, s') ∧ TK 1 xs x' ∧ mo A A m0 s' := by
  intro n
  induction n with
  | zero =>
    intro i least found x s e hT ht ho
    have e : i = 12 := by omega
    subst e
    exact ⟨found, x, s, by rw [X10_wedge_p47_s, if_pos n12_t]; rfl, by rw [X11_wedge_p33_s, if_pos n12_t]; rfl, hT, ho⟩
  | succ n ih =>
    intro i least found x s e hT ht ho
    have hi : i < 12 := by omega
    obtain ⟨x1, e1, t1, c1, _⟩ := X8_replace_1_a ht hi (k := ((7, 0) : BK)) (by decide)
    have ok1 : okB 1000 (aRep A i 7 0) := okA_rep hA.1 ⟨7, by decide, rfl⟩ ⟨0, by decide, rfl⟩
    have c1 : ct (aRep A i 7 0) (xT x1 1) (xB x1 1) := c1
    have hx1 := hT.tr t1
    obtain ⟨x2, e2, t2, c2, _⟩ := X8_replace_1_a c1 hi (k := xB x1 0 i) (by rw [(hx1.1 0 (by decide)).2]; exact hc.k8 hi)
    have eb : xB x1 0 = xB xs 0 := (hx1.1 0 (by decide)).2
    rw [eb] at e2 c2
    have c3 : ct A (xT x2 1) (xB x2 1) := ct_pt c2 rfl (fun _ _ => rfl) (fun c hcc => by
      show (if c = i then kiB (xB xs 0 i) else (if c = i then 7 else aK A c)) = aK A c ∧ (if c = i then (xB xs 0 i).2 else (if c = i then 0 else aF A c)) = aF A c
      by_cases z : c = i
      · rw [if_pos z, if_pos z, z, hc.K hi, hc.F hi]
        exact ⟨rfl, rfl⟩
      · rw [if_neg z, if_neg z, if_neg z, if_neg z]
        exact ⟨rfl, rfl⟩) (fun _ _ => ⟨rfl, rfl⟩)
    have o1 : mo A (aRep A i 7 0) m0 (sA (sA s 2 i 7) 3 i 0) := by
      obtain ⟨g1, g2, g3, g4, g5⟩ := ho
      refine ⟨mt_rep g1 i 7 0, g2, fun k hk => ?_, g4, g5⟩
      rw [gA_sAn _ _ (fun e => hk (by rw [e]; decide)), gA_sAn _ _ (fun e => hk (by rw [e]; decide))]
      exact g3 k hk
    obtain ⟨s3, e3, o3, _⟩ := mo_cl o1 hA.1.L hA.D
    have eg : lA (aRep A i 7 0) (aM (aRep A i 7 0)) (weakF (lA (aRep A i 7 0) (aM (aRep A i 7 0)))) = gLk (aRep A i 7 0) := rfl
    rw [X10_wedge_p47_s, if_neg (n12_f hi), e1, bnd_s, X8_greatestLack_a c1 ok1, bnd_s, uT_self, nm_s x1, inr_i hi, nI_cl hi, eb, e2, bnd_s, eg]
    rw [X11_wedge_p33_s, if_neg (n12_f hi), inr_i hi, nm_s, inr_i hi, nm_s, nI_cl hi, X11_gl (mo_mR o1 hR) ok1]
    unfold X10_wedge_p104 X11_wedge_p75 X11_wedge_p88
    by_cases z : least ≤ gLk (aRep A i 7 0)
    · rw [if_pos z, if_pos z, if_pos z, nm_s, nI_1, e3, bnd_s, nm_s]
      exact ih (i + 1) least found x2 s3 (by omega) (hx1.tr t2) c3 o3
    · rw [if_neg z, if_neg z, if_neg z, nm_s, nI_1, e3, bnd_s, nm_s]
      exact ih (i + 1) _ _ x2 s3 (by omega) (hx1.tr t2) c3 o3
theorem qm_wedge {xs : XS} {ms : MS} (h : RR xs ms) : Cm (X10_wedge xs) (X11_wedge ms) := by
  have h' := RR_17 h 0
  obtain ⟨A, hA, hc, h9, hR⟩ := h'.1
  unfold X10_wedge X11_wedge
  rw [nm_s (sF ms 17 0), X8_isDown_a hA h9, bnd_s, uT_self, nm_s xs, hR.2.2.D]
  by_cases D : aD A = 0
  · rw [if_pos D, if_pos D]
    obtain ⟨x1, e1, t1, c0, c1⟩ := take_a hc hA.1.L
    obtain ⟨s1, e2, o1⟩ := mo_op hR.2.2 hA.1.L hA.D
    obtain ⟨r, x2, s2, r1, r2, t2, o2⟩ := wedge_l hA hc hR 12 0 (gLk A) (-4) x1 s1 (by decide) t1 c1 o1
    rw [nI_0] at r1 r2
    rw [e1, bnd_s, X8_greatestLack_a c0 hA.1, bnd_s, uT_self, nm_s x1, X11_gl hR hA.1, e2, bnd_s]
    exact ⟨_, _, _, r1, r2, RR_q h' hA hc h9 o2.1 t2 (mo_FR o2)⟩
  · rw [if_neg D, if_neg D]
    exact ⟨_, _, _, rfl, rfl, h'⟩
