/-! a town obeys: houses, cells -/
theorem addHouse_f (ts : MS) {s f : Int32} (h : ¬ (isN 12 s ∧ isN 241 f)) : X8_addHouse ts s f = some (0, ts) := by
  unfold X8_addHouse
  by_cases hs : isN 12 s
  · rw [X10_isSide_t hs, bd1_s, if_neg n10]
    have hf : ¬ isN 241 f := fun z => h ⟨hs, z⟩
    by_cases f0 : f < 0
    · rw [if_pos f0, gz_0]
    · rw [if_neg f0]
      rcases isN_f hf (by decide) with g | g
      · exact absurd g f0
      · have l : (240 : Int32) < f := by
          rw [i_le, show (nI 241).toInt = 241 from rfl] at g
          rw [i_lt, show (240 : Int32).toInt = 240 from rfl]
          omega
        rw [if_pos l, gz_0]
  · rw [X10_isSide_f hs, bd1_s, if_pos rfl, gz_0]
theorem houseComes_f (st : MS) {s f : Int32} (h : ¬ (isN 12 s ∧ isN 241 f)) : X11_houseComes st s f = some (0, st) := by
  unfold X11_houseComes X11_houseComes_p32 X11_houseComes_p33 X11_houseComes_p68
  by_cases hs : isN 12 s
  · have hf : ¬ isN 241 f := fun z => h ⟨hs, z⟩
    rw [X11_isSide_t hs, bd1_s, if_neg n10, X11_in_nf (n := 240) (by decide) (by decide) hf, bd1_s, if_pos rfl, if_pos rfl, gz_0]
  · rw [X11_isSide_f hs, bd1_s, if_pos rfl, if_pos rfl, gz_0]
theorem mo_ho {A B : AT} {m0 s : MS} (h : mo A B m0 s) {y : Nat} (hx : aH B = nI y) (v f : Int32) : mo A (aHo B y v f) m0 (sF (sA (sA s 9 y v) 10 y f) 8 (nI y + 1)) := by
  obtain ⟨g1, g2, g3, g4, g5⟩ := h
  refine ⟨mt_ho g1 hx v f, g2, fun k hk => ?_, g4, fun k hk => ?_⟩
  · show gA (sA (sA s 9 y v) 10 y f) k = _
    rw [gA_sAn _ _ (fun e => hk (by rw [e]; decide)), gA_sAn _ _ (fun e => hk (by rw [e]; decide))]
    exact g3 k hk
  · rw [gF_sF, if_neg (fun e => hk (by rw [e]; decide))]
    exact g5 k hk
theorem mo_rp {A B : AT} {m0 s : MS} (h : mo A B m0 s) (c : Nat) (k f : Int32) : mo A (aRep B c k f) m0 (sA (sA s 2 c k) 3 c f) := by
  obtain ⟨g1, g2, g3, g4, g5⟩ := h
  refine ⟨mt_rep g1 c k f, g2, fun j hk => ?_, g4, g5⟩
  rw [gA_sAn _ _ (fun e => hk (by rw [e]; decide)), gA_sAn _ _ (fun e => hk (by rw [e]; decide))]
  exact g3 j hk
theorem ob_111 {xs : XS} {A B A0 : AT} {m0 : MS} (h0 : mR A0 m0) {d n : Nat} {st : MS} (hr : xR xs d = some (n, st)) (hn : n ≤ 100) {i q : Nat} (hi : i < 200) (hq51 : q < 51) {x : XS} {s : MS} (hT : TK 1 xs x) (hc : ct B (xT x 1) (xB x 1)) (h9 : gF (xT x 1) 9 = aFall B (aM B)) (hB : okD B) (ho : mo A B m0 s) (hq : okQ (chN (gA st 1) n) m0 q i) (hy : chN (gA st 1) n i = 111) : OB xs A m0 d i q x s := by
  obtain ⟨q1, q2, q3⟩ := hq
  rw [hy] at q2 q3
  have hx := (xR_tk hT d).trans hr
  have a24 : gA s 24 q = 111 := by rw [ho.2.2.1 24 (by decide)]; exact q2
  have ec := comes_s ho hq51
  have en := fun j (hj : j < 300) kk (hk : kk < 100) w (hw : w = nI kk) => X7_number_a hn st (i := j) hj (kk := kk) hk (w := w) hw
  have f0 : gA m0 25 (3 * q) = (numF (chN (gA st 1) n) 2 (i + 1) 0) := q3.1 (Or.inr (Or.inr (Or.inr (Or.inr (Or.inl rfl)))))
  have f1 : gA m0 25 (3 * q + 1) = (numF (chN (gA st 1) n) 3 (i + 3) 0) := q3.2.2.2.1 rfl
  rw [f0, f1] at ec
  unfold X11_comes_p32 at ec
  rw [inr_i hq51, nm_s, nI_cl hq51, a24, if_neg (show ¬ (111 : Int32) = 97 by decide), if_neg (show ¬ (111 : Int32) = 98 by decide), if_neg (show ¬ (111 : Int32) = 99 by decide), if_neg (show ¬ (111 : Int32) = 100 by decide), if_neg (show ¬ (111 : Int32) = 101 by decide), if_neg (show ¬ (111 : Int32) = 102 by decide), if_neg (show ¬ (111 : Int32) = 103 by decide), if_neg (show ¬ (111 : Int32) = 104 by decide), if_neg (show ¬ (111 : Int32) = 105 by decide), if_neg (show ¬ (111 : Int32) = 106 by decide), if_neg (show ¬ (111 : Int32) = 107 by decide), if_neg (show ¬ (111 : Int32) = 108 by decide), if_neg (show ¬ (111 : Int32) = 109 by decide), if_neg (show ¬ (111 : Int32) = 110 by decide), if_pos rfl] at ec
  have eo : X10_obeys x d (nI i) = (bnd (X8_addHouse (xT x 1) (numF (chN (gA st 1) n) 2 (i + 1) 0) (numF (chN (gA st 1) n) 3 (i + 3) 0)) fun y_132 st_133 => nm (uT x 1 st_133) fun xs_135 => gz y_132 <| some (y_132, xs_135)) := by
    unfold X10_obeys
    rw [hx, bd1_s, X7_at_c hn st (by omega), bnd_s, uR_id hx, nm_s x, hy, if_pos rfl, hx, bd1_s, nI_1, en (i + 1) (by omega) 2 (by decide) 2 rfl, bnd_s, uR_id hx, nm_s x, hx, bd1_s, show nI i + 3 = nI (i + 3) from nI_add i 3, en (i + 3) (by omega) 3 (by decide) 3 rfl, bnd_s, uR_id hx, nm_s x]
  have fail : X8_addHouse (xT x 1) (numF (chN (gA st 1) n) 2 (i + 1) 0) (numF (chN (gA st 1) n) 3 (i + 3) 0) = some (0, xT x 1) → X11_houseComes s (numF (chN (gA st 1) n) 2 (i + 1) 0) (numF (chN (gA st 1) n) 3 (i + 3) 0) = some (0, s) → OB xs A m0 d i q x s := fun h1 h2 => by
    rw [h1, bnd_s, uT_self, nm_s, gz_0] at eo
    rw [h2, bnd_s, gz_0] at ec
    exact ⟨0, x, s, eo, ec, hT, Or.inl ⟨rfl, B, ho⟩⟩
  by_cases hh : isN 12 (numF (chN (gA st 1) n) 2 (i + 1) 0) ∧ isN 241 (numF (chN (gA st 1) n) 3 (i + 3) 0)
  · obtain ⟨hs, hf⟩ := hh
    obtain ⟨y, hy7, ey⟩ := hB.1.H
    by_cases hy6 : y < 6
    · rw [X8_addHouse_t hc ey hy6 hs hf, bnd_s, nm_s, gz_1] at eo
      rw [X11_houseComes_t ho.1 ey hy6 hs hf, bnd_s, gz_1] at ec
      have x1 : xT (uT x 1 (sF (sA (sA (xT x 1) 4 y (numF (chN (gA st 1) n) 2 (i + 1) 0)) 5 y (numF (chN (gA st 1) n) 3 (i + 3) 0)) 6 (nI y + 1))) 1 = sF (sA (sA (xT x 1) 4 y (numF (chN (gA st 1) n) 2 (i + 1) 0)) 5 y (numF (chN (gA st 1) n) 3 (i + 3) 0)) 6 (nI y + 1) := xT_d
      obtain ⟨t2, g1, g2, g3⟩ := settled (okD_ho hB hy6 hs hf) (ct_ho hc ey (numF (chN (gA st 1) n) 2 (i + 1) 0) (numF (chN (gA st 1) n) 3 (i + 3) 0)) h9
      exact ⟨1, _, _, eo, ec, hT.uT _, Or.inr ⟨rfl, t2, by rw [x1]; exact g1, _, okD_ho hB hy6 hs hf, g2, g3, mo_ho ho ey _ _⟩⟩
    · have h6 : aH B = nI 6 := by rw [ey, show y = 6 by omega]
      exact fail (X8_addHouse_n hc h6 hs hf) (X11_houseComes_n ho.1 h6 hs hf)
  · exact fail (addHouse_f _ hh) (houseComes_f _ hh)
theorem ob_99 {xs : XS} {A B A0 : AT} {m0 : MS} (h0 : mR A0 m0) {d n : Nat} {st : MS} (hr : xR xs d = some (n, st)) (hn : n ≤ 100) {i q : Nat} (hi : i < 200) (hq51 : q < 51) {x : XS} {s : MS} (hT : TK 1 xs x) (hc : ct B (xT x 1) (xB x 1)) (h9 : gF (xT x 1) 9 = aFall B (aM B)) (hB : okD B) (ho : mo A B m0 s) (hq : okQ (chN (gA st 1) n) m0 q i) (hf : fdL (chN (gA st 1) n) 4 (i + 1) = none) (hy : chN (gA st 1) n i = 99) : OB xs A m0 d i q x s := by
  obtain ⟨q1, q2, q3⟩ := hq
  rw [hy] at q2 q3
  have hx := (xR_tk hT d).trans hr
  have a24 : gA s 24 q = 99 := by rw [ho.2.2.1 24 (by decide)]; exact q2
  have ec := comes_s ho hq51
  have en := fun j (hj : j < 300) kk (hk : kk < 100) w (hw : w = nI kk) => X7_number_a hn st (i := j) hj (kk := kk) hk (w := w) hw
  have f0 : gA m0 25 (3 * q) = numF (chN (gA st 1) n) 2 (i + 1) 0 := q3.1 (Or.inr (Or.inl rfl))
  have f1 : gA m0 25 (3 * q + 1) = numF (chN (gA st 1) n) 1 (i + 3) 0 := (q3.2.2.2.2 rfl).1
  have f2 : gA m0 25 (3 * q + 2) = numF (chN (gA st 1) n) 1 (i + 4) 0 := (q3.2.2.2.2 rfl).2
  rw [f0, f1] at ec
  obtain ⟨s1, s2⟩ := fd_split (a := 2) (b := 2) hf
  obtain ⟨s3, s4⟩ := fd_split (a := 1) (b := 1) s2
  obtain ⟨a, ea, ha⟩ := num_r s1
  obtain ⟨b, eb, hb⟩ := num_r s3
  obtain ⟨e, ee, he⟩ := num_r s4
  have ha : a < 100 := ha
  have hb : b < 10 := hb
  have he : e < 10 := he
  have eb : numF (chN (gA st 1) n) 1 (i + 3) 0 = nI b := eb
  have ee : numF (chN (gA st 1) n) 1 (i + 4) 0 = nI e := ee
  rw [ea, eb] at ec
  rw [ee] at f2
  have g2 : gA s 25 (3 * q + 2) = nI e := by rw [ho.2.2.1 25 (by decide)]; exact f2
  unfold X11_comes_p32 at ec
  rw [inr_i hq51, nm_s, nI_cl hq51, a24, if_neg (show ¬ (99 : Int32) = 97 by decide), if_neg (show ¬ (99 : Int32) = 98 by decide), if_pos rfl] at ec
  by_cases D : aD B = 0
  · rw [if_pos D, if_neg n10, show (3 : Int32) * nI q = nI (3 * q) from pk_mul 3 q, show nI (3 * q) + 2 = nI (3 * q + 2) from nI_add _ 2, inr_i (by omega : 3 * q + 2 < 153), nI_cl (by omega : 3 * q + 2 < 153), g2] at ec
    have eo : X10_obeys x d (nI i) = (bnd (X10_placesCell x d (nI i)) fun y_28 xs_29 => gz y_28 <| some (y_28, xs_29)) := by
      unfold X10_obeys
      rw [hx, bd1_s, X7_at_c hn st (by omega), bnd_s, uR_id hx, nm_s x, hy, if_neg (show ¬ (99 : Int32) = 111 by decide), X8_isDown_a hB h9, bnd_s, uT_self, nm_s x, if_pos D, if_neg (show ¬ (99 : Int32) = 97 by decide), if_neg (show ¬ (99 : Int32) = 98 by decide), if_pos rfl]
    unfold X10_placesCell at eo
    rw [hx, bd1_s, nI_1, en (i + 1) (by omega) 2 (by decide) 2 rfl, bnd_s, uR_id hx, nm_s x, hx, bd1_s, show nI i + 3 = nI (i + 3) from nI_add i 3, en (i + 3) (by omega) 1 (by decide) 1 rfl, bnd_s, uR_id hx, nm_s x, hx, bd1_s, show nI i + 4 = nI (i + 4) from nI_add i 4, en (i + 4) (by omega) 1 (by decide) 1 rfl, bnd_s, uR_id hx, nm_s x, ea, eb, ee] at eo
    have p183 : X11_comes_p183 s = some (0, s) := p374_0 s
    have fail : X10_obeys x d (nI i) = some (0, x) → X11_cellComes s (nI a) (nI b) (nI e) = some (0, s) → OB xs A m0 d i q x s := fun h1 h2 => by
      rw [h2, bnd_s, if_pos rfl] at ec
      exact ⟨0, x, s, h1, ec.trans p183, hT, Or.inl ⟨rfl, B, ho⟩⟩
    have cc0 : X11_cellComes_p16 s (nI a) (nI b) (nI e) = some (0, s) := by
      unfold X11_cellComes_p16 X11_cellComes_p17 X11_cellComes_p38
      rw [if_pos rfl, gz_0]
    rcases brickOf_s (xs := x) (k := nI b) (f := nI e) with ⟨j, hj, ej, hf10, bo⟩ | ⟨nb, bo⟩
    · have ebj : b = j := (nI_eq (by omega) (by omega)).mp ej
      subst ebj
      rw [bo, bnd_s] at eo
      by_cases ca : a < 12
      · obtain ⟨x1, r1, r2, r3, r4⟩ := X8_replace_1_a hc ca (k := ((b, nI e) : BK)) hj
        have ki : kiB ((b, nI e) : BK) = nI b := ki_n (k := ((b, nI e) : BK)) hj
        rw [X10_isSide_t ⟨a, ca, rfl⟩, bd1_s, if_neg n10, ob_s, r1, bnd_s, gz_1, bnd_s, gz_1] at eo
        have e2 : X11_cellComes s (nI a) (nI b) (nI e) = some (1, sA (sA s 2 a (nI b)) 3 a (nI e)) := by
          unfold X11_cellComes X11_cellComes_p17 X11_cellComes_p38
          rw [if_neg (n12_f ca), if_neg (show ¬ (8 : Int32) ≤ nI b from nI_ge (b := 8) hj (by decide)), if_neg n10, inr_i ca, nI_cl ca, nm_s, inr_i ca, nm_s, gz_1]
        rw [e2, bnd_s, if_neg n10] at ec
        rw [ki] at r3
        obtain ⟨t', s', e3, e4, B', p1, p2, p3, p4⟩ := setl h0 (mo_rp ho a (nI b) (nI e)) (okA_rep hB.1 ⟨b, hj, rfl⟩ ⟨e, he, rfl⟩) D r3 (by rw [r4, h9]; exact aD_0 hB D)
        exact ⟨1, x1, s', eo, ec.trans e4, hT.tr r2, Or.inr ⟨rfl, t', e3, B', p1, p2, p3, p4⟩⟩
      · rw [X10_isSide_f (fun ⟨z, hz, ez⟩ => ca (by rw [(nI_eq (by omega) (by omega)).mp ez]; exact hz)), bd1_s, if_pos rfl, gz_0, bnd_s, gz_0] at eo
        refine fail eo ?_
        unfold X11_cellComes
        rw [if_pos (show (12 : Int32) ≤ nI a from nI_le (a := 12) (by omega) (by omega)), cc0]
    · have hb8 : ¬ b < 8 := fun z => nb ⟨⟨b, z, rfl⟩, ⟨e, he, rfl⟩⟩
      rw [bo, bnd_s] at eo
      refine fail ?_ ?_
      · by_cases ca : a < 12
        · rw [X10_isSide_t ⟨a, ca, rfl⟩, bd1_s, if_neg n10, ob_n, gz_0, bnd_s, gz_0] at eo
          exact eo
        · rw [X10_isSide_f (fun ⟨z, hz, ez⟩ => ca (by rw [(nI_eq (by omega) (by omega)).mp ez]; exact hz)), bd1_s, if_pos rfl, gz_0, bnd_s, gz_0] at eo
          exact eo
      · unfold X11_cellComes
        by_cases ca : (12 : Int32) ≤ nI a
        · rw [if_pos ca, cc0]
        · rw [if_neg ca, if_pos (show (8 : Int32) ≤ nI b from nI_le (a := 8) (by omega) (by omega)), cc0]
  · rw [if_neg D, if_pos rfl] at ec
    have eo : X10_obeys x d (nI i) = some (0, x) := by
      unfold X10_obeys
      rw [hx, bd1_s, X7_at_c hn st (by omega), bnd_s, uR_id hx, nm_s x, hy, if_neg (show ¬ (99 : Int32) = 111 by decide), X8_isDown_a hB h9, bnd_s, uT_self, nm_s x, if_neg D, gz_0]
    exact ⟨0, x, s, eo, ec.trans (p374_0 s), hT, Or.inl ⟨rfl, B, ho⟩⟩
