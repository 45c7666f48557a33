/-! a town obeys: the told -/
theorem xR_tk {x0 x : XS} (h : TK 1 x0 x) (d : Nat) : xR x d = xR x0 d := by
  show x.2.2.2.2 d = x0.2.2.2.2 d
  rw [h.2]
theorem ob_97 {xs : XS} {A B A0 : AT} {m0 : MS} (h0 : mR A0 m0) {d n : Nat} {st : MS} (hr : xR xs d = some (n, st)) (hn : n ≤ 100) {i q : Nat} (hi : i < 200) (hq51 : q < 51) {x : XS} {s : MS} (hT : TK 1 xs x) (hc : ct B (xT x 1) (xB x 1)) (h9 : gF (xT x 1) 9 = aFall B (aM B)) (hB : okD B) (ho : mo A B m0 s) (hq : okQ (chN (gA st 1) n) m0 q i) (hy : chN (gA st 1) n i = 97) : OB xs A m0 d i q x s := by
  obtain ⟨q1, q2, q3⟩ := hq
  rw [hy] at q2 q3
  have hx := (xR_tk hT d).trans hr
  have a24 : gA s 24 q = 97 := by rw [ho.2.2.1 24 (by decide)]; exact q2
  have ec := comes_s ho hq51
  have en := fun j (hj : j < 300) kk (hk : kk < 100) w (hw : w = nI kk) => X7_number_a hn st (i := j) hj (kk := kk) hk (w := w) hw
  have f0 : gA m0 25 (3 * q) = numF (chN (gA st 1) n) 2 (i + 1) 0 := q3.1 (Or.inl rfl)
  rw [f0] at ec
  unfold X11_comes_p32 at ec
  rw [inr_i hq51, nm_s, nI_cl hq51, a24, if_pos rfl] at ec
  by_cases D : aD B = 0
  · rw [if_pos D, if_neg n10] at ec
    have eo : X10_obeys x d (nI i) = (bnd (X8_isTold (xT x 1) (nI 6) (numF (chN (gA st 1) n) 2 (i + 1) 0)) fun y_20 st_21 => nm (uT x 1 st_21) fun xs_23 => gz y_20 <| some (y_20, xs_23)) := by
      unfold X10_obeys
      rw [hx, bd1_s, X7_at_c hn st (by omega), bnd_s, uR_id hx, nm_s x, hy, if_neg (show ¬ (97 : Int32) = 111 by decide), X8_isDown_a hB h9, bnd_s, uT_self, nm_s x, if_pos D, if_pos rfl, hx, bd1_s, nI_1, en (i + 1) (by omega) 2 (by decide) 2 rfl, bnd_s, uR_id hx, nm_s x]
      rfl
    rcases comesSet_s s (j := 6) (by decide) (numF (chN (gA st 1) n) 2 (i + 1) 0) with ⟨t1, t2, t3⟩ | ⟨t1, t2⟩
    · rw [isTold_1 (by decide) t1, bnd_s, nm_s, gz_1] at eo
      have t2' : X11_comesSet s 6 (numF (chN (gA st 1) n) 2 (i + 1) 0) = _ := t2
      rw [t2', bnd_s, if_neg n10] at ec
      have x1 : xT (uT x 1 (sA (xT x 1) 3 6 (numF (chN (gA st 1) n) 2 (i + 1) 0))) 1 = sA (xT x 1) 3 6 (numF (chN (gA st 1) n) 2 (i + 1) 0) := xT_d
      obtain ⟨t', s', e1, e2, B', p1, p2, p3, p4⟩ := setl h0 (mo_st ho 6 (numF (chN (gA st 1) n) 2 (i + 1) 0)) (okA_st hB.1 t3) D (ct_st hc 6 (numF (chN (gA st 1) n) 2 (i + 1) 0)) (by show gF (xT x 1) 9 = -4; rw [h9]; exact aD_0 hB D)
      exact ⟨1, _, s', eo, ec.trans e2, hT.uT _, Or.inr ⟨rfl, t', by rw [x1]; exact e1, B', p1, p2, p3, p4⟩⟩
    · rw [isTold_0 t1, bnd_s, uT_self, nm_s, gz_0] at eo
      have t2' : X11_comesSet s 6 (numF (chN (gA st 1) n) 2 (i + 1) 0) = _ := t2
      rw [t2', bnd_s, if_pos rfl] at ec
      exact ⟨0, x, _, eo, ec.trans (p374_0 _), hT, Or.inl ⟨rfl, _, mo_st ho 6 _⟩⟩
  · rw [if_neg D, if_pos rfl] at ec
    have eo : X10_obeys x d (nI i) = some (0, x) := by
      unfold X10_obeys
      rw [hx, bd1_s, X7_at_c hn st (by omega), bnd_s, uR_id hx, nm_s x, hy, if_neg (show ¬ (97 : Int32) = 111 by decide), X8_isDown_a hB h9, bnd_s, uT_self, nm_s x, if_neg D, gz_0]
    exact ⟨0, x, s, eo, ec.trans (p374_0 s), hT, Or.inl ⟨rfl, B, ho⟩⟩
theorem ob_103 {xs : XS} {A B A0 : AT} {m0 : MS} (h0 : mR A0 m0) {d n : Nat} {st : MS} (hr : xR xs d = some (n, st)) (hn : n ≤ 100) {i q : Nat} (hi : i < 200) (hq51 : q < 51) {x : XS} {s : MS} (hT : TK 1 xs x) (hc : ct B (xT x 1) (xB x 1)) (h9 : gF (xT x 1) 9 = aFall B (aM B)) (hB : okD B) (ho : mo A B m0 s) (hq : okQ (chN (gA st 1) n) m0 q i) (hy : chN (gA st 1) n i = 103) : OB xs A m0 d i q x s := by
  obtain ⟨q1, q2, q3⟩ := hq
  rw [hy] at q2 q3
  have hx := (xR_tk hT d).trans hr
  have a24 : gA s 24 q = 103 := by rw [ho.2.2.1 24 (by decide)]; exact q2
  have ec := comes_s ho hq51
  have en := fun j (hj : j < 300) kk (hk : kk < 100) w (hw : w = nI kk) => X7_number_a hn st (i := j) hj (kk := kk) hk (w := w) hw
  have f0 : gA m0 25 (3 * q) = numF (chN (gA st 1) n) 3 (i + 1) 0 := q3.2.1 (Or.inl rfl)
  rw [f0] at ec
  unfold X11_comes_p32 at ec
  rw [inr_i hq51, nm_s, nI_cl hq51, a24, if_neg (show ¬ (103 : Int32) = 97 by decide), if_neg (show ¬ (103 : Int32) = 98 by decide), if_neg (show ¬ (103 : Int32) = 99 by decide), if_neg (show ¬ (103 : Int32) = 100 by decide), if_neg (show ¬ (103 : Int32) = 101 by decide), if_neg (show ¬ (103 : Int32) = 102 by decide), if_pos rfl] at ec
  by_cases D : aD B = 0
  · rw [if_pos D, if_neg n10] at ec
    have eo : X10_obeys x d (nI i) = (bnd (X8_isTold (xT x 1) (nI 4) (numF (chN (gA st 1) n) 3 (i + 1) 0)) fun y_20 st_21 => nm (uT x 1 st_21) fun xs_23 => gz y_20 <| some (y_20, xs_23)) := by
      unfold X10_obeys
      rw [hx, bd1_s, X7_at_c hn st (by omega), bnd_s, uR_id hx, nm_s x, hy, if_neg (show ¬ (103 : Int32) = 111 by decide), X8_isDown_a hB h9, bnd_s, uT_self, nm_s x, if_pos D, if_neg (show ¬ (103 : Int32) = 97 by decide), if_neg (show ¬ (103 : Int32) = 98 by decide), if_neg (show ¬ (103 : Int32) = 99 by decide), if_neg (show ¬ (103 : Int32) = 100 by decide), if_neg (show ¬ (103 : Int32) = 101 by decide), if_neg (show ¬ (103 : Int32) = 102 by decide), if_pos rfl, hx, bd1_s, nI_1, en (i + 1) (by omega) 3 (by decide) 3 rfl, bnd_s, uR_id hx, nm_s x]
      rfl
    rcases comesSet_s s (j := 4) (by decide) (numF (chN (gA st 1) n) 3 (i + 1) 0) with ⟨t1, t2, t3⟩ | ⟨t1, t2⟩
    · rw [isTold_1 (by decide) t1, bnd_s, nm_s, gz_1] at eo
      have t2' : X11_comesSet s 4 (numF (chN (gA st 1) n) 3 (i + 1) 0) = _ := t2
      rw [t2', bnd_s, if_neg n10] at ec
      have x1 : xT (uT x 1 (sA (xT x 1) 3 4 (numF (chN (gA st 1) n) 3 (i + 1) 0))) 1 = sA (xT x 1) 3 4 (numF (chN (gA st 1) n) 3 (i + 1) 0) := xT_d
      obtain ⟨t', s', e1, e2, B', p1, p2, p3, p4⟩ := setl h0 (mo_st ho 4 (numF (chN (gA st 1) n) 3 (i + 1) 0)) (okA_st hB.1 t3) D (ct_st hc 4 (numF (chN (gA st 1) n) 3 (i + 1) 0)) (by show gF (xT x 1) 9 = -4; rw [h9]; exact aD_0 hB D)
      exact ⟨1, _, s', eo, ec.trans e2, hT.uT _, Or.inr ⟨rfl, t', by rw [x1]; exact e1, B', p1, p2, p3, p4⟩⟩
    · rw [isTold_0 t1, bnd_s, uT_self, nm_s, gz_0] at eo
      have t2' : X11_comesSet s 4 (numF (chN (gA st 1) n) 3 (i + 1) 0) = _ := t2
      rw [t2', bnd_s, if_pos rfl] at ec
      exact ⟨0, x, _, eo, ec.trans (p374_0 _), hT, Or.inl ⟨rfl, _, mo_st ho 4 _⟩⟩
  · rw [if_neg D, if_pos rfl] at ec
    have eo : X10_obeys x d (nI i) = some (0, x) := by
      unfold X10_obeys
      rw [hx, bd1_s, X7_at_c hn st (by omega), bnd_s, uR_id hx, nm_s x, hy, if_neg (show ¬ (103 : Int32) = 111 by decide), X8_isDown_a hB h9, bnd_s, uT_self, nm_s x, if_neg D, gz_0]
    exact ⟨0, x, s, eo, ec.trans (p374_0 s), hT, Or.inl ⟨rfl, B, ho⟩⟩
theorem ob_104 {xs : XS} {A B A0 : AT} {m0 : MS} (h0 : mR A0 m0) {d n : Nat} {st : MS} (hr : xR xs d = some (n, st)) (hn : n ≤ 100) {i q : Nat} (hi : i < 200) (hq51 : q < 51) {x : XS} {s : MS} (hT : TK 1 xs x) (hc : ct B (xT x 1) (xB x 1)) (h9 : gF (xT x 1) 9 = aFall B (aM B)) (hB : okD B) (ho : mo A B m0 s) (hq : okQ (chN (gA st 1) n) m0 q i) (hy : chN (gA st 1) n i = 104) : OB xs A m0 d i q x s := by
  obtain ⟨q1, q2, q3⟩ := hq
  rw [hy] at q2 q3
  have hx := (xR_tk hT d).trans hr
  have a24 : gA s 24 q = 104 := by rw [ho.2.2.1 24 (by decide)]; exact q2
  have ec := comes_s ho hq51
  have en := fun j (hj : j < 300) kk (hk : kk < 100) w (hw : w = nI kk) => X7_number_a hn st (i := j) hj (kk := kk) hk (w := w) hw
  have f0 : gA m0 25 (3 * q) = numF (chN (gA st 1) n) 3 (i + 1) 0 := q3.2.1 (Or.inr rfl)
  rw [f0] at ec
  unfold X11_comes_p32 at ec
  rw [inr_i hq51, nm_s, nI_cl hq51, a24, if_neg (show ¬ (104 : Int32) = 97 by decide), if_neg (show ¬ (104 : Int32) = 98 by decide), if_neg (show ¬ (104 : Int32) = 99 by decide), if_neg (show ¬ (104 : Int32) = 100 by decide), if_neg (show ¬ (104 : Int32) = 101 by decide), if_neg (show ¬ (104 : Int32) = 102 by decide), if_neg (show ¬ (104 : Int32) = 103 by decide), if_pos rfl] at ec
  by_cases D : aD B = 0
  · rw [if_pos D, if_neg n10] at ec
    have eo : X10_obeys x d (nI i) = (bnd (X8_isTold (xT x 1) (nI 5) (numF (chN (gA st 1) n) 3 (i + 1) 0)) fun y_20 st_21 => nm (uT x 1 st_21) fun xs_23 => gz y_20 <| some (y_20, xs_23)) := by
      unfold X10_obeys
      rw [hx, bd1_s, X7_at_c hn st (by omega), bnd_s, uR_id hx, nm_s x, hy, if_neg (show ¬ (104 : Int32) = 111 by decide), X8_isDown_a hB h9, bnd_s, uT_self, nm_s x, if_pos D, if_neg (show ¬ (104 : Int32) = 97 by decide), if_neg (show ¬ (104 : Int32) = 98 by decide), if_neg (show ¬ (104 : Int32) = 99 by decide), if_neg (show ¬ (104 : Int32) = 100 by decide), if_neg (show ¬ (104 : Int32) = 101 by decide), if_neg (show ¬ (104 : Int32) = 102 by decide), if_neg (show ¬ (104 : Int32) = 103 by decide), if_pos rfl, hx, bd1_s, nI_1, en (i + 1) (by omega) 3 (by decide) 3 rfl, bnd_s, uR_id hx, nm_s x]
      rfl
    rcases comesSet_s s (j := 5) (by decide) (numF (chN (gA st 1) n) 3 (i + 1) 0) with ⟨t1, t2, t3⟩ | ⟨t1, t2⟩
    · rw [isTold_1 (by decide) t1, bnd_s, nm_s, gz_1] at eo
      have t2' : X11_comesSet s 5 (numF (chN (gA st 1) n) 3 (i + 1) 0) = _ := t2
      rw [t2', bnd_s, if_neg n10] at ec
      have x1 : xT (uT x 1 (sA (xT x 1) 3 5 (numF (chN (gA st 1) n) 3 (i + 1) 0))) 1 = sA (xT x 1) 3 5 (numF (chN (gA st 1) n) 3 (i + 1) 0) := xT_d
      obtain ⟨t', s', e1, e2, B', p1, p2, p3, p4⟩ := setl h0 (mo_st ho 5 (numF (chN (gA st 1) n) 3 (i + 1) 0)) (okA_st hB.1 t3) D (ct_st hc 5 (numF (chN (gA st 1) n) 3 (i + 1) 0)) (by show gF (xT x 1) 9 = -4; rw [h9]; exact aD_0 hB D)
      exact ⟨1, _, s', eo, ec.trans e2, hT.uT _, Or.inr ⟨rfl, t', by rw [x1]; exact e1, B', p1, p2, p3, p4⟩⟩
    · rw [isTold_0 t1, bnd_s, uT_self, nm_s, gz_0] at eo
      have t2' : X11_comesSet s 5 (numF (chN (gA st 1) n) 3 (i + 1) 0) = _ := t2
      rw [t2', bnd_s, if_pos rfl] at ec
      exact ⟨0, x, _, eo, ec.trans (p374_0 _), hT, Or.inl ⟨rfl, _, mo_st ho 5 _⟩⟩
  · rw [if_neg D, if_pos rfl] at ec
    have eo : X10_obeys x d (nI i) = some (0, x) := by
      unfold X10_obeys
      rw [hx, bd1_s, X7_at_c hn st (by omega), bnd_s, uR_id hx, nm_s x, hy, if_neg (show ¬ (104 : Int32) = 111 by decide), X8_isDown_a hB h9, bnd_s, uT_self, nm_s x, if_neg D, gz_0]
    exact ⟨0, x, s, eo, ec.trans (p374_0 s), hT, Or.inl ⟨rfl, B, ho⟩⟩
theorem ob_108 {xs : XS} {A B A0 : AT} {m0 : MS} (h0 : mR A0 m0) {d n : Nat} {st : MS} (hr : xR xs d = some (n, st)) (hn : n ≤ 100) {i q : Nat} (hi : i < 200) (hq51 : q < 51) {x : XS} {s : MS} (hT : TK 1 xs x) (hc : ct B (xT x 1) (xB x 1)) (h9 : gF (xT x 1) 9 = aFall B (aM B)) (hB : okD B) (ho : mo A B m0 s) (hq : okQ (chN (gA st 1) n) m0 q i) (hy : chN (gA st 1) n i = 108) : OB xs A m0 d i q x s := by
  obtain ⟨q1, q2, q3⟩ := hq
  rw [hy] at q2 q3
  have hx := (xR_tk hT d).trans hr
  have a24 : gA s 24 q = 108 := by rw [ho.2.2.1 24 (by decide)]; exact q2
  have ec := comes_s ho hq51
  have en := fun j (hj : j < 300) kk (hk : kk < 100) w (hw : w = nI kk) => X7_number_a hn st (i := j) hj (kk := kk) hk (w := w) hw
  have f0 : gA m0 25 (3 * q) = numF (chN (gA st 1) n) 2 (i + 1) 0 := q3.1 (Or.inr (Or.inr (Or.inl rfl)))
  have f1 : gA m0 25 (3 * q + 1) = numF (chN (gA st 1) n) 2 (i + 3) 0 := q3.2.2.1 (Or.inl rfl)
  rw [f0, f1] at ec
  unfold X11_comes_p32 at ec
  rw [inr_i hq51, nm_s, nI_cl hq51, a24, if_neg (show ¬ (108 : Int32) = 97 by decide), if_neg (show ¬ (108 : Int32) = 98 by decide), if_neg (show ¬ (108 : Int32) = 99 by decide), if_neg (show ¬ (108 : Int32) = 100 by decide), if_neg (show ¬ (108 : Int32) = 101 by decide), if_neg (show ¬ (108 : Int32) = 102 by decide), if_neg (show ¬ (108 : Int32) = 103 by decide), if_neg (show ¬ (108 : Int32) = 104 by decide), if_neg (show ¬ (108 : Int32) = 105 by decide), if_neg (show ¬ (108 : Int32) = 106 by decide), if_neg (show ¬ (108 : Int32) = 107 by decide), if_pos rfl] at ec
  by_cases D : aD B = 0
  · rw [if_pos D, if_neg n10] at ec
    have eo : X10_obeys x d (nI i) = (bnd (X10_tellsPair x (nI 0) d (nI i)) fun y xs_76 => gz y <| some (y, xs_76)) := by
      unfold X10_obeys
      rw [hx, bd1_s, X7_at_c hn st (by omega), bnd_s, uR_id hx, nm_s x, hy, if_neg (show ¬ (108 : Int32) = 111 by decide), X8_isDown_a hB h9, bnd_s, uT_self, nm_s x, if_pos D, if_neg (show ¬ (108 : Int32) = 97 by decide), if_neg (show ¬ (108 : Int32) = 98 by decide), if_neg (show ¬ (108 : Int32) = 99 by decide), if_neg (show ¬ (108 : Int32) = 100 by decide), if_neg (show ¬ (108 : Int32) = 101 by decide), if_neg (show ¬ (108 : Int32) = 102 by decide), if_neg (show ¬ (108 : Int32) = 103 by decide), if_neg (show ¬ (108 : Int32) = 104 by decide), if_neg (show ¬ (108 : Int32) = 105 by decide), if_neg (show ¬ (108 : Int32) = 106 by decide), if_neg (show ¬ (108 : Int32) = 107 by decide), if_pos rfl]
      rfl
    unfold X10_tellsPair X10_tellsPair_p39 at eo
    rw [hx, bd1_s, nI_1, en (i + 1) (by omega) 2 (by decide) 2 rfl, bnd_s, uR_id hx, nm_s x] at eo
    rcases comesSet_s s (j := 0) (by decide) (numF (chN (gA st 1) n) 2 (i + 1) 0) with ⟨t1, t2, t3⟩ | ⟨t1, t2⟩
    · have x1 : xT (uT x 1 (sA (xT x 1) 3 0 (numF (chN (gA st 1) n) 2 (i + 1) 0))) 1 = sA (xT x 1) 3 0 (numF (chN (gA st 1) n) 2 (i + 1) 0) := xT_d
      have hx1 : xR (uT x 1 (sA (xT x 1) 3 0 (numF (chN (gA st 1) n) 2 (i + 1) 0))) d = some (n, st) := hx
      rw [isTold_1 (by decide) t1, bnd_s, nm_s, if_neg n10, hx1, bd1_s, show nI i + 3 = nI (i + 3) from nI_add i 3, en (i + 3) (by omega) 2 (by decide) 2 rfl, bnd_s, uR_id hx1, nm_s, x1, show nI 0 + 1 = nI 1 from nI_1 0] at eo
      have t2' : X11_comesSet s 0 (numF (chN (gA st 1) n) 2 (i + 1) 0) = _ := t2
      rw [t2', bnd_s, if_neg n10] at ec
      rcases comesSet_s (sA s 4 0 (numF (chN (gA st 1) n) 2 (i + 1) 0)) (j := 1) (by decide) (numF (chN (gA st 1) n) 2 (i + 3) 0) with ⟨u1, u2, u3⟩ | ⟨u1, u2⟩
      · rw [isTold_1 (by decide) u1, bnd_s, uT_uT, nm_s, if_neg n10, gz_1, bnd_s, gz_1] at eo
        have u2' : X11_comesSet (sA s 4 0 (numF (chN (gA st 1) n) 2 (i + 1) 0)) 1 (numF (chN (gA st 1) n) 2 (i + 3) 0) = _ := u2
        rw [u2', bnd_s, if_neg n10] at ec
        have x2 : xT (uT x 1 (sA (sA (xT x 1) 3 0 (numF (chN (gA st 1) n) 2 (i + 1) 0)) 3 1 (numF (chN (gA st 1) n) 2 (i + 3) 0))) 1 = sA (sA (xT x 1) 3 0 (numF (chN (gA st 1) n) 2 (i + 1) 0)) 3 1 (numF (chN (gA st 1) n) 2 (i + 3) 0) := xT_d
        obtain ⟨t', s', e1, e2, B', p1, p2, p3, p4⟩ := setl h0 (mo_st (mo_st ho 0 (numF (chN (gA st 1) n) 2 (i + 1) 0)) 1 (numF (chN (gA st 1) n) 2 (i + 3) 0)) (okA_st (okA_st hB.1 t3) u3) D (ct_st (ct_st hc 0 (numF (chN (gA st 1) n) 2 (i + 1) 0)) 1 (numF (chN (gA st 1) n) 2 (i + 3) 0)) (by show gF (xT x 1) 9 = -4; rw [h9]; exact aD_0 hB D)
        exact ⟨1, _, s', eo, ec.trans e2, hT.uT _, Or.inr ⟨rfl, t', by rw [x2]; exact e1, B', p1, p2, p3, p4⟩⟩
      · rw [isTold_0 u1, bnd_s, uT_uT, nm_s, if_pos rfl, gz_0, bnd_s, gz_0] at eo
        have u2' : X11_comesSet (sA s 4 0 (numF (chN (gA st 1) n) 2 (i + 1) 0)) 1 (numF (chN (gA st 1) n) 2 (i + 3) 0) = _ := u2
        rw [u2', bnd_s, if_pos rfl] at ec
        exact ⟨0, _, _, eo, ec.trans (p374_0 _), hT.uT _, Or.inl ⟨rfl, _, mo_st (mo_st ho 0 (numF (chN (gA st 1) n) 2 (i + 1) 0)) 1 (numF (chN (gA st 1) n) 2 (i + 3) 0)⟩⟩
    · rw [isTold_0 t1, bnd_s, uT_self, nm_s, if_pos rfl, gz_0, bnd_s, gz_0] at eo
      have t2' : X11_comesSet s 0 (numF (chN (gA st 1) n) 2 (i + 1) 0) = _ := t2
      rw [t2', bnd_s, if_pos rfl] at ec
      exact ⟨0, x, _, eo, ec.trans (p374_0 _), hT, Or.inl ⟨rfl, _, mo_st ho 0 _⟩⟩
  · rw [if_neg D, if_pos rfl] at ec
    have eo : X10_obeys x d (nI i) = some (0, x) := by
      unfold X10_obeys
      rw [hx, bd1_s, X7_at_c hn st (by omega), bnd_s, uR_id hx, nm_s x, hy, if_neg (show ¬ (108 : Int32) = 111 by decide), X8_isDown_a hB h9, bnd_s, uT_self, nm_s x, if_neg D, gz_0]
    exact ⟨0, x, s, eo, ec.trans (p374_0 s), hT, Or.inl ⟨rfl, B, ho⟩⟩
theorem ob_119 {xs : XS} {A B A0 : AT} {m0 : MS} (h0 : mR A0 m0) {d n : Nat} {st : MS} (hr : xR xs d = some (n, st)) (hn : n ≤ 100) {i q : Nat} (hi : i < 200) (hq51 : q < 51) {x : XS} {s : MS} (hT : TK 1 xs x) (hc : ct B (xT x 1) (xB x 1)) (h9 : gF (xT x 1) 9 = aFall B (aM B)) (hB : okD B) (ho : mo A B m0 s) (hq : okQ (chN (gA st 1) n) m0 q i) (hy : chN (gA st 1) n i = 119) : OB xs A m0 d i q x s := by
  obtain ⟨q1, q2, q3⟩ := hq
  rw [hy] at q2 q3
  have hx := (xR_tk hT d).trans hr
  have a24 : gA s 24 q = 119 := by rw [ho.2.2.1 24 (by decide)]; exact q2
  have ec := comes_s ho hq51
  have en := fun j (hj : j < 300) kk (hk : kk < 100) w (hw : w = nI kk) => X7_number_a hn st (i := j) hj (kk := kk) hk (w := w) hw
  have f0 : gA m0 25 (3 * q) = numF (chN (gA st 1) n) 2 (i + 1) 0 := q3.1 (Or.inr (Or.inr (Or.inr (Or.inr (Or.inr rfl)))))
  have f1 : gA m0 25 (3 * q + 1) = numF (chN (gA st 1) n) 2 (i + 3) 0 := q3.2.2.1 (Or.inr rfl)
  rw [f0, f1] at ec
  unfold X11_comes_p32 at ec
  rw [inr_i hq51, nm_s, nI_cl hq51, a24, if_neg (show ¬ (119 : Int32) = 97 by decide), if_neg (show ¬ (119 : Int32) = 98 by decide), if_neg (show ¬ (119 : Int32) = 99 by decide), if_neg (show ¬ (119 : Int32) = 100 by decide), if_neg (show ¬ (119 : Int32) = 101 by decide), if_neg (show ¬ (119 : Int32) = 102 by decide), if_neg (show ¬ (119 : Int32) = 103 by decide), if_neg (show ¬ (119 : Int32) = 104 by decide), if_neg (show ¬ (119 : Int32) = 105 by decide), if_neg (show ¬ (119 : Int32) = 106 by decide), if_neg (show ¬ (119 : Int32) = 107 by decide), if_neg (show ¬ (119 : Int32) = 108 by decide), if_neg (show ¬ (119 : Int32) = 109 by decide), if_neg (show ¬ (119 : Int32) = 110 by decide), if_neg (show ¬ (119 : Int32) = 111 by decide), if_neg (show ¬ (119 : Int32) = 112 by decide), if_neg (show ¬ (119 : Int32) = 113 by decide), if_neg (show ¬ (119 : Int32) = 114 by decide), if_neg (show ¬ (119 : Int32) = 115 by decide), if_neg (show ¬ (119 : Int32) = 116 by decide), if_neg (show ¬ (119 : Int32) = 117 by decide), if_neg (show ¬ (119 : Int32) = 118 by decide), if_pos rfl] at ec
  by_cases D : aD B = 0
  · rw [if_pos D, if_neg n10] at ec
    have eo : X10_obeys x d (nI i) = (bnd (X10_tellsPair x (nI 2) d (nI i)) fun y xs_76 => gz y <| some (y, xs_76)) := by
      unfold X10_obeys
      rw [hx, bd1_s, X7_at_c hn st (by omega), bnd_s, uR_id hx, nm_s x, hy, if_neg (show ¬ (119 : Int32) = 111 by decide), X8_isDown_a hB h9, bnd_s, uT_self, nm_s x, if_pos D, if_neg (show ¬ (119 : Int32) = 97 by decide), if_neg (show ¬ (119 : Int32) = 98 by decide), if_neg (show ¬ (119 : Int32) = 99 by decide), if_neg (show ¬ (119 : Int32) = 100 by decide), if_neg (show ¬ (119 : Int32) = 101 by decide), if_neg (show ¬ (119 : Int32) = 102 by decide), if_neg (show ¬ (119 : Int32) = 103 by decide), if_neg (show ¬ (119 : Int32) = 104 by decide), if_neg (show ¬ (119 : Int32) = 105 by decide), if_neg (show ¬ (119 : Int32) = 106 by decide), if_neg (show ¬ (119 : Int32) = 107 by decide), if_neg (show ¬ (119 : Int32) = 108 by decide), if_neg (show ¬ (119 : Int32) = 109 by decide), if_neg (show ¬ (119 : Int32) = 110 by decide), if_neg (show ¬ (119 : Int32) = 111 by decide), if_neg (show ¬ (119 : Int32) = 112 by decide), if_neg (show ¬ (119 : Int32) = 113 by decide), if_neg (show ¬ (119 : Int32) = 114 by decide), if_neg (show ¬ (119 : Int32) = 115 by decide), if_neg (show ¬ (119 : Int32) = 116 by decide), if_neg (show ¬ (119 : Int32) = 117 by decide), if_neg (show ¬ (119 : Int32) = 118 by decide), if_pos rfl]
      rfl
    unfold X10_tellsPair X10_tellsPair_p39 at eo
    rw [hx, bd1_s, nI_1, en (i + 1) (by omega) 2 (by decide) 2 rfl, bnd_s, uR_id hx, nm_s x] at eo
    rcases comesSet_s s (j := 2) (by decide) (numF (chN (gA st 1) n) 2 (i + 1) 0) with ⟨t1, t2, t3⟩ | ⟨t1, t2⟩
    · have x1 : xT (uT x 1 (sA (xT x 1) 3 2 (numF (chN (gA st 1) n) 2 (i + 1) 0))) 1 = sA (xT x 1) 3 2 (numF (chN (gA st 1) n) 2 (i + 1) 0) := xT_d
      have hx1 : xR (uT x 1 (sA (xT x 1) 3 2 (numF (chN (gA st 1) n) 2 (i + 1) 0))) d = some (n, st) := hx
      rw [isTold_1 (by decide) t1, bnd_s, nm_s, if_neg n10, hx1, bd1_s, show nI i + 3 = nI (i + 3) from nI_add i 3, en (i + 3) (by omega) 2 (by decide) 2 rfl, bnd_s, uR_id hx1, nm_s, x1, show nI 2 + 1 = nI 3 from nI_1 2] at eo
      have t2' : X11_comesSet s 2 (numF (chN (gA st 1) n) 2 (i + 1) 0) = _ := t2
      rw [t2', bnd_s, if_neg n10] at ec
      rcases comesSet_s (sA s 4 2 (numF (chN (gA st 1) n) 2 (i + 1) 0)) (j := 3) (by decide) (numF (chN (gA st 1) n) 2 (i + 3) 0) with ⟨u1, u2, u3⟩ | ⟨u1, u2⟩
      · rw [isTold_1 (by decide) u1, bnd_s, uT_uT, nm_s, if_neg n10, gz_1, bnd_s, gz_1] at eo
        have u2' : X11_comesSet (sA s 4 2 (numF (chN (gA st 1) n) 2 (i + 1) 0)) 3 (numF (chN (gA st 1) n) 2 (i + 3) 0) = _ := u2
        rw [u2', bnd_s, if_neg n10] at ec
        have x2 : xT (uT x 1 (sA (sA (xT x 1) 3 2 (numF (chN (gA st 1) n) 2 (i + 1) 0)) 3 3 (numF (chN (gA st 1) n) 2 (i + 3) 0))) 1 = sA (sA (xT x 1) 3 2 (numF (chN (gA st 1) n) 2 (i + 1) 0)) 3 3 (numF (chN (gA st 1) n) 2 (i + 3) 0) := xT_d
        obtain ⟨t', s', e1, e2, B', p1, p2, p3, p4⟩ := setl h0 (mo_st (mo_st ho 2 (numF (chN (gA st 1) n) 2 (i + 1) 0)) 3 (numF (chN (gA st 1) n) 2 (i + 3) 0)) (okA_st (okA_st hB.1 t3) u3) D (ct_st (ct_st hc 2 (numF (chN (gA st 1) n) 2 (i + 1) 0)) 3 (numF (chN (gA st 1) n) 2 (i + 3) 0)) (by show gF (xT x 1) 9 = -4; rw [h9]; exact aD_0 hB D)
        exact ⟨1, _, s', eo, ec.trans e2, hT.uT _, Or.inr ⟨rfl, t', by rw [x2]; exact e1, B', p1, p2, p3, p4⟩⟩
      · rw [isTold_0 u1, bnd_s, uT_uT, nm_s, if_pos rfl, gz_0, bnd_s, gz_0] at eo
        have u2' : X11_comesSet (sA s 4 2 (numF (chN (gA st 1) n) 2 (i + 1) 0)) 3 (numF (chN (gA st 1) n) 2 (i + 3) 0) = _ := u2
        rw [u2', bnd_s, if_pos rfl] at ec
        exact ⟨0, _, _, eo, ec.trans (p374_0 _), hT.uT _, Or.inl ⟨rfl, _, mo_st (mo_st ho 2 (numF (chN (gA st 1) n) 2 (i + 1) 0)) 3 (numF (chN (gA st 1) n) 2 (i + 3) 0)⟩⟩
    · rw [isTold_0 t1, bnd_s, uT_self, nm_s, if_pos rfl, gz_0, bnd_s, gz_0] at eo
      have t2' : X11_comesSet s 2 (numF (chN (gA st 1) n) 2 (i + 1) 0) = _ := t2
      rw [t2', bnd_s, if_pos rfl] at ec
      exact ⟨0, x, _, eo, ec.trans (p374_0 _), hT, Or.inl ⟨rfl, _, mo_st ho 2 _⟩⟩
  · rw [if_neg D, if_pos rfl] at ec
    have eo : X10_obeys x d (nI i) = some (0, x) := by
      unfold X10_obeys
      rw [hx, bd1_s, X7_at_c hn st (by omega), bnd_s, uR_id hx, nm_s x, hy, if_neg (show ¬ (119 : Int32) = 111 by decide), X8_isDown_a hB h9, bnd_s, uT_self, nm_s x, if_neg D, gz_0]
    exact ⟨0, x, s, eo, ec.trans (p374_0 s), hT, Or.inl ⟨rfl, B, ho⟩⟩
