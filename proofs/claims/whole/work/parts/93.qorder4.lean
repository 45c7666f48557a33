/-! which to cut in what order -/
theorem inr_0 {γ : Type} {X : Option γ} : inr (0 : Int32) 4096 X = X := if_neg (by decide)
theorem sub_m1 (x : Int32) : x - 1 = x + (-1 : Int32) := Int32.sub_eq_add_neg _ _
theorem qm_order {xs : XS} {ms : MS} (h : RR xs ms) (v w : Int32) : Cm (X10_order xs v w) (X11_order ms v w) := by
  have h' := RR_17 h 0
  obtain ⟨A, hA, hc, h9, hR⟩ := h'.1
  unfold X10_order X11_order
  rw [nm_s (sF ms 17 0)]
  by_cases n1 : v < 1
  · rw [if_pos n1, X11_in_f (lo := 1) (hi := 4095) (by decide) (by decide) (Or.inl n1), bd1_s, if_pos rfl]
    exact ⟨_, _, _, rfl, rfl, h'⟩
  rw [if_neg n1]
  by_cases n2 : 4095 < v
  · rw [if_pos n2, X11_in_f (lo := 1) (hi := 4095) (by decide) (by decide) (Or.inr n2), bd1_s, if_pos rfl]
    exact ⟨_, _, _, rfl, rfl, h'⟩
  rw [if_neg n2, X11_in_t (lo := 1) (hi := 4095) (by decide) (by decide) (Int32.not_lt.mp n1) (Int32.not_lt.mp n2), bd1_s, if_neg n10]
  have n1' := Int32.not_lt.mp n1
  have n2' := Int32.not_lt.mp n2
  rw [i_le, show (1 : Int32).toInt = 1 from rfl] at n1'
  rw [i_le, show (4095 : Int32).toInt = 4095 from rfl] at n2'
  obtain ⟨V, hV, eV⟩ : isN 4096 v := isN_t (fun q => by rw [i_lt, t_0] at q; omega) (fun q => by rw [i_le, show (nI 4096).toInt = 4096 from rfl] at q; omega) (by decide)
  have hV1 : 1 ≤ V := by
    rw [eV, nI_toInt (by omega)] at n1'
    omega
  clear n1' n2' n1 n2
  subst eV
  obtain ⟨p1, p2, p3⟩ := pc_s hV
  rw [p1, p2, bd1_s, bd1_s]
  by_cases n8 : (8 : Int32) < nI (pcN V)
  · rw [if_pos n8, if_pos n8]
    exact ⟨_, _, _, rfl, rfl, h'⟩
  rw [if_neg n8, if_neg n8]
  by_cases w0 : 0 ≤ w
  · rw [if_pos w0, if_pos w0, X8_isDown_a hA h9, bnd_s, uT_self, nm_s xs, hR.2.2.D]
    by_cases D : aD A = 0
    · rw [if_pos D, if_pos D]
      obtain ⟨x1, e1, t1, c0, c1⟩ := take_a hc hA.1.L
      obtain ⟨x2, e2, t2⟩ := last_l (xs := xs) hA.1 hc hV 4987 12 (aK A) (aF A) x1 (by decide) t1 c1
      have eL : X10_lastInOrder xs (nI V) = some (loR A V 12, x2) := by
        unfold X10_lastInOrder
        rw [e1, bnd_s]
        exact e2
      rw [eL, bnd_s, bd1_s, inr_i hV, nm_s, nI_cl hV]
      have hm : mt A (sA (sF ms 17 0) 32 V (vp_nar .boolean (1 : Int32))) := hR.2.2
      have f1 : FR (sF ms 17 0) (sA (sF ms 17 0) 32 V (vp_nar .boolean (1 : Int32))) := FR_sA _ (by decide) _ _
      have hR1 : mR A (sA (sF ms 17 0) 32 V (vp_nar .boolean (1 : Int32))) := FR_mR hR f1 hm
      have g0 : gA (sA (sF ms 17 0) 32 V (vp_nar .boolean (1 : Int32))) 32 V = 1 := by
        rw [gA_sA, if_pos rfl, if_pos rfl]
        rfl
      generalize sA (sF ms 17 0) 32 V (vp_nar .boolean (1 : Int32)) = m1 at hm f1 hR1 g0 ⊢
      obtain ⟨s1, e3, o1⟩ := mo_op hm hA.1.L hA.D
      obtain ⟨w', s2, e4, o2, tw⟩ := table_l hA D hR1 hV w (4999 - V) V (gA m1 32) s1 (Nat.le_refl _) (mo_32i o1) (fun d d1 d2 d3 => by
        have e : d = V := Nat.le_antisymm (sub_le d2 hV d3) d1
        subst e
        rw [g0]
        exact ⟨fun _ => Or.inl rfl, fun _ => n10⟩)
      rw [show 4999 - V + V + 1 = 5000 by omega] at e4
      have gw : gA s2 32 = w' := by rw [o2.2.2.1 32 (by decide), gA_A32]
      have rr : RR x2 s2 := RR_q h' hA hc h9 o2.1 t2 ((f1.tr (FR_A32 m1 w')).tr (mo_FR o2))
      rw [e3, bnd_s, nm_s, sub_m1 (nI V), e4]
      unfold X11_order_p181
      rw [inr_0, cz_0, gw, p2, bd1_s]
      have t0 := tw 0 (Nat.le_refl _) (by decide) (fun c _ q => by rw [Nat.zero_testBit] at q; exact absurd q (by decide))
      rcases loR_c A V 12 (Nat.le_refl _) with ⟨l1, l2⟩ | ⟨L, hL, l1, hG, hmax⟩
      · have z : w' 0 = 0 := by
          by_cases y : w' 0 = 0
          · exact y
          · rcases t0.mp y with q | ⟨L, hL, g, _⟩
            · omega
            · exact absurd g (l2 L hL)
        rw [l1, if_pos rfl, if_pos z]
        exact ⟨_, _, _, rfl, rfl, rr⟩
      · have z : ¬ w' 0 = 0 := t0.mpr (Or.inr ⟨L, hL, hG, by rw [Nat.zero_testBit]; decide⟩)
        rw [l1, if_neg (nI_z (by omega)), if_neg z]
        by_cases c : w < nI (pcN V)
        · rw [if_pos c, if_pos c]
          obtain ⟨p, hp, ep⟩ : isN (pcN V) w := isN_t (Int32.not_lt.mpr w0) (fun q => Int32.not_lt.mpr q c) (by omega)
          subst ep
          have hcn := cnB_d hG.1 12 0 (by decide)
          rw [if_pos (by omega), ← cnB_pc] at hcn
          obtain ⟨d1, d2⟩ := dif_s hV (p2_12 L hL)
          have eb : (1 : Int32) <<< (nI L &&& 31) = nI (2 ^ L) := bi_n L hL
          have gr := greedy_l (A := A) hV hL hG hmax (s := s2) (by rw [gw]; exact tw) (4998 - p) 12 0 p 0 (-4) (by decide) (by omega) (Nat.le_refl _)
          rw [show 4998 - p + p + 2 = 5000 by omega, show 0 + p = p by omega, show dif V (2 ^ L) % 2 ^ 0 = 0 by rw [Nat.pow_zero, Nat.mod_one], nI_0] at gr
          rw [gr, eb, d1]
          have e5 : nI (pcN V) - 1 = nI (cnB (dif V (2 ^ L)) 12 0) := by rw [hcn, sub_m1, pk_m1]
          rw [e5]
          unfold X10_order_p90
          by_cases y : p = cnB (dif V (2 ^ L)) 12 0
          · rw [if_pos (show nI p = nI (cnB (dif V (2 ^ L)) 12 0) by rw [← y]), if_pos y]
            exact ⟨_, _, _, rfl, rfl, rr⟩
          · have ec := cellOf_l d2 12 0 p (by decide) (by omega)
            rw [nI_0] at ec
            rw [if_neg (fun q => y ((nI_eq (by omega) (by omega)).mp q)), if_neg y]
            unfold X10_cellOf
            rw [ec, bd1_s]
            exact ⟨_, _, _, rfl, rfl, rr⟩
        · rw [if_neg c, if_neg c]
          exact ⟨_, _, _, rfl, rfl, rr⟩
    · rw [if_neg D, if_neg D]
      exact ⟨_, _, _, rfl, rfl, h'⟩
  · rw [if_neg w0, if_neg w0]
    exact ⟨_, _, _, rfl, rfl, h'⟩
