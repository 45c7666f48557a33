/-! sits -/
def siN (l k : Nat) : Nat := (l + (if k % 2 = 1 then (k + 1) / 2 else 12 - k / 2)) % 12
theorem si_a : ∀ k, k < 12 → (nI k - nI k / (2 : Int32) * (2 : Int32) = nI (k % 2)) := by decide +kernel
theorem si_e : ∀ l, l < 12 → ∀ k, k < 12 → k % 2 = 0 → X10_around (nI l + (-(nI k)) / (2 : Int32)) = some (nI (siN l k)) := by decide +kernel
theorem si_o : ∀ l, l < 12 → ∀ k, k < 12 → k % 2 = 1 → X10_around (nI l + (nI k + (1 : Int32)) / (2 : Int32)) = some (nI (siN l k)) := by decide +kernel
theorem si_m : ∀ l, l < 12 → ∀ k, k < 12 → k % 2 = 0 → (nI l + ((12 : Int32) - nI k / (2 : Int32))) - (nI l + ((12 : Int32) - nI k / (2 : Int32))) / (12 : Int32) * (12 : Int32) = nI (siN l k) := by decide +kernel
theorem si_n : ∀ l, l < 12 → ∀ k, k < 12 → k % 2 = 1 → (nI l + (nI k + (1 : Int32)) / (2 : Int32)) - (nI l + (nI k + (1 : Int32)) / (2 : Int32)) / (12 : Int32) * (12 : Int32) = nI (siN l k) := by decide +kernel
theorem si_d : ∀ l, l < 12 → ∀ k, k < 12 → ∀ j, j < 12 → siN l j = siN l k → j = k := by decide +kernel
theorem siN_lt (l k : Nat) : siN l k < 12 := by
  unfold siN
  omega
theorem sits_l {xs : XS} {A : AT} (hA : okD A) (hc : ct A (xT xs 0) (xB xs 0)) {m0 : MS} (hR : mR A m0) {l : Nat} (hl : l < 12) (el : aT A 6 = nI l) : ∀ (n k v : Nat) (B : AT) (x : XS) (s : MS), k + n = 12 → v ≤ k → TK 1 xs x → ct B (xT x 1) (xB x 1) → mo A B m0 s → okB 1000 B → aT B = aT A → (∀ j, k ≤ j → j < 12 → aK B (siN l j) = aK A (siN l j)) → ∃ r x' s', X10_sits_p38 (n + 1) x (nI v) (nI k) = some (r, x') ∧ X11_sits_p33 (n + 1) s (nI v) (-4) (nI k) = some (r, s') ∧ TK 1 xs x' ∧ mo A A m0 s' := by
  intro n
  induction n with
  | zero =>
    intro k v B x s e hv hT ht ho hok hB hK
    have e : k = 12 := by omega
    subst e
    obtain ⟨s3, e3, o3, _⟩ := mo_cl ho hA.1.L hA.D
    refine ⟨-4, x, s3, ?_, ?_, hT, o3⟩
    · rw [X10_sits_p38_s, if_pos n12_t]
    · rw [X11_sits_p33_s, if_pos n12_t]
      unfold X11_sits_p117
      rw [e3, bnd_s]
  | succ n ih =>
    intro k v B x s e hv hT ht ho hok hB hK
    have hk : k < 12 := by omega
    have hs := siN_lt l k
    have cx := TK1_c hT hc
    have hKk : aK B (siN l k) = aK A (siN l k) := hK k (Nat.le_refl _) hk
    have R := mo_mR ho hR
    have e6 : gA s 4 6 = nI l := by rw [ho.1.T (i := 6) (by decide), hB]; exact el
    have x6 : gA (xT x 0) 3 6 = nI l := by rw [cx.T (by decide)]; exact el
    -- both sides go on at the same cell
    have main : ∃ r x' s', (if kiB (xB x 0 (siN l k)) = (1 : Int32) then X10_sits_p134 (fun xs v1 v2 => X10_sits_p38 (n + 1) xs v1 v2) x (nI v) (nI k) else bnd (X8_replace_1 x (nI (siN l k)) ((1, 0) : BK)) fun _ xs_9 => nm (nI v + (1 : Int32)) fun x_13 => bnd (X8_fallSideAt (xT xs_9 1) (gF (xT xs_9 1) 8)) fun y_14 st_15 => nm (uT xs_9 1 st_15) fun xs_17 => if y_14 = (-4 : Int32) then X10_sits_p134 (fun xs v1 v2 => X10_sits_p38 (n + 1) xs v1 v2) xs_17 x_13 (nI k) else X10_sits_p132 xs_17 x_13) = some (r, x') ∧
        (if gA s 2 (siN l k) = (1 : Int32) then X11_sits_p111 (fun st v1 v2 v3 => X11_sits_p33 (n + 1) st v1 v2 v3) s (nI v) (-4) (nI k) else bnd (X11_cut s (nI (siN l k))) fun _ st_6 => nm (nI v + (1 : Int32)) fun x_8 => bnd (X11_stands st_6) fun y_10 st_9 => if y_10 = 0 then X11_sits_p110 (fun st v1 v2 v3 => X11_sits_p33 (n + 1) st v1 v2 v3) st_9 x_8 (nI k) x_8 else X11_sits_p110 (fun st v1 v2 v3 => X11_sits_p33 (n + 1) st v1 v2 v3) st_9 x_8 (nI k) (-4 : Int32)) = some (r, s') ∧ TK 1 xs x' ∧ mo A A m0 s' := by
      rw [cx.K hs, ho.1.K hs, hKk]
      unfold X10_sits_p134 X11_sits_p111 X11_sits_p110 X11_sits_p111 X10_sits_p132
      by_cases q : aK A (siN l k) = 1
      · rw [if_pos q, if_pos q, nm_s, nm_s, nI_1]
        exact ih (k + 1) v B x s (by omega) (by omega) hT ht ho hok hB (fun j h1 h2 => hK j (by omega) h2)
      · obtain ⟨x1, e1, t1, c1⟩ := cut_0 ht hs
        obtain ⟨s1, f1, o1⟩ := mo_cut ho hs
        have ok1 := okB_cut1 hok (siN l k)
        obtain ⟨C, eC⟩ : ∃ C, C = aRep B (siN l k) 1 0 := ⟨_, rfl⟩
        rw [← eC] at c1 o1 ok1
        obtain ⟨s3, f3, o3, _⟩ := mo_cl o1 hA.1.L hA.D
        rw [if_neg q, if_neg q, e1, bnd_s, nI_1, nm_s (nI (v + 1)), X8_fallSideAt_a c1 ok1, bnd_s, uT_self, nm_s x1, c1.M, f1, bnd_s, nm_s (nI (v + 1)), X11_stands_a (mo_mR o1 hR) ok1, bnd_s]
        by_cases z : aFall C (aM C) = -4
        · rw [if_pos z, if_pos z, if_neg n10, nm_s, nm_s, nI_1]
          refine ih (k + 1) (v + 1) C x1 s1 (by omega) (by omega) (hT.tr t1) c1 o1 ok1 (by rw [eC]; exact hB) (fun j h1 h2 => ?_)
          rw [eC]
          show (if siN l j = siN l k then 1 else aK B (siN l j)) = _
          rw [if_neg (fun w => by have := si_d l hl k hk j h2 w; omega)]
          exact hK j (by omega) h2
        · rw [if_neg z, if_neg z, if_pos rfl, nm_s, nI_1]
          refine ⟨nI (v + 1), x1, s3, rfl, ?_, hT.tr t1, o3⟩
          show X11_sits_p33 (n + 1) s1 (nI (v + 1)) (nI (v + 1)) (nI (k + 1)) = _
          rw [X11_sits_p33_s, if_pos (nI_pos' (by omega))]
          unfold X11_sits_p117
          rw [f3, bnd_s, ite_self]
    rw [X10_sits_p38_s, if_neg (n12_f hk), dvi_2, dvi_2, dvi_2, si_a k hk]
    rw [X11_sits_p33_s, if_neg (n12_f hk), if_neg (show ¬ (0 : Int32) ≤ -4 by decide), ic_6, cz_6, dvi_2, dvi_2, dvi_2, si_a k hk, e6]
    unfold X10_sits_p62 X11_sits_p71
    rw [ic_6, ic_6, cz_6, x6, dvi_12, dvi_12]
    have k2 : k % 2 = 0 ∨ k % 2 = 1 := by omega
    rcases k2 with c | c
    · rw [c, if_pos nI_0, if_neg (show ¬ nI 0 = 1 by decide), si_e l hl k hk c, bd1_s, inr_i hs, nI_cl hs, si_m l hl k hk c, nm_s, inr_i hs, nI_cl hs]
      exact main
    · rw [c, if_neg (show ¬ nI 1 = 0 by decide), if_pos (show nI 1 = 1 by decide), si_o l hl k hk c, bd1_s, inr_i hs, nI_cl hs, si_n l hl k hk c, nm_s, inr_i hs, nI_cl hs]
      exact main
theorem qm_sits {xs : XS} {ms : MS} (h : RR xs ms) : Cm (X10_sits xs) (X11_sits ms) := by
  have h' := RR_17 h 0
  obtain ⟨A, hA, hc, h9, hR⟩ := h'.1
  obtain ⟨l, hl, el⟩ := hA.1.T6
  unfold X10_sits X11_sits
  rw [nm_s (sF ms 17 0), X8_isDown_a hA h9, bnd_s, uT_self, nm_s xs, hR.2.2.D, hR.2.2.L, hc.L]
  by_cases D : aD A = 0
  · rw [if_pos D, if_pos D]
    by_cases L : aL A = 0
    · rw [if_pos L, if_pos L]
      obtain ⟨x1, e1, t1, c0, c1⟩ := take_a hc hA.1.L
      obtain ⟨s1, e2, o1⟩ := mo_op hR.2.2 hA.1.L hA.D
      obtain ⟨r, x2, s2, r1, r2, t2, o2⟩ := sits_l (xs := xs) hA hc hR hl el 12 0 0 A x1 s1 (by decide) (by decide) t1 c1 o1 hA.1 rfl (fun _ _ _ => rfl)
      rw [nI_0] at r1 r2
      rw [e1, bnd_s, e2, bnd_s]
      exact ⟨_, _, _, r1, r2, RR_q h' hA hc h9 o2.1 t2 (mo_FR o2)⟩
    · rw [if_neg L, if_neg L]
      exact ⟨_, _, _, rfl, rfl, h'⟩
  · rw [if_neg D, if_neg D]
    exact ⟨_, _, _, rfl, rfl, h'⟩
