set_option maxRecDepth 20000 in
theorem ggX10_keep_X10_isShelf : GoodIn wsX10_keep wsX10_isShelf := goodIn_r _ [6] (by decide +kernel) (by decide +kernel)
set_option maxRecDepth 20000 in
theorem gX10_keep_X10_isShelf : GoodIn wsX10_keep (va_wsS RX10 268 yX10_isShelf wsX10_isShelf) := goodIn_app (goodIn_of _ (by decide +kernel)) ggX10_keep_X10_isShelf
set_option maxRecDepth 20000 in
theorem ggX10_keep_X10_brickOf : GoodIn wsX10_keep wsX10_brickOf := goodIn_r _ [9, 10, 11, 12, 13, 14, 15, 16, 17, 18, 19, 20, 21, 22, 23, 24, 25, 26, 27, 28, 29, 30, 31, 32, 33, 34, 35, 36, 37, 38, 39, 40, 41, 42, 43, 44, 45, 46, 47, 48, 49, 50, 51, 52, 53, 54, 55, 56, 57, 58, 59, 60, 61, 62, 63, 64, 65, 66, 67, 68, 76, 77, 78, 79, 80, 81, 82, 83] (by decide +kernel) (by decide +kernel)
set_option maxRecDepth 20000 in
theorem gX10_keep_X10_brickOf : GoodIn wsX10_keep (va_wsS RX10 271 yX10_brickOf wsX10_brickOf) := goodIn_app (goodIn_of _ (by decide +kernel)) ggX10_keep_X10_brickOf
theorem dX10_keep_0 : decode cX10_keep 0 = .ok (.iload_n 1, 1) := by decide +kernel
theorem dX10_keep_1 : decode cX10_keep 1 = .ok (.invokestatic 268, 3) := by decide +kernel
theorem dX10_keep_4 : decode cX10_keep 4 = .ok (.ifCond .eq 12, 3) := by decide +kernel
theorem dX10_keep_7 : decode cX10_keep 7 = .ok (.iload_n 2, 1) := by decide +kernel
theorem dX10_keep_8 : decode cX10_keep 8 = .ok (.ifCond .lt 8, 3) := by decide +kernel
theorem dX10_keep_11 : decode cX10_keep 11 = .ok (.iload_n 2, 1) := by decide +kernel
theorem dX10_keep_12 : decode cX10_keep 12 = .ok (.iconst 1, 1) := by decide +kernel
theorem dX10_keep_13 : decode cX10_keep 13 = .ok (.if_icmp .le 5, 3) := by decide +kernel
theorem dX10_keep_16 : decode cX10_keep 16 = .ok (.iconst (-1), 1) := by decide +kernel
theorem dX10_keep_17 : decode cX10_keep 17 = .ok (.ireturn, 1) := by decide +kernel
theorem dX10_keep_18 : decode cX10_keep 18 = .ok (.aconst_null, 1) := by decide +kernel
theorem dX10_keep_19 : decode cX10_keep 19 = .ok (.astore 5, 2) := by decide +kernel
theorem dX10_keep_21 : decode cX10_keep 21 = .ok (.iload_n 2, 1) := by decide +kernel
theorem dX10_keep_22 : decode cX10_keep 22 = .ok (.iconst 1, 1) := by decide +kernel
theorem dX10_keep_23 : decode cX10_keep 23 = .ok (.if_icmp .ne 18, 3) := by decide +kernel
theorem dX10_keep_26 : decode cX10_keep 26 = .ok (.iload_n 3, 1) := by decide +kernel
theorem dX10_keep_27 : decode cX10_keep 27 = .ok (.iload 4, 2) := by decide +kernel
theorem dX10_keep_29 : decode cX10_keep 29 = .ok (.invokestatic 271, 3) := by decide +kernel
theorem dX10_keep_32 : decode cX10_keep 32 = .ok (.astore 5, 2) := by decide +kernel
theorem dX10_keep_34 : decode cX10_keep 34 = .ok (.aload 5, 2) := by decide +kernel
theorem dX10_keep_36 : decode cX10_keep 36 = .ok (.ifnonnull 5, 3) := by decide +kernel
theorem dX10_keep_39 : decode cX10_keep 39 = .ok (.iconst (-1), 1) := by decide +kernel
theorem dX10_keep_40 : decode cX10_keep 40 = .ok (.ireturn, 1) := by decide +kernel
theorem dX10_keep_41 : decode cX10_keep 41 = .ok (.aload_n 0, 1) := by decide +kernel
theorem dX10_keep_42 : decode cX10_keep 42 = .ok (.getfield 33, 3) := by decide +kernel
theorem dX10_keep_45 : decode cX10_keep 45 = .ok (.iload_n 1, 1) := by decide +kernel
theorem dX10_keep_46 : decode cX10_keep 46 = .ok (.aload 5, 2) := by decide +kernel
theorem dX10_keep_48 : decode cX10_keep 48 = .ok (.aastore, 1) := by decide +kernel
theorem dX10_keep_49 : decode cX10_keep 49 = .ok (.aload_n 0, 1) := by decide +kernel
theorem dX10_keep_50 : decode cX10_keep 50 = .ok (.getfield 39, 3) := by decide +kernel
theorem dX10_keep_53 : decode cX10_keep 53 = .ok (.iload_n 1, 1) := by decide +kernel
theorem dX10_keep_54 : decode cX10_keep 54 = .ok (.aconst_null, 1) := by decide +kernel
theorem dX10_keep_55 : decode cX10_keep 55 = .ok (.aastore, 1) := by decide +kernel
theorem dX10_keep_56 : decode cX10_keep 56 = .ok (.iconst 0, 1) := by decide +kernel
theorem dX10_keep_57 : decode cX10_keep 57 = .ok (.ireturn, 1) := by decide +kernel
/-! X10 keep -/
def X10_keep_p41 (xs : XS) (v1 : Int32) (v5 : Option BK) : Option (Int32 × XS) :=
    inr v1 8 <|
    nm (uK xs v1.toNatClampNeg v5) fun xs_3 =>
    inr v1 8 <|
    nm (uR xs_3 v1.toNatClampNeg none) fun xs_6 =>
    some ((0 : Int32), xs_6)
def X10_keep (xs : XS) (v1 : Int32) (v2 : Int32) (v3 : Int32) (v4 : Int32) : Option (Int32 × XS) :=
    bd1 (X10_isShelf v1) fun y_7 =>
    if y_7 = 0 then
      (some ((-1 : Int32), xs))
    else
    if v2 < 0 then
      (some ((-1 : Int32), xs))
    else
    if v2 ≤ (1 : Int32) then
      (if v2 = (1 : Int32) then
        (bnd (X10_brickOf xs v3 v4) fun y_13 xs_14 =>
        ob y_13
          (some ((-1 : Int32), xs_14))
        fun k_18 =>
        X10_keep_p41 xs_14 v1 (some k_18))
      else
      X10_keep_p41 xs v1 none)
    else
    some ((-1 : Int32), xs)
abbrev rmX10_keep : Room := { frames := 5, cells := 1, slots := 1, locals := 96 }
theorem hdX10_keep : yX10_keep.cls = RX10 ∧ yX10_keep.cls ≠ "java/lang/invoke/MethodHandle" ∧ yX10_keep.cls ≠ "java/lang/invoke/VarHandle" ∧ (parseMethodDescriptor yX10_keep.desc).map (fun d => d.parameters.length) = some 4 := by decide +kernel
set_option maxRecDepth 100000 in
set_option maxHeartbeats 8000000 in
theorem okX10_keep (z : Nat → Nat) (l : Launch) (D : va_G) (T : mT3) (b : Nat → Nat) {xa : XA} {xs : XS} {v1 : Int32} {v2 : Int32} {v3 : Int32} {v4 : Int32} {r : Int32} {xs' : XS} (hR : xRel b xa xs) (heq : X10_keep xs v1 v2 v3 v4 = some (r, xs')) : hXi xAny z l D T b yX10_keep wsX10_keep rmX10_keep [.ref (b 0), .int v1, .int v2, .int v3, .int v4] xa xs r xs' := by
  refine xbody_i (plainFor_of_name (by decide)) rfl (Nat.le_of_ble_eq_true rfl) (fun p e s m args below meth c A Q hx hb hml hown hts hK hA hX hret ls hP hD hS hl => ?_)
  have hl : lv_has ls 6 [(0, .ref (b 0)), (1, .int v1), (2, .int v2), (3, .int v3), (4, .int v4)] := hl
  have hin10 : ∀ w ∈ wsX100, w ∈ wsX10_keep := by decide +kernel
  have f33 : (Cond.fieldLink RX10 33 RX10 (TX10 5).2.1 (TX10 5).2.2.1).before args s = true := hts (.fieldLink RX10 33 RX10 "kinds" "[LLaidDownTheLane$Brick;") (by decide +kernel)
  have f39 : (Cond.fieldLink RX10 39 RX10 (TX10 6).2.1 (TX10 6).2.2.1).before args s = true := hts (.fieldLink RX10 39 RX10 "rows" "[LLaidDownTheLane$Row;") (by decide +kernel)
  obtain ⟨xa0, hxa0⟩ : ∃ z : XA, z = xa := ⟨_, rfl⟩
  rw [← hxa0] at hret
  have hU : xAny xa0 xa := trivial
  clear hxa0
  have b41 : ∀ (xs : XS) (v1 : Int32) (v5 : Option BK) (xa : XA) (v5q : Option Nat) (v5h : onB (xPl xa) v5 v5q) (H : Heap) (locs : List Loc) (ls : Array Slot), xRel b xa xs → xAny xa0 xa → va_P D vwCl (xW b T xa xs) H → va_D A (xW b T xa xs) → va_S A s.heap H locs → lv_has ls 6 [(0, .ref (b 0)), (1, .int v1), (5, va_rf v5q)] → X10_keep_p41 xs v1 v5 = some (r, xs') → W p l e rmX10_keep s m args below meth c H locs 1 1 Q (F0 m 41 ls []) := by
    intro xs v1 v5 xa v5q v5h H locs ls hR hU hP hD hS hl heq
    unfold X10_keep_p41 at heq
    refine lv_aload_n hx hb dX10_keep_41 rfl (lv_at hl 0 rfl) ?_
    refine va_get (D := D) (ci := 10) (v := .ref (b 1)) (C := RX10) (T := TX10) (N := 7) hx hb hts hin10 hown hK hP 0 rfl rfl 5 (by decide) f33 (fun _ h9 => h9) rfl dX10_keep_42 ?_
    refine lv_iload_n hx hb dX10_keep_45 rfl (lv_at hl 1 rfl) ?_
    refine lv_aloadQ (r := v5q) hx hb dX10_keep_46 (lv_at hl 2 rfl) ?_
    obtain ⟨n_1, heq⟩ := inr_h heq
    have ho : onB (xPl xa) v5 v5q := v5h
    refine x_kst (o := v5) (oa := v5q) hx hb hK hX hP hD hS ho hR n_1 dX10_keep_48 (fun H locs hP hD hS => ?_)
    have hR : xRel b (xKset xa v1.toNatClampNeg v5q) (uK xs v1.toNatClampNeg v5) := xRel_kset hR ho
    obtain ⟨xa_2, exa_2⟩ : ∃ z, z = xKset xa v1.toNatClampNeg v5q := ⟨_, rfl⟩
    rw [← exa_2] at hP hD hR
    obtain ⟨xs_3, exs_3⟩ : ∃ z, z = uK xs v1.toNatClampNeg v5 := ⟨_, rfl⟩
    rw [← exs_3] at hP hD hR
    have heq := nm_h exs_3 heq
    refine lv_aload_n hx hb dX10_keep_49 rfl (lv_at hl 0 rfl) ?_
    refine va_get (D := D) (ci := 10) (v := .ref (b 2)) (C := RX10) (T := TX10) (N := 7) hx hb hts hin10 hown hK hP 0 rfl rfl 6 (by decide) f39 (fun _ h9 => h9) rfl dX10_keep_50 ?_
    refine lv_iload_n hx hb dX10_keep_53 rfl (lv_at hl 1 rfl) ?_
    refine lv_null hx hb dX10_keep_54 ?_
    obtain ⟨n_4, heq⟩ := inr_h heq
    refine x_rstN hx hb hK hP hD hS n_4 dX10_keep_55 (fun H locs hP hD hS => ?_)
    have hR : xRel b (xRset xa_2 v1.toNatClampNeg none) (uR xs_3 v1.toNatClampNeg none) := xRel_rset hR
    obtain ⟨xa_5, exa_5⟩ : ∃ z, z = xRset xa_2 v1.toNatClampNeg none := ⟨_, rfl⟩
    rw [← exa_5] at hP hD hR
    obtain ⟨xs_6, exs_6⟩ : ∃ z, z = uR xs_3 v1.toNatClampNeg none := ⟨_, rfl⟩
    rw [← exs_6] at hP hD hR
    have heq := nm_h exs_6 heq
    refine lv_iconst (v := (0 : Int32)) hx hb dX10_keep_56 (by decide) ?_
    obtain ⟨heq, heq2⟩ := ret_h heq
    subst heq
    subst heq2
    refine W.widen (k := 1) (n := 1) (by first | decide | omega) (by first | decide | omega) ?_
    exact hret 57 H locs ls xa_5 hR trivial hP hD hS rfl dX10_keep_57
  obtain ⟨H, hH⟩ : ∃ H, H = s.heap := ⟨_, rfl⟩
  obtain ⟨locs, hlocs⟩ : ∃ z : List Loc, z = [] := ⟨_, rfl⟩
  have hS : va_S A s.heap H locs := by rw [hH, hlocs]; exact hS
  have hP : va_P D vwCl (xW b T xa xs) H := by rw [hH]; exact hP
  suffices h9 : W p l e rmX10_keep s m args below meth c H locs 0 0 Q (F0 m 0 ls []) by rw [hH, hlocs] at h9; exact h9
  clear hH hlocs
  unfold X10_keep at heq
  refine lv_iload_n hx hb dX10_keep_0 rfl (lv_at hl 1 rfl) ?_
  obtain ⟨y_7, h_8, heq⟩ := bd1_h heq
  refine h_si (own := RX10) (As := [.int v1]) (rest := []) (w0 := []) (w1 := []) (wr := xW b T xa xs) hx hb hml hown hts (okX10_isShelf z l D h_8) (va_cwS 1 hts gX10_keep_X10_isShelf rfl rfl rfl (hdX10_isShelf).2 ⟨Nat.le_of_ble_eq_true rfl, Nat.le_of_ble_eq_true rfl⟩) (hK.sub [] rfl) hA hX hP hD hS (List.Perm.refl _) (List.Perm.refl _) rfl hl.1 rfl (Nat.le_of_ble_eq_true rfl) dX10_keep_1 ⟨by show 0 + 0 ≤ 1; omega, by show 0 + 0 ≤ 1; omega⟩ (fun H locs hP hD hS => ?_)
  refine W.widen (k := 0) (n := 0) (Nat.le_refl _) (Nat.le_refl _) ?_
  refine lv_if_eq (tgt := 16) hx hb dX10_keep_4 (by decide) (fun c_9 => ?_) (fun c_9 => ?_)
  · have heq := it_t c_9 heq
    refine lv_iconst (v := (-1 : Int32)) hx hb dX10_keep_16 (by decide) ?_
    obtain ⟨heq, heq2⟩ := ret_h heq
    subst heq
    subst heq2
    refine W.widen (k := 1) (n := 1) (by first | decide | omega) (by first | decide | omega) ?_
    exact hret 17 H locs ls xa hR trivial hP hD hS rfl dX10_keep_17
  have heq := it_f c_9 heq
  refine lv_iload_n hx hb dX10_keep_7 rfl (lv_at hl 2 rfl) ?_
  refine lv_if_lt (tgt := 16) hx hb dX10_keep_8 (by decide) (fun c_10 => ?_) (fun c_10 => ?_)
  · have heq := it_t c_10 heq
    refine lv_iconst (v := (-1 : Int32)) hx hb dX10_keep_16 (by decide) ?_
    obtain ⟨heq, heq2⟩ := ret_h heq
    subst heq
    subst heq2
    refine W.widen (k := 1) (n := 1) (by first | decide | omega) (by first | decide | omega) ?_
    exact hret 17 H locs ls xa hR trivial hP hD hS rfl dX10_keep_17
  have heq := it_f c_10 heq
  refine lv_iload_n hx hb dX10_keep_11 rfl (lv_at hl 2 rfl) ?_
  refine lv_iconst (v := (1 : Int32)) hx hb dX10_keep_12 (by decide) ?_
  refine lv_icmp_le (tgt := 18) hx hb dX10_keep_13 (by decide) (fun c_11 => ?_) (fun c_11 => ?_)
  · have heq := it_t c_11 heq
    refine lv_null hx hb dX10_keep_18 ?_
    refine lv_astoreN (lv' := [(5, .null), (0, .ref (b 0)), (1, .int v1), (2, .int v2), (3, .int v3), (4, .int v4)]) hx hb dX10_keep_19 hl (by decide) rfl (fun ls hl => ?_)
    refine lv_iload_n hx hb dX10_keep_21 rfl (lv_at hl 3 rfl) ?_
    refine lv_iconst (v := (1 : Int32)) hx hb dX10_keep_22 (by decide) ?_
    refine lv_icmp_ne (tgt := 41) hx hb dX10_keep_23 (by decide) (fun c_12 => ?_) (fun c_12 => ?_)
    · have heq := it_f c_12 heq
      refine W.widen (k := 1) (n := 1) (by first | decide | omega) (by first | decide | omega) ?_
      exact b41 xs v1 none xa none rfl H locs ls hR trivial hP hD hS (lv_sub hl [1, 2, 0] rfl) heq
    have heq := it_t c_12 heq
    refine lv_iload_n hx hb dX10_keep_26 rfl (lv_at hl 4 rfl) ?_
    refine lv_iload hx hb dX10_keep_27 (lv_at hl 5 rfl) ?_
    obtain ⟨y_13, xs_14, h_15, heq⟩ := bnd_h heq
    refine x_sb (own := RX10) (As := [.int v3, .int v4]) (rest := []) hx hb hml hown hts (okX10_brickOf z l D T b hR h_15) (va_cwS 2 hts gX10_keep_X10_brickOf rfl rfl rfl (hdX10_brickOf).2 ⟨Nat.le_of_ble_eq_true rfl, Nat.le_of_ble_eq_true rfl⟩) hK hA hX hP hD hS rfl hl.1 rfl (Nat.le_of_ble_eq_true rfl) dX10_keep_29 ⟨by show 0 + 1 ≤ 1; omega, by show 0 + 1 ≤ 1; omega⟩ (fun xa_16 H locs o_17 hR hsxa_16 ho_17 hP hD hS => ?_)
    refine W.widen (k := (0 + 1)) (n := (0 + 1)) (Nat.le_refl _) (Nat.le_refl _) ?_
    skip
    refine lv_astoreQ (lv' := [(5, va_rf o_17), (0, .ref (b 0)), (1, .int v1), (2, .int v2), (3, .int v3), (4, .int v4)]) hx hb dX10_keep_32 hl (by decide) rfl (fun ls hl => ?_)
    refine lv_aloadQ (r := o_17) hx hb dX10_keep_34 (lv_at hl 0 rfl) ?_
    rcases obB_h ho_17 heq with ⟨h_19, heq⟩ | ⟨k_18, ⟨q_20, h_19, h_21⟩, heq⟩
    · rw [h_19] at hl ⊢
      have hl : lv_has ls 6 [(5, .null), (0, .ref (b 0)), (1, .int v1), (2, .int v2), (3, .int v3), (4, .int v4)] := hl
      refine lv_ifnonnullN hx hb dX10_keep_36 ?_
      refine lv_iconst (v := (-1 : Int32)) hx hb dX10_keep_39 (by decide) ?_
      obtain ⟨heq, heq2⟩ := ret_h heq
      subst heq
      subst heq2
      refine W.widen (k := 1) (n := 1) (by first | decide | omega) (by first | decide | omega) ?_
      exact hret 40 H locs ls xa_16 hR trivial hP hD hS rfl dX10_keep_40
    rw [h_19] at hl ⊢
    have hl : lv_has ls 6 [(5, .ref q_20), (0, .ref (b 0)), (1, .int v1), (2, .int v2), (3, .int v3), (4, .int v4)] := hl
    refine lv_ifnonnull (tgt := 41) hx hb dX10_keep_36 (by decide) ?_
    refine W.widen (k := 1) (n := 1) (by first | decide | omega) (by first | decide | omega) ?_
    exact b41 xs_14 v1 (some k_18) xa_16 (some q_20) ⟨_, rfl, h_21⟩ H locs ls hR trivial hP hD hS (lv_sub hl [1, 2, 0] rfl) heq
  have heq := it_f c_11 heq
  refine lv_iconst (v := (-1 : Int32)) hx hb dX10_keep_16 (by decide) ?_
  obtain ⟨heq, heq2⟩ := ret_h heq
  subst heq
  subst heq2
  refine W.widen (k := 1) (n := 1) (by first | decide | omega) (by first | decide | omega) ?_
  exact hret 17 H locs ls xa hR trivial hP hD hS rfl dX10_keep_17
set_option maxRecDepth 20000 in
theorem ggX10_row_X10_isShelf : GoodIn wsX10_row wsX10_isShelf := goodIn_r _ [10] (by decide +kernel) (by decide +kernel)
set_option maxRecDepth 20000 in
theorem gX10_row_X10_isShelf : GoodIn wsX10_row (va_wsS RX10 268 yX10_isShelf wsX10_isShelf) := goodIn_app (goodIn_of _ (by decide +kernel)) ggX10_row_X10_isShelf
set_option maxRecDepth 20000 in
theorem ggX10_row_X7_init : GoodIn wsX10_row wsX7_init := goodIn_r _ [13, 14, 15, 16, 17, 18, 26, 27] (by decide +kernel) (by decide +kernel)
set_option maxRecDepth 20000 in
theorem gX10_row_X7_init : GoodIn wsX10_row (wsX7_init) := ggX10_row_X7_init
theorem dX10_row_0 : decode cX10_row 0 = .ok (.iload_n 1, 1) := by decide +kernel
theorem dX10_row_1 : decode cX10_row 1 = .ok (.invokestatic 268, 3) := by decide +kernel
theorem dX10_row_4 : decode cX10_row 4 = .ok (.ifCond .eq 18, 3) := by decide +kernel
theorem dX10_row_7 : decode cX10_row 7 = .ok (.iload_n 2, 1) := by decide +kernel
theorem dX10_row_8 : decode cX10_row 8 = .ok (.ifCond .lt 14, 3) := by decide +kernel
theorem dX10_row_11 : decode cX10_row 11 = .ok (.iload_n 2, 1) := by decide +kernel
theorem dX10_row_12 : decode cX10_row 12 = .ok (.iconst 2, 1) := by decide +kernel
theorem dX10_row_13 : decode cX10_row 13 = .ok (.if_icmp .gt 9, 3) := by decide +kernel
theorem dX10_row_16 : decode cX10_row 16 = .ok (.iload_n 3, 1) := by decide +kernel
theorem dX10_row_17 : decode cX10_row 17 = .ok (.bipush 100, 2) := by decide +kernel
theorem dX10_row_19 : decode cX10_row 19 = .ok (.if_icmp .le 5, 3) := by decide +kernel
theorem dX10_row_22 : decode cX10_row 22 = .ok (.iconst (-1), 1) := by decide +kernel
theorem dX10_row_23 : decode cX10_row 23 = .ok (.ireturn, 1) := by decide +kernel
theorem dX10_row_24 : decode cX10_row 24 = .ok (.iload_n 3, 1) := by decide +kernel
theorem dX10_row_25 : decode cX10_row 25 = .ok (.ifCond .ge 6, 3) := by decide +kernel
theorem dX10_row_28 : decode cX10_row 28 = .ok (.bipush (-14), 2) := by decide +kernel
theorem dX10_row_30 : decode cX10_row 30 = .ok (.ireturn, 1) := by decide +kernel
theorem dX10_row_31 : decode cX10_row 31 = .ok (.aload_n 0, 1) := by decide +kernel
theorem dX10_row_32 : decode cX10_row 32 = .ok (.getfield 33, 3) := by decide +kernel
theorem dX10_row_35 : decode cX10_row 35 = .ok (.iload_n 1, 1) := by decide +kernel
theorem dX10_row_36 : decode cX10_row 36 = .ok (.aconst_null, 1) := by decide +kernel
theorem dX10_row_37 : decode cX10_row 37 = .ok (.aastore, 1) := by decide +kernel
theorem dX10_row_38 : decode cX10_row 38 = .ok (.aload_n 0, 1) := by decide +kernel
theorem dX10_row_39 : decode cX10_row 39 = .ok (.getfield 39, 3) := by decide +kernel
theorem dX10_row_42 : decode cX10_row 42 = .ok (.iload_n 1, 1) := by decide +kernel
theorem dX10_row_43 : decode cX10_row 43 = .ok (.new 37, 3) := by decide +kernel
theorem dX10_row_46 : decode cX10_row 46 = .ok (.dup, 1) := by decide +kernel
theorem dX10_row_47 : decode cX10_row 47 = .ok (.iload_n 2, 1) := by decide +kernel
theorem dX10_row_48 : decode cX10_row 48 = .ok (.iload_n 3, 1) := by decide +kernel
theorem dX10_row_49 : decode cX10_row 49 = .ok (.newarray .int, 2) := by decide +kernel
theorem dX10_row_51 : decode cX10_row 51 = .ok (.invokespecial 275, 3) := by decide +kernel
theorem dX10_row_54 : decode cX10_row 54 = .ok (.aastore, 1) := by decide +kernel
theorem dX10_row_55 : decode cX10_row 55 = .ok (.iconst 0, 1) := by decide +kernel
theorem dX10_row_56 : decode cX10_row 56 = .ok (.ireturn, 1) := by decide +kernel
/-! X10 row -/
def X10_row (xs : XS) (v1 : Int32) (v2 : Int32) (v3 : Int32) : Option (Int32 × XS) :=
    bd1 (X10_isShelf v1) fun y_1 =>
    if y_1 = 0 then
      (some ((-1 : Int32), xs))
    else
    if v2 < 0 then
      (some ((-1 : Int32), xs))
    else
    if (2 : Int32) < v2 then
      (some ((-1 : Int32), xs))
    else
    if v3 ≤ (100 : Int32) then
      (if 0 ≤ v3 then
        (inr v1 8 <|
        nm (uK xs v1.toNatClampNeg none) fun xs_10 =>
        inr v1 8 <|
        nwar v3 <|
        nm (uR xs_10 v1.toNatClampNeg (some (v3.toNatClampNeg, mNew v2))) fun xs_15 =>
        some ((0 : Int32), xs_15))
      else
      some ((-14 : Int32), xs))
    else
    some ((-1 : Int32), xs)
abbrev rmX10_row : Room := { frames := 2, cells := 2, slots := 102, locals := 34 }
theorem hdX10_row : yX10_row.cls = RX10 ∧ yX10_row.cls ≠ "java/lang/invoke/MethodHandle" ∧ yX10_row.cls ≠ "java/lang/invoke/VarHandle" ∧ (parseMethodDescriptor yX10_row.desc).map (fun d => d.parameters.length) = some 3 := by decide +kernel
set_option maxRecDepth 100000 in
set_option maxHeartbeats 8000000 in
theorem okX10_row (z : Nat → Nat) (l : Launch) (D : va_G) (T : mT3) (b : Nat → Nat) {xa : XA} {xs : XS} {v1 : Int32} {v2 : Int32} {v3 : Int32} {r : Int32} {xs' : XS} (hR : xRel b xa xs) (heq : X10_row xs v1 v2 v3 = some (r, xs')) : hXi xAny z l D T b yX10_row wsX10_row rmX10_row [.ref (b 0), .int v1, .int v2, .int v3] xa xs r xs' := by
  refine xbody_i (plainFor_of_name (by decide)) rfl (Nat.le_of_ble_eq_true rfl) (fun p e s m args below meth c A Q hx hb hml hown hts hK hA hX hret ls hP hD hS hl => ?_)
  have hl : lv_has ls 4 [(0, .ref (b 0)), (1, .int v1), (2, .int v2), (3, .int v3)] := hl
  have hin10 : ∀ w ∈ wsX100, w ∈ wsX10_row := by decide +kernel
  have hin7 : ∀ w ∈ wsX70, w ∈ wsX10_row := by decide +kernel
  have f33 : (Cond.fieldLink RX10 33 RX10 (TX10 5).2.1 (TX10 5).2.2.1).before args s = true := hts (.fieldLink RX10 33 RX10 "kinds" "[LLaidDownTheLane$Brick;") (by decide +kernel)
  have f39 : (Cond.fieldLink RX10 39 RX10 (TX10 6).2.1 (TX10 6).2.2.1).before args s = true := hts (.fieldLink RX10 39 RX10 "rows" "[LLaidDownTheLane$Row;") (by decide +kernel)
  have hw0 := hts (.classLink RX10 37 RX7) (by decide +kernel)
  have hw1 := hts (.instantiable RX7 2) (by decide +kernel)
  have hw2 := hts (.initialized RX7) (by decide +kernel)
  have hw3 := hts (.arrayClass .int) (by decide +kernel)
  have hw4 := hts (.methodLink RX10 275 yX7_init) (by decide +kernel)
  have hw5 := hts (.instanceMethod yX7_init) (by decide +kernel)
  obtain ⟨xa0, hxa0⟩ : ∃ z : XA, z = xa := ⟨_, rfl⟩
  rw [← hxa0] at hret
  have hU : xAny xa0 xa := trivial
  clear hxa0
  obtain ⟨H, hH⟩ : ∃ H, H = s.heap := ⟨_, rfl⟩
  obtain ⟨locs, hlocs⟩ : ∃ z : List Loc, z = [] := ⟨_, rfl⟩
  have hS : va_S A s.heap H locs := by rw [hH, hlocs]; exact hS
  have hP : va_P D vwCl (xW b T xa xs) H := by rw [hH]; exact hP
  suffices h9 : W p l e rmX10_row s m args below meth c H locs 0 0 Q (F0 m 0 ls []) by rw [hH, hlocs] at h9; exact h9
  clear hH hlocs
  unfold X10_row at heq
  refine lv_iload_n hx hb dX10_row_0 rfl (lv_at hl 1 rfl) ?_
  obtain ⟨y_1, h_2, heq⟩ := bd1_h heq
  refine h_si (own := RX10) (As := [.int v1]) (rest := []) (w0 := []) (w1 := []) (wr := xW b T xa xs) hx hb hml hown hts (okX10_isShelf z l D h_2) (va_cwS 1 hts gX10_row_X10_isShelf rfl rfl rfl (hdX10_isShelf).2 ⟨Nat.le_of_ble_eq_true rfl, Nat.le_of_ble_eq_true rfl⟩) (hK.sub [] rfl) hA hX hP hD hS (List.Perm.refl _) (List.Perm.refl _) rfl hl.1 rfl (Nat.le_of_ble_eq_true rfl) dX10_row_1 ⟨by show 0 + 0 ≤ 2; omega, by show 0 + 0 ≤ 102; omega⟩ (fun H locs hP hD hS => ?_)
  refine W.widen (k := 0) (n := 0) (Nat.le_refl _) (Nat.le_refl _) ?_
  refine lv_if_eq (tgt := 22) hx hb dX10_row_4 (by decide) (fun c_3 => ?_) (fun c_3 => ?_)
  · have heq := it_t c_3 heq
    refine lv_iconst (v := (-1 : Int32)) hx hb dX10_row_22 (by decide) ?_
    obtain ⟨heq, heq2⟩ := ret_h heq
    subst heq
    subst heq2
    refine W.widen (k := 2) (n := 102) (by first | decide | omega) (by first | decide | omega) ?_
    exact hret 23 H locs ls xa hR trivial hP hD hS rfl dX10_row_23
  have heq := it_f c_3 heq
  refine lv_iload_n hx hb dX10_row_7 rfl (lv_at hl 2 rfl) ?_
  refine lv_if_lt (tgt := 22) hx hb dX10_row_8 (by decide) (fun c_4 => ?_) (fun c_4 => ?_)
  · have heq := it_t c_4 heq
    refine lv_iconst (v := (-1 : Int32)) hx hb dX10_row_22 (by decide) ?_
    obtain ⟨heq, heq2⟩ := ret_h heq
    subst heq
    subst heq2
    refine W.widen (k := 2) (n := 102) (by first | decide | omega) (by first | decide | omega) ?_
    exact hret 23 H locs ls xa hR trivial hP hD hS rfl dX10_row_23
  have heq := it_f c_4 heq
  refine lv_iload_n hx hb dX10_row_11 rfl (lv_at hl 2 rfl) ?_
  refine lv_iconst (v := (2 : Int32)) hx hb dX10_row_12 (by decide) ?_
  refine lv_icmp_gt (tgt := 22) hx hb dX10_row_13 (by decide) (fun c_5 => ?_) (fun c_5 => ?_)
  · have heq := it_t c_5 heq
    refine lv_iconst (v := (-1 : Int32)) hx hb dX10_row_22 (by decide) ?_
    obtain ⟨heq, heq2⟩ := ret_h heq
    subst heq
    subst heq2
    refine W.widen (k := 2) (n := 102) (by first | decide | omega) (by first | decide | omega) ?_
    exact hret 23 H locs ls xa hR trivial hP hD hS rfl dX10_row_23
  have heq := it_f c_5 heq
  refine lv_iload_n hx hb dX10_row_16 rfl (lv_at hl 3 rfl) ?_
  refine lv_bipush (v := (100 : Int32)) hx hb dX10_row_17 (by decide) ?_
  refine lv_icmp_le (tgt := 24) hx hb dX10_row_19 (by decide) (fun c_6 => ?_) (fun c_6 => ?_)
  · have heq := it_t c_6 heq
    refine lv_iload_n hx hb dX10_row_24 rfl (lv_at hl 3 rfl) ?_
    refine lv_if_ge (tgt := 31) hx hb dX10_row_25 (by decide) (fun c_7 => ?_) (fun c_7 => ?_)
    · have heq := it_t c_7 heq
      refine lv_aload_n hx hb dX10_row_31 rfl (lv_at hl 0 rfl) ?_
      refine va_get (D := D) (ci := 10) (v := .ref (b 1)) (C := RX10) (T := TX10) (N := 7) hx hb hts hin10 hown hK hP 0 rfl rfl 5 (by decide) f33 (fun _ h9 => h9) rfl dX10_row_32 ?_
      refine lv_iload_n hx hb dX10_row_35 rfl (lv_at hl 1 rfl) ?_
      refine lv_null hx hb dX10_row_36 ?_
      obtain ⟨n_8, heq⟩ := inr_h heq
      have ho : onB (xPl xa) none none := rfl
      refine x_kst (o := none) (oa := none) hx hb hK hX hP hD hS ho hR n_8 dX10_row_37 (fun H locs hP hD hS => ?_)
      have hR : xRel b (xKset xa v1.toNatClampNeg none) (uK xs v1.toNatClampNeg none) := xRel_kset hR ho
      obtain ⟨xa_9, exa_9⟩ : ∃ z, z = xKset xa v1.toNatClampNeg none := ⟨_, rfl⟩
      rw [← exa_9] at hP hD hR
      obtain ⟨xs_10, exs_10⟩ : ∃ z, z = uK xs v1.toNatClampNeg none := ⟨_, rfl⟩
      rw [← exs_10] at hP hD hR
      have heq := nm_h exs_10 heq
      refine lv_aload_n hx hb dX10_row_38 rfl (lv_at hl 0 rfl) ?_
      refine va_get (D := D) (ci := 10) (v := .ref (b 2)) (C := RX10) (T := TX10) (N := 7) hx hb hts hin10 hown hK hP 0 rfl rfl 6 (by decide) f39 (fun _ h9 => h9) rfl dX10_row_39 ?_
      refine lv_iload_n hx hb dX10_row_42 rfl (lv_at hl 1 rfl) ?_
      refine va_new (ci := 7) (fs := [.int 0, .null]) (C := RX7) (T := TX7) (N := 2) hx hb hts hin7 tyX7 tyX7_ok hown hw0 hw1 hw2 hK hP hD hS hA rfl (fun j hj => by rcases (show j = 0 ∨ j = 1 by omega) with rfl | rfl <;> rfl) (by show 0 + 1 ≤ 2; omega) (by show 0 + 2 ≤ 102; omega) dX10_row_43 (fun q H hP hD hS => ?_)
      refine lv_dup hx hb dX10_row_46 rfl ?_
      refine lv_iload_n hx hb dX10_row_47 rfl (lv_at hl 2 rfl) ?_
      refine lv_iload_n hx hb dX10_row_48 rfl (lv_at hl 3 rfl) ?_
      obtain ⟨n_11, heq⟩ := inr_h heq
      obtain ⟨n_12, n_13, heq⟩ := nwar_h heq
      refine va_newa (atype := .int) (a0 := (v3.toNatClampNeg, .inl (fun _ => 0))) hx hb hw3 rfl hK hP hD hS hA (fun cA => rfl) n_12 rfl (by show v3.toNatClampNeg * 4 ≤ 536870912; omega) (by show 0 + 1 + 1 ≤ 2; omega) (by show 0 + 2 + v3.toNatClampNeg ≤ 102; omega) dX10_row_49 (fun qa cA H hK2 hP hD hS => ?_)
      have hcA : cA = T.1 := cA_eq hK2 (i := 3) (j := 0) rfl rfl
      subst hcA
      refine h_in (own := RX10) (As := [.int v2, .ref qa]) (rest := [.ref q, .int v1, .ref (b 2)]) (w0 := [(q, .inr (7, [.int 0, .null]))]) (w1 := [(q, .inr (7, [.int v2, .ref qa]))]) (wr := xW b T xa_9 xs_10 ++ [(qa, .inl (T.1, v3.toNatClampNeg, .inl (fun _ => 0)))]) (wd' := [(q, .inr (7, [.int v2, .ref qa]))] ++ (xW b T xa_9 xs_10 ++ [(qa, .inl (T.1, v3.toNatClampNeg, .inl (fun _ => 0)))])) hx hb hml hown hts (okX7_init z l D T q qa v2) (cwI 2 hts gX10_row_X7_init rfl rfl rfl hw2 hw4 hw5 rfl (by decide +kernel) ⟨Nat.le_of_ble_eq_true rfl, Nat.le_of_ble_eq_true rfl⟩) hK hA hX hP hD hS (by rw [List.append_assoc]; exact List.perm_append_comm_assoc _ _ _) (List.Perm.refl _) rfl hl.1 rfl (Nat.le_of_ble_eq_true rfl) dX10_row_51 ⟨by show 0 + 1 + 1 + 0 ≤ 2; omega, by show 0 + 2 + v3.toNatClampNeg + 0 ≤ 102; omega⟩ (fun H locs hP hD hS => ?_)
      refine va_astq (r := (RX7, TX7, 2)) (f := xRo xa_9) hx hb hK hP hD hS 3 2 0 7 rfl rfl rfl rfl n_11 dX10_row_54 (fun H locs hP hD hS => ?_)
      have hP : va_P D vwCl ([(q, (.inr (7, [.int v2, .ref qa]) : va_E))] ++ (xW b T (xRset xa_9 v1.toNatClampNeg (some q)) xs_10 ++ [(qa, (.inl (T.1, v3.toNatClampNeg, .inl (fun _ => 0)) : va_E))])) H := hP
      have hD : va_D A ([(q, (.inr (7, [.int v2, .ref qa]) : va_E))] ++ (xW b T (xRset xa_9 v1.toNatClampNeg (some q)) xs_10 ++ [(qa, (.inl (T.1, v3.toNatClampNeg, .inl (fun _ => 0)) : va_E))])) := hD
      have hP : va_P D vwCl (rW (fun j => if j = 0 then q else qa) T v3.toNatClampNeg (mNew v2) ++ xW b T (xRset xa_9 v1.toNatClampNeg (some q)) xs_10) H := hP.perm xRowPm
      have hD : va_D A (rW (fun j => if j = 0 then q else qa) T v3.toNatClampNeg (mNew v2) ++ xW b T (xRset xa_9 v1.toNatClampNeg (some q)) xs_10) := hD.perm xRowPm
      have hP := (hP.subl ((List.Sublist.refl _).append (xW_sub b T _ xs_10 v1.toNatClampNeg))).perm (xqN b T xa_9 xs_10 (in_lt n_11) q qa _ _)
      have hD := (hD.subl ((List.Sublist.refl _).append (xW_sub b T _ xs_10 v1.toNatClampNeg))).perm (xqN b T xa_9 xs_10 (in_lt n_11) q qa _ _)
      have hR : xRel b (xRnew xa_9 v1.toNatClampNeg q qa) (uR xs_10 v1.toNatClampNeg (some (v3.toNatClampNeg, mNew v2))) := xRel_rnew hR
      obtain ⟨xa_14, exa_14⟩ : ∃ z, z = xRnew xa_9 v1.toNatClampNeg q qa := ⟨_, rfl⟩
      rw [← exa_14] at hP hD hR
      obtain ⟨xs_15, exs_15⟩ : ∃ z, z = uR xs_10 v1.toNatClampNeg (some (v3.toNatClampNeg, mNew v2)) := ⟨_, rfl⟩
      rw [← exs_15] at hP hD hR
      have heq := nm_h exs_15 heq
      refine W.widen (k := 2) (n := 102) (by show 0 + 1 + 1 + 0 ≤ 2; omega) (by show 0 + 2 + v3.toNatClampNeg + 0 ≤ 102; omega) ?_
      refine lv_iconst (v := (0 : Int32)) hx hb dX10_row_55 (by decide) ?_
      obtain ⟨heq, heq2⟩ := ret_h heq
      subst heq
      subst heq2
      refine W.widen (k := 2) (n := 102) (by first | decide | omega) (by first | decide | omega) ?_
      exact hret 56 H locs ls xa_14 hR trivial hP hD hS rfl dX10_row_56
    have heq := it_f c_7 heq
    refine lv_bipush (v := (-14 : Int32)) hx hb dX10_row_28 (by decide) ?_
    obtain ⟨heq, heq2⟩ := ret_h heq
    subst heq
    subst heq2
    refine W.widen (k := 2) (n := 102) (by first | decide | omega) (by first | decide | omega) ?_
    exact hret 30 H locs ls xa hR trivial hP hD hS rfl dX10_row_30
  have heq := it_f c_6 heq
  refine lv_iconst (v := (-1 : Int32)) hx hb dX10_row_22 (by decide) ?_
  obtain ⟨heq, heq2⟩ := ret_h heq
  subst heq
  subst heq2
  refine W.widen (k := 2) (n := 102) (by first | decide | omega) (by first | decide | omega) ?_
  exact hret 23 H locs ls xa hR trivial hP hD hS rfl dX10_row_23
set_option maxRecDepth 20000 in
theorem ggX10_copy_X10_isShelf : GoodIn wsX10_copy wsX10_isShelf := goodIn_r _ [11] (by decide +kernel) (by decide +kernel)
set_option maxRecDepth 20000 in
theorem gX10_copy_X10_isShelf : GoodIn wsX10_copy (va_wsS RX10 268 yX10_isShelf wsX10_isShelf) := goodIn_app (goodIn_of _ (by decide +kernel)) ggX10_copy_X10_isShelf
set_option maxRecDepth 20000 in
theorem ggX10_copy_X10_isBare : GoodIn wsX10_copy wsX10_isBare := goodIn_r _ [15, 16, 1, 8, 9, 10, 11, 23, 24, 25, 26, 27, 28, 29] (by decide +kernel) (by decide +kernel)
set_option maxRecDepth 20000 in
theorem gX10_copy_X10_isBare : GoodIn wsX10_copy (wsV RX10 296 RX10 yX10_isBare wsX10_isBare) := goodIn_app (goodIn_of _ (by decide +kernel)) ggX10_copy_X10_isBare
set_option maxRecDepth 20000 in
theorem ggX10_copy_X7_has : GoodIn wsX10_copy wsX7_has := goodIn_r _ [21, 22, 30, 31] (by decide +kernel) (by decide +kernel)
set_option maxRecDepth 20000 in
theorem gX10_copy_X7_has : GoodIn wsX10_copy (wsV RX10 288 RX7 yX7_has wsX7_has) := goodIn_app (goodIn_of _ (by decide +kernel)) ggX10_copy_X7_has
theorem dX10_copy_0 : decode cX10_copy 0 = .ok (.iload_n 1, 1) := by decide +kernel
theorem dX10_copy_1 : decode cX10_copy 1 = .ok (.invokestatic 268, 3) := by decide +kernel
theorem dX10_copy_4 : decode cX10_copy 4 = .ok (.ifCond .eq 10, 3) := by decide +kernel
theorem dX10_copy_7 : decode cX10_copy 7 = .ok (.iload_n 3, 1) := by decide +kernel
theorem dX10_copy_8 : decode cX10_copy 8 = .ok (.invokestatic 268, 3) := by decide +kernel
theorem dX10_copy_11 : decode cX10_copy 11 = .ok (.ifCond .ne 5, 3) := by decide +kernel
theorem dX10_copy_14 : decode cX10_copy 14 = .ok (.iconst (-1), 1) := by decide +kernel
theorem dX10_copy_15 : decode cX10_copy 15 = .ok (.ireturn, 1) := by decide +kernel
theorem dX10_copy_16 : decode cX10_copy 16 = .ok (.aload_n 0, 1) := by decide +kernel
theorem dX10_copy_17 : decode cX10_copy 17 = .ok (.iload_n 1, 1) := by decide +kernel
theorem dX10_copy_18 : decode cX10_copy 18 = .ok (.invokevirtual 296, 3) := by decide +kernel
theorem dX10_copy_21 : decode cX10_copy 21 = .ok (.ifCond .ne 11, 3) := by decide +kernel
theorem dX10_copy_24 : decode cX10_copy 24 = .ok (.aload_n 0, 1) := by decide +kernel
theorem dX10_copy_25 : decode cX10_copy 25 = .ok (.iload_n 3, 1) := by decide +kernel
theorem dX10_copy_26 : decode cX10_copy 26 = .ok (.invokevirtual 296, 3) := by decide +kernel
theorem dX10_copy_29 : decode cX10_copy 29 = .ok (.ifCond .eq 6, 3) := by decide +kernel
theorem dX10_copy_32 : decode cX10_copy 32 = .ok (.bipush (-11), 2) := by decide +kernel
theorem dX10_copy_34 : decode cX10_copy 34 = .ok (.ireturn, 1) := by decide +kernel
theorem dX10_copy_35 : decode cX10_copy 35 = .ok (.aload_n 0, 1) := by decide +kernel
theorem dX10_copy_36 : decode cX10_copy 36 = .ok (.getfield 39, 3) := by decide +kernel
theorem dX10_copy_39 : decode cX10_copy 39 = .ok (.iload_n 1, 1) := by decide +kernel
theorem dX10_copy_40 : decode cX10_copy 40 = .ok (.aaload, 1) := by decide +kernel
theorem dX10_copy_41 : decode cX10_copy 41 = .ok (.astore 6, 2) := by decide +kernel
theorem dX10_copy_43 : decode cX10_copy 43 = .ok (.aload_n 0, 1) := by decide +kernel
theorem dX10_copy_44 : decode cX10_copy 44 = .ok (.getfield 39, 3) := by decide +kernel
theorem dX10_copy_47 : decode cX10_copy 47 = .ok (.iload_n 3, 1) := by decide +kernel
theorem dX10_copy_48 : decode cX10_copy 48 = .ok (.aaload, 1) := by decide +kernel
theorem dX10_copy_49 : decode cX10_copy 49 = .ok (.astore 7, 2) := by decide +kernel
theorem dX10_copy_51 : decode cX10_copy 51 = .ok (.aload 6, 2) := by decide +kernel
theorem dX10_copy_53 : decode cX10_copy 53 = .ok (.ifnull 21, 3) := by decide +kernel
theorem dX10_copy_56 : decode cX10_copy 56 = .ok (.aload 7, 2) := by decide +kernel
theorem dX10_copy_58 : decode cX10_copy 58 = .ok (.ifnull 16, 3) := by decide +kernel
theorem dX10_copy_61 : decode cX10_copy 61 = .ok (.aload 6, 2) := by decide +kernel
theorem dX10_copy_63 : decode cX10_copy 63 = .ok (.getfield 51, 3) := by decide +kernel
theorem dX10_copy_66 : decode cX10_copy 66 = .ok (.aload 7, 2) := by decide +kernel
theorem dX10_copy_68 : decode cX10_copy 68 = .ok (.getfield 51, 3) := by decide +kernel
theorem dX10_copy_71 : decode cX10_copy 71 = .ok (.if_icmp .eq 6, 3) := by decide +kernel
theorem dX10_copy_74 : decode cX10_copy 74 = .ok (.bipush (-12), 2) := by decide +kernel
theorem dX10_copy_76 : decode cX10_copy 76 = .ok (.ireturn, 1) := by decide +kernel
theorem dX10_copy_77 : decode cX10_copy 77 = .ok (.aload 6, 2) := by decide +kernel
theorem dX10_copy_79 : decode cX10_copy 79 = .ok (.iload_n 2, 1) := by decide +kernel
theorem dX10_copy_80 : decode cX10_copy 80 = .ok (.iload 5, 2) := by decide +kernel
theorem dX10_copy_82 : decode cX10_copy 82 = .ok (.invokevirtual 288, 3) := by decide +kernel
theorem dX10_copy_85 : decode cX10_copy 85 = .ok (.ifCond .eq 15, 3) := by decide +kernel
theorem dX10_copy_88 : decode cX10_copy 88 = .ok (.aload 7, 2) := by decide +kernel
theorem dX10_copy_90 : decode cX10_copy 90 = .ok (.iload 4, 2) := by decide +kernel
theorem dX10_copy_92 : decode cX10_copy 92 = .ok (.iload 5, 2) := by decide +kernel
theorem dX10_copy_94 : decode cX10_copy 94 = .ok (.invokevirtual 288, 3) := by decide +kernel
theorem dX10_copy_97 : decode cX10_copy 97 = .ok (.ifCond .ne 6, 3) := by decide +kernel
theorem dX10_copy_100 : decode cX10_copy 100 = .ok (.bipush (-13), 2) := by decide +kernel
theorem dX10_copy_102 : decode cX10_copy 102 = .ok (.ireturn, 1) := by decide +kernel
theorem dX10_copy_103 : decode cX10_copy 103 = .ok (.aload 6, 2) := by decide +kernel
theorem dX10_copy_105 : decode cX10_copy 105 = .ok (.getfield 299, 3) := by decide +kernel
theorem dX10_copy_108 : decode cX10_copy 108 = .ok (.iload_n 2, 1) := by decide +kernel
theorem dX10_copy_109 : decode cX10_copy 109 = .ok (.aload 7, 2) := by decide +kernel
theorem dX10_copy_111 : decode cX10_copy 111 = .ok (.getfield 299, 3) := by decide +kernel
theorem dX10_copy_114 : decode cX10_copy 114 = .ok (.iload 4, 2) := by decide +kernel
theorem dX10_copy_116 : decode cX10_copy 116 = .ok (.iload 5, 2) := by decide +kernel
theorem dX10_copy_118 : decode cX10_copy 118 = .ok (.invokestatic 302, 3) := by decide +kernel
theorem dX10_copy_121 : decode cX10_copy 121 = .ok (.iload 5, 2) := by decide +kernel
theorem dX10_copy_123 : decode cX10_copy 123 = .ok (.ireturn, 1) := by decide +kernel
/-! X10 copy -/
def X10_copy (xs : XS) (v1 : Int32) (v2 : Int32) (v3 : Int32) (v4 : Int32) (v5 : Int32) : Option (Int32 × XS) :=
    bd1 (X10_isShelf v1) fun y_1 =>
    if y_1 = 0 then
      (some ((-1 : Int32), xs))
    else
    bd1 (X10_isShelf v3) fun y_4 =>
    if y_4 = 0 then
      (some ((-1 : Int32), xs))
    else
    bnd (X10_isBare xs v1) fun y_7 xs_8 =>
    if y_7 = 0 then
      (bnd (X10_isBare xs_8 v3) fun y_13 xs_14 =>
      if y_13 = 0 then
        (inr v1 8 <|
        inr v3 8 <|
        ob (oR xs_14 v1.toNatClampNeg)
          (some ((-12 : Int32), xs_14))
        fun k_23 =>
        ob (oR xs_14 v3.toNatClampNeg)
          (some ((-12 : Int32), xs_14))
        fun k_27 =>
        bd1 (xR xs_14 k_23) fun rz_32 =>
        bd1 (xR xs_14 k_27) fun rz_36 =>
        if (gF rz_32.2 0) = (gF rz_36.2 0) then
          (bd1 (xR xs_14 k_23) fun rz_40 =>
          bnd (X7_has rz_40.1 rz_40.2 v2 v5) fun y_42 st_43 =>
          nm (uR xs_14 k_23 (some (rz_40.1, st_43))) fun xs_45 =>
          if y_42 = 0 then
            (some ((-13 : Int32), xs_45))
          else
          bd1 (xR xs_45 k_27) fun rz_47 =>
          bnd (X7_has rz_47.1 rz_47.2 v4 v5) fun y_49 st_50 =>
          nm (uR xs_45 k_27 (some (rz_47.1, st_50))) fun xs_52 =>
          if y_49 = 0 then
            (some ((-13 : Int32), xs_52))
          else
          bd1 (xR xs_52 k_23) fun rz_55 =>
          bd1 (xR xs_52 k_27) fun rz_59 =>
          bd1 (xR xs_52 k_23) fun rz_62 =>
          bd1 (xR xs_52 k_27) fun rz_64 =>
          cpk v2 v4 v5 rz_62.1 rz_64.1 <|
          nm (uR xs_52 k_27 (some (rz_64.1, sAA rz_64.2 1 (va_cpy (gA rz_62.2 1) (gA rz_64.2 1) v2.toNatClampNeg v4.toNatClampNeg v5.toNatClampNeg)))) fun xs_67 =>
          some (v5, xs_67))
        else
        some ((-12 : Int32), xs_14))
      else
      some ((-11 : Int32), xs_14))
    else
    some ((-11 : Int32), xs_8)
abbrev rmX10_copy : Room := { frames := 2, cells := 0, slots := 0, locals := 41 }
theorem hdX10_copy : yX10_copy.cls = RX10 ∧ yX10_copy.cls ≠ "java/lang/invoke/MethodHandle" ∧ yX10_copy.cls ≠ "java/lang/invoke/VarHandle" ∧ (parseMethodDescriptor yX10_copy.desc).map (fun d => d.parameters.length) = some 5 := by decide +kernel
set_option maxRecDepth 100000 in
set_option maxHeartbeats 8000000 in
theorem okX10_copy (z : Nat → Nat) (l : Launch) (D : va_G) (T : mT3) (b : Nat → Nat) {xa : XA} {xs : XS} {v1 : Int32} {v2 : Int32} {v3 : Int32} {v4 : Int32} {v5 : Int32} {r : Int32} {xs' : XS} (hR : xRel b xa xs) (heq : X10_copy xs v1 v2 v3 v4 v5 = some (r, xs')) : hXi xSub z l D T b yX10_copy wsX10_copy rmX10_copy [.ref (b 0), .int v1, .int v2, .int v3, .int v4, .int v5] xa xs r xs' := by
  refine xbody_i (plainFor_of_name (by decide)) rfl (Nat.le_of_ble_eq_true rfl) (fun p e s m args below meth c A Q hx hb hml hown hts hK hA hX hret ls hP hD hS hl => ?_)
  have hl : lv_has ls 8 [(0, .ref (b 0)), (1, .int v1), (2, .int v2), (3, .int v3), (4, .int v4), (5, .int v5)] := hl
  have hin10 : ∀ w ∈ wsX100, w ∈ wsX10_copy := by decide +kernel
  have hin7 : ∀ w ∈ wsX70, w ∈ wsX10_copy := by decide +kernel
  have f39 : (Cond.fieldLink RX10 39 RX10 (TX10 6).2.1 (TX10 6).2.2.1).before args s = true := hts (.fieldLink RX10 39 RX10 "rows" "[LLaidDownTheLane$Row;") (by decide +kernel)
  have f51 : (Cond.fieldLink RX10 51 RX7 (TX7 0).2.1 (TX7 0).2.2.1).before args s = true := hts (.fieldLink RX10 51 RX7 "sort" "I") (by decide +kernel)
  have f299 : (Cond.fieldLink RX10 299 RX7 (TX7 1).2.1 (TX7 1).2.2.1).before args s = true := hts (.fieldLink RX10 299 RX7 "elements" "[I") (by decide +kernel)
  have hw0 := hts (.methodLink RX10 302 arraycopyName) (by decide +kernel)
  have hw1 := hts (.native arraycopyName) (by decide +kernel)
  have hw2 := hts (.static arraycopyName) (by decide +kernel)
  have hw3 := hts (.initialized "java/lang/System") (by decide +kernel)
  obtain ⟨xa0, hxa0⟩ : ∃ z : XA, z = xa := ⟨_, rfl⟩
  rw [← hxa0] at hret
  have hU : xSub xa0 xa := by rw [hxa0]; exact xSub.rf
  clear hxa0
  obtain ⟨H, hH⟩ : ∃ H, H = s.heap := ⟨_, rfl⟩
  obtain ⟨locs, hlocs⟩ : ∃ z : List Loc, z = [] := ⟨_, rfl⟩
  have hS : va_S A s.heap H locs := by rw [hH, hlocs]; exact hS
  have hP : va_P D vwCl (xW b T xa xs) H := by rw [hH]; exact hP
  suffices h9 : W p l e rmX10_copy s m args below meth c H locs 0 0 Q (F0 m 0 ls []) by rw [hH, hlocs] at h9; exact h9
  clear hH hlocs
  unfold X10_copy at heq
  refine lv_iload_n hx hb dX10_copy_0 rfl (lv_at hl 1 rfl) ?_
  obtain ⟨y_1, h_2, heq⟩ := bd1_h heq
  refine h_si (own := RX10) (As := [.int v1]) (rest := []) (w0 := []) (w1 := []) (wr := xW b T xa xs) hx hb hml hown hts (okX10_isShelf z l D h_2) (va_cwS 1 hts gX10_copy_X10_isShelf rfl rfl rfl (hdX10_isShelf).2 ⟨Nat.le_of_ble_eq_true rfl, Nat.le_of_ble_eq_true rfl⟩) (hK.sub [] rfl) hA hX hP hD hS (List.Perm.refl _) (List.Perm.refl _) rfl hl.1 rfl (Nat.le_of_ble_eq_true rfl) dX10_copy_1 ⟨Nat.le_of_ble_eq_true rfl, Nat.le_of_ble_eq_true rfl⟩ (fun H locs hP hD hS => ?_)
  refine lv_if_eq (tgt := 14) hx hb dX10_copy_4 (by decide) (fun c_3 => ?_) (fun c_3 => ?_)
  · have heq := it_t c_3 heq
    refine lv_iconst (v := (-1 : Int32)) hx hb dX10_copy_14 (by decide) ?_
    obtain ⟨heq, heq2⟩ := ret_h heq
    subst heq
    subst heq2
    exact hret 15 H locs ls xa hR hU hP hD hS rfl dX10_copy_15
  have heq := it_f c_3 heq
  refine lv_iload_n hx hb dX10_copy_7 rfl (lv_at hl 3 rfl) ?_
  obtain ⟨y_4, h_5, heq⟩ := bd1_h heq
  refine h_si (own := RX10) (As := [.int v3]) (rest := []) (w0 := []) (w1 := []) (wr := xW b T xa xs) hx hb hml hown hts (okX10_isShelf z l D h_5) (va_cwS 1 hts gX10_copy_X10_isShelf rfl rfl rfl (hdX10_isShelf).2 ⟨Nat.le_of_ble_eq_true rfl, Nat.le_of_ble_eq_true rfl⟩) (hK.sub [] rfl) hA hX hP hD hS (List.Perm.refl _) (List.Perm.refl _) rfl hl.1 rfl (Nat.le_of_ble_eq_true rfl) dX10_copy_8 ⟨Nat.le_of_ble_eq_true rfl, Nat.le_of_ble_eq_true rfl⟩ (fun H locs hP hD hS => ?_)
  refine lv_if_ne (tgt := 16) hx hb dX10_copy_11 (by decide) (fun c_6 => ?_) (fun c_6 => ?_)
  · have heq := it_f c_6 heq
    refine lv_aload_n hx hb dX10_copy_16 rfl (lv_at hl 0 rfl) ?_
    refine lv_iload_n hx hb dX10_copy_17 rfl (lv_at hl 1 rfl) ?_
    obtain ⟨y_7, xs_8, h_9, heq⟩ := bnd_h heq
    refine x_vi (own := RX10) (As := [.int v1]) (rest := []) hx hb hml hown hts (okX10_isBare z l D T b hR h_9) (cwV 1 hts gX10_copy_X10_isBare rfl rfl rfl hdX10_isBare ⟨Nat.le_of_ble_eq_true rfl, Nat.le_of_ble_eq_true rfl⟩) hK hA hX hP hD hS (ci := 10) (q0 := 0) rfl rfl rfl hl.1 rfl (Nat.le_of_ble_eq_true rfl) dX10_copy_18 ⟨Nat.le_of_ble_eq_true rfl, Nat.le_of_ble_eq_true rfl⟩ (fun xa_10 H locs hR hsxa_10 hP hD hS => ?_)
    have hU := xSub.tr hU hsxa_10
    refine lv_if_ne (tgt := 32) hx hb dX10_copy_21 (by decide) (fun c_12 => ?_) (fun c_12 => ?_)
    · have heq := it_f c_12 heq
      refine lv_bipush (v := (-11 : Int32)) hx hb dX10_copy_32 (by decide) ?_
      obtain ⟨heq, heq2⟩ := ret_h heq
      subst heq
      subst heq2
      exact hret 34 H locs ls xa_10 hR hU hP hD hS rfl dX10_copy_34
    have heq := it_t c_12 heq
    refine lv_aload_n hx hb dX10_copy_24 rfl (lv_at hl 0 rfl) ?_
    refine lv_iload_n hx hb dX10_copy_25 rfl (lv_at hl 3 rfl) ?_
    obtain ⟨y_13, xs_14, h_15, heq⟩ := bnd_h heq
    refine x_vi (own := RX10) (As := [.int v3]) (rest := []) hx hb hml hown hts (okX10_isBare z l D T b hR h_15) (cwV 1 hts gX10_copy_X10_isBare rfl rfl rfl hdX10_isBare ⟨Nat.le_of_ble_eq_true rfl, Nat.le_of_ble_eq_true rfl⟩) hK hA hX hP hD hS (ci := 10) (q0 := 0) rfl rfl rfl hl.1 rfl (Nat.le_of_ble_eq_true rfl) dX10_copy_26 ⟨Nat.le_of_ble_eq_true rfl, Nat.le_of_ble_eq_true rfl⟩ (fun xa_16 H locs hR hsxa_16 hP hD hS => ?_)
    have hU := xSub.tr hU hsxa_16
    refine lv_if_eq (tgt := 35) hx hb dX10_copy_29 (by decide) (fun c_18 => ?_) (fun c_18 => ?_)
    · have heq := it_t c_18 heq
      refine lv_aload_n hx hb dX10_copy_35 rfl (lv_at hl 0 rfl) ?_
      refine va_get (D := D) (ci := 10) (v := .ref (b 2)) (C := RX10) (T := TX10) (N := 7) hx hb hts hin10 hown hK hP 0 rfl rfl 6 (by decide) f39 (fun _ h9 => h9) rfl dX10_copy_36 ?_
      refine lv_iload_n hx hb dX10_copy_39 rfl (lv_at hl 1 rfl) ?_
      obtain ⟨n_19, heq⟩ := inr_h heq
      have hb_20 := onR_of hR (in_lt n_19)
      refine va_aldq (C := RX7) (n := 8) (f := xRo xa_16) hx hb hK hP 2 2 rfl rfl n_19 dX10_copy_40 ?_
      refine lv_astoreQ (lv' := [(6, va_rf (xRo xa_16 v1.toNatClampNeg)), (0, .ref (b 0)), (1, .int v1), (2, .int v2), (3, .int v3), (4, .int v4), (5, .int v5)]) hx hb dX10_copy_41 hl (by decide) rfl (fun ls hl => ?_)
      refine lv_aload_n hx hb dX10_copy_43 rfl (lv_at hl 1 rfl) ?_
      refine va_get (D := D) (ci := 10) (v := .ref (b 2)) (C := RX10) (T := TX10) (N := 7) hx hb hts hin10 hown hK hP 0 rfl rfl 6 (by decide) f39 (fun _ h9 => h9) rfl dX10_copy_44 ?_
      refine lv_iload_n hx hb dX10_copy_47 rfl (lv_at hl 4 rfl) ?_
      obtain ⟨n_21, heq⟩ := inr_h heq
      have hb_22 := onR_of hR (in_lt n_21)
      refine va_aldq (C := RX7) (n := 8) (f := xRo xa_16) hx hb hK hP 2 2 rfl rfl n_21 dX10_copy_48 ?_
      refine lv_astoreQ (lv' := [(7, va_rf (xRo xa_16 v3.toNatClampNeg)), (6, va_rf (xRo xa_16 v1.toNatClampNeg)), (0, .ref (b 0)), (1, .int v1), (2, .int v2), (3, .int v3), (4, .int v4), (5, .int v5)]) hx hb dX10_copy_49 hl (by decide) (by simp [va_rfc]) (fun ls hl => ?_)
      refine lv_aloadQ (r := (xRo xa_16 v1.toNatClampNeg)) hx hb dX10_copy_51 (lv_at hl 1 rfl) ?_
      rcases obR_h hb_20 heq with ⟨h_24, heq⟩ | ⟨k_23, ⟨h_24, h_26⟩, heq⟩
      · rw [h_24] at hl ⊢
        have hl : lv_has ls 8 [(7, va_rf (xRo xa_16 v3.toNatClampNeg)), (6, .null), (0, .ref (b 0)), (1, .int v1), (2, .int v2), (3, .int v3), (4, .int v4), (5, .int v5)] := hl
        refine lv_ifnullN (tgt := 74) hx hb dX10_copy_53 (by decide) ?_
        refine lv_bipush (v := (-12 : Int32)) hx hb dX10_copy_74 (by decide) ?_
        obtain ⟨heq, heq2⟩ := ret_h heq
        subst heq
        subst heq2
        exact hret 76 H locs ls xa_16 hR hU hP hD hS rfl dX10_copy_76
      rw [h_24] at hl ⊢
      have hl : lv_has ls 8 [(7, va_rf (xRo xa_16 v3.toNatClampNeg)), (6, .ref (xRa xa_16 k_23 0)), (0, .ref (b 0)), (1, .int v1), (2, .int v2), (3, .int v3), (4, .int v4), (5, .int v5)] := hl
      refine lv_ifnull hx hb dX10_copy_53 ?_
      refine lv_aloadQ (r := (xRo xa_16 v3.toNatClampNeg)) hx hb dX10_copy_56 (lv_at hl 0 rfl) ?_
      rcases obR_h hb_22 heq with ⟨h_28, heq⟩ | ⟨k_27, ⟨h_28, h_30⟩, heq⟩
      · rw [h_28] at hl ⊢
        have hl : lv_has ls 8 [(7, .null), (6, .ref (xRa xa_16 k_23 0)), (0, .ref (b 0)), (1, .int v1), (2, .int v2), (3, .int v3), (4, .int v4), (5, .int v5)] := hl
        refine lv_ifnullN (tgt := 74) hx hb dX10_copy_58 (by decide) ?_
        refine lv_bipush (v := (-12 : Int32)) hx hb dX10_copy_74 (by decide) ?_
        obtain ⟨heq, heq2⟩ := ret_h heq
        subst heq
        subst heq2
        exact hret 76 H locs ls xa_16 hR hU hP hD hS rfl dX10_copy_76
      rw [h_28] at hl ⊢
      have hl : lv_has ls 8 [(7, .ref (xRa xa_16 k_27 0)), (6, .ref (xRa xa_16 k_23 0)), (0, .ref (b 0)), (1, .int v1), (2, .int v2), (3, .int v3), (4, .int v4), (5, .int v5)] := hl
      refine lv_ifnull hx hb dX10_copy_58 ?_
      refine lv_aload hx hb dX10_copy_61 (lv_at hl 1 rfl) ?_
      obtain ⟨rz_32, hz_31, heq⟩ := bd1_h heq
      obtain ⟨j_33, hj_34⟩ := List.getElem?_of_mem ((xpR b T xa_16 xs_14 h_26 hz_31).mem_iff.mpr (List.mem_append_left _ (List.mem_of_getElem? (i := 0) rfl)))
      refine va_get (D := D) (ci := 7) (v := .int (gF rz_32.2 0)) (C := RX7) (T := TX7) (N := 2) hx hb hts hin7 hown hK hP j_33 hj_34 rfl 0 (by decide) f51 (fun _ h9 => h9) rfl dX10_copy_63 ?_
      refine lv_aload hx hb dX10_copy_66 (lv_at hl 0 rfl) ?_
      obtain ⟨rz_36, hz_35, heq⟩ := bd1_h heq
      obtain ⟨j_37, hj_38⟩ := List.getElem?_of_mem ((xpR b T xa_16 xs_14 h_30 hz_35).mem_iff.mpr (List.mem_append_left _ (List.mem_of_getElem? (i := 0) rfl)))
      refine va_get (D := D) (ci := 7) (v := .int (gF rz_36.2 0)) (C := RX7) (T := TX7) (N := 2) hx hb hts hin7 hown hK hP j_37 hj_38 rfl 0 (by decide) f51 (fun _ h9 => h9) rfl dX10_copy_68 ?_
      refine lv_icmp_eq (tgt := 77) hx hb dX10_copy_71 (by decide) (fun c_39 => ?_) (fun c_39 => ?_)
      · have heq := it_t c_39 heq
        refine lv_aload hx hb dX10_copy_77 (lv_at hl 1 rfl) ?_
        refine lv_iload_n hx hb dX10_copy_79 rfl (lv_at hl 4 rfl) ?_
        refine lv_iload hx hb dX10_copy_80 (lv_at hl 7 rfl) ?_
        obtain ⟨rz_40, hz_41, heq⟩ := bd1_h heq
        obtain ⟨y_42, st_43, h_44, heq⟩ := bnd_h heq
        refine h_vi (own := RX10) (As := [.int v2, .int v5]) (rest := []) (wr := xWrR b T xa_16 xs_14 k_23) hx hb hml hown hts (okX7_has z l D (xRa xa_16 k_23) T h_44) (cwV 2 hts gX10_copy_X7_has rfl rfl rfl hdX7_has ⟨Nat.le_of_ble_eq_true rfl, Nat.le_of_ble_eq_true rfl⟩) hK hA hX hP hD hS (xpR b T xa_16 xs_14 h_26 hz_41) (xqR b T xa_16 xs_14 h_26 _ _) (ci := 7) (q0 := 0) rfl rfl rfl hl.1 rfl (Nat.le_of_ble_eq_true rfl) dX10_copy_82 ⟨Nat.le_of_ble_eq_true rfl, Nat.le_of_ble_eq_true rfl⟩ (fun H locs hP hD hS => ?_)
        obtain ⟨xs_45, exs_45⟩ : ∃ z, z = uR xs_14 k_23 (some (rz_40.1, st_43)) := ⟨_, rfl⟩
        have hR : xRel b xa_16 (uR xs_14 k_23 (some (rz_40.1, st_43))) := hR.uR hz_41
        rw [← exs_45] at hP hD hR
        have heq := nm_h exs_45 heq
        refine lv_if_eq (tgt := 100) hx hb dX10_copy_85 (by decide) (fun c_46 => ?_) (fun c_46 => ?_)
        · have heq := it_t c_46 heq
          refine lv_bipush (v := (-13 : Int32)) hx hb dX10_copy_100 (by decide) ?_
          obtain ⟨heq, heq2⟩ := ret_h heq
          subst heq
          subst heq2
          exact hret 102 H locs ls xa_16 hR hU hP hD hS rfl dX10_copy_102
        have heq := it_f c_46 heq
        refine lv_aload hx hb dX10_copy_88 (lv_at hl 0 rfl) ?_
        refine lv_iload hx hb dX10_copy_90 (lv_at hl 6 rfl) ?_
        refine lv_iload hx hb dX10_copy_92 (lv_at hl 7 rfl) ?_
        obtain ⟨rz_47, hz_48, heq⟩ := bd1_h heq
        obtain ⟨y_49, st_50, h_51, heq⟩ := bnd_h heq
        refine h_vi (own := RX10) (As := [.int v4, .int v5]) (rest := []) (wr := xWrR b T xa_16 xs_45 k_27) hx hb hml hown hts (okX7_has z l D (xRa xa_16 k_27) T h_51) (cwV 2 hts gX10_copy_X7_has rfl rfl rfl hdX7_has ⟨Nat.le_of_ble_eq_true rfl, Nat.le_of_ble_eq_true rfl⟩) hK hA hX hP hD hS (xpR b T xa_16 xs_45 h_30 hz_48) (xqR b T xa_16 xs_45 h_30 _ _) (ci := 7) (q0 := 0) rfl rfl rfl hl.1 rfl (Nat.le_of_ble_eq_true rfl) dX10_copy_94 ⟨Nat.le_of_ble_eq_true rfl, Nat.le_of_ble_eq_true rfl⟩ (fun H locs hP hD hS => ?_)
        obtain ⟨xs_52, exs_52⟩ : ∃ z, z = uR xs_45 k_27 (some (rz_47.1, st_50)) := ⟨_, rfl⟩
        have hR : xRel b xa_16 (uR xs_45 k_27 (some (rz_47.1, st_50))) := hR.uR hz_48
        rw [← exs_52] at hP hD hR
        have heq := nm_h exs_52 heq
        refine lv_if_ne (tgt := 103) hx hb dX10_copy_97 (by decide) (fun c_53 => ?_) (fun c_53 => ?_)
        · have heq := it_f c_53 heq
          refine lv_aload hx hb dX10_copy_103 (lv_at hl 1 rfl) ?_
          obtain ⟨rz_55, hz_54, heq⟩ := bd1_h heq
          obtain ⟨j_56, hj_57⟩ := List.getElem?_of_mem ((xpR b T xa_16 xs_52 h_26 hz_54).mem_iff.mpr (List.mem_append_left _ (List.mem_of_getElem? (i := 0) rfl)))
          refine va_get (D := D) (ci := 7) (v := .ref (xRa xa_16 k_23 1)) (C := RX7) (T := TX7) (N := 2) hx hb hts hin7 hown hK hP j_56 hj_57 rfl 1 (by decide) f299 (fun _ h9 => h9) rfl dX10_copy_105 ?_
          refine lv_iload_n hx hb dX10_copy_108 rfl (lv_at hl 4 rfl) ?_
          refine lv_aload hx hb dX10_copy_109 (lv_at hl 0 rfl) ?_
          obtain ⟨rz_59, hz_58, heq⟩ := bd1_h heq
          obtain ⟨j_60, hj_61⟩ := List.getElem?_of_mem ((xpR b T xa_16 xs_52 h_30 hz_58).mem_iff.mpr (List.mem_append_left _ (List.mem_of_getElem? (i := 0) rfl)))
          refine va_get (D := D) (ci := 7) (v := .ref (xRa xa_16 k_27 1)) (C := RX7) (T := TX7) (N := 2) hx hb hts hin7 hown hK hP j_60 hj_61 rfl 1 (by decide) f299 (fun _ h9 => h9) rfl dX10_copy_111 ?_
          refine lv_iload hx hb dX10_copy_114 (lv_at hl 6 rfl) ?_
          refine lv_iload hx hb dX10_copy_116 (lv_at hl 7 rfl) ?_
          obtain ⟨rz_62, hz_63, heq⟩ := bd1_h heq
          obtain ⟨rz_64, hz_65, heq⟩ := bd1_h heq
          obtain ⟨hc_66, heq⟩ := cpk_h heq
          refine x_copy hx hb (hml.trans hl.1.symm) hown hw0 hw1 hw2 hw3 hK hP hD hS h_26 h_30 hz_63 hz_65 hc_66 (Nat.le_of_ble_eq_true rfl) (Nat.le_of_ble_eq_true rfl) dX10_copy_118 (fun H locs hP hD hS => ?_)
          obtain ⟨xs_67, exs_67⟩ : ∃ z, z = uR xs_52 k_27 (some (rz_64.1, sAA rz_64.2 1 (va_cpy (gA rz_62.2 1) (gA rz_64.2 1) v2.toNatClampNeg v4.toNatClampNeg v5.toNatClampNeg))) := ⟨_, rfl⟩
          have hR : xRel b xa_16 (uR xs_52 k_27 (some (rz_64.1, sAA rz_64.2 1 (va_cpy (gA rz_62.2 1) (gA rz_64.2 1) v2.toNatClampNeg v4.toNatClampNeg v5.toNatClampNeg)))) := hR.uR hz_65
          rw [← exs_67] at hP hD hR
          have heq := nm_h exs_67 heq
          refine lv_iload hx hb dX10_copy_121 (lv_at hl 7 rfl) ?_
          obtain ⟨heq, heq2⟩ := ret_h heq
          subst heq
          subst heq2
          exact hret 123 H locs ls xa_16 hR hU hP hD hS rfl dX10_copy_123
        have heq := it_t c_53 heq
        refine lv_bipush (v := (-13 : Int32)) hx hb dX10_copy_100 (by decide) ?_
        obtain ⟨heq, heq2⟩ := ret_h heq
        subst heq
        subst heq2
        exact hret 102 H locs ls xa_16 hR hU hP hD hS rfl dX10_copy_102
      have heq := it_f c_39 heq
      refine lv_bipush (v := (-12 : Int32)) hx hb dX10_copy_74 (by decide) ?_
      obtain ⟨heq, heq2⟩ := ret_h heq
      subst heq
      subst heq2
      exact hret 76 H locs ls xa_16 hR hU hP hD hS rfl dX10_copy_76
    have heq := it_f c_18 heq
    refine lv_bipush (v := (-11 : Int32)) hx hb dX10_copy_32 (by decide) ?_
    obtain ⟨heq, heq2⟩ := ret_h heq
    subst heq
    subst heq2
    exact hret 34 H locs ls xa_16 hR hU hP hD hS rfl dX10_copy_34
  have heq := it_t c_6 heq
  refine lv_iconst (v := (-1 : Int32)) hx hb dX10_copy_14 (by decide) ?_
  obtain ⟨heq, heq2⟩ := ret_h heq
  subst heq
  subst heq2
  exact hret 15 H locs ls xa hR hU hP hD hS rfl dX10_copy_15
