set_option maxRecDepth 20000 in
theorem ggX10_order_J6_bitCount_0f7a4 : GoodIn wsX10_order wsJ6_bitCount_0f7a4 := goodIn_r _ [5, 6, 7, 8] (by decide +kernel) (by decide +kernel)
set_option maxRecDepth 20000 in
theorem gX10_order_J6_bitCount_0f7a4 : GoodIn wsX10_order (va_wsS RX10 166 yJ6_bitCount_0f7a4 wsJ6_bitCount_0f7a4) := goodIn_app (goodIn_of _ (by decide +kernel)) ggX10_order_J6_bitCount_0f7a4
set_option maxRecDepth 20000 in
theorem ggX10_order_X8_isDown : GoodIn wsX10_order wsX8_isDown := goodIn_r _ [13, 14, 153, 154, 155, 156, 157, 158, 159, 160, 161, 162] (by decide +kernel) (by decide +kernel)
set_option maxRecDepth 20000 in
theorem gX10_order_X8_isDown : GoodIn wsX10_order (wsV RX10 116 RX8 yX8_isDown wsX8_isDown) := goodIn_app (goodIn_of _ (by decide +kernel)) ggX10_order_X8_isDown
set_option maxRecDepth 20000 in
theorem ggX10_order_X10_lastInOrder : GoodIn wsX10_order wsX10_lastInOrder := goodIn_r _ [19, 20, 1, 21, 22, 23, 12, 24, 25, 26, 27, 28, 29, 30, 31, 32, 33, 14, 34, 35, 36, 18, 37, 38, 39, 40, 41, 42, 43, 44, 45, 46, 47, 48, 49, 50, 51, 52, 53, 54, 55, 56, 57, 58, 59, 60, 61, 62, 63, 64, 65, 66, 67, 68, 69, 70, 71, 72, 73, 74, 75, 76, 77, 78, 79, 80, 81, 82, 83, 84, 85, 86, 87, 88, 89, 90, 91, 92, 93, 94, 95, 96, 97, 98, 99, 100, 101, 102, 103, 104, 105, 106, 107, 108, 109, 110, 111, 112, 113, 114, 115, 116, 117, 118, 119, 120, 121, 122, 123, 124, 125, 126, 127, 128, 129, 130, 131, 132, 133, 134, 135, 136, 137, 138, 139, 140, 141, 142, 146, 147, 148, 149, 150, 151, 152, 153, 154, 155, 156, 157, 158, 159, 160, 161, 162, 163, 164, 165, 166, 167, 168, 169, 170] (by decide +kernel) (by decide +kernel)
set_option maxRecDepth 20000 in
theorem gX10_order_X10_lastInOrder : GoodIn wsX10_order (wsV RX10 171 RX10 yX10_lastInOrder wsX10_lastInOrder) := goodIn_app (goodIn_of _ (by decide +kernel)) ggX10_order_X10_lastInOrder
set_option maxRecDepth 20000 in
theorem ggX10_order_X10_cellOf : GoodIn wsX10_order wsX10_cellOf := goodIn_r _ [145] (by decide +kernel) (by decide +kernel)
set_option maxRecDepth 20000 in
theorem gX10_order_X10_cellOf : GoodIn wsX10_order (va_wsS RX10 174 yX10_cellOf wsX10_cellOf) := goodIn_app (goodIn_of _ (by decide +kernel)) ggX10_order_X10_cellOf
theorem dX10_order_0 : decode cX10_order 0 = .ok (.iload_n 1, 1) := by decide +kernel
theorem dX10_order_1 : decode cX10_order 1 = .ok (.iconst 1, 1) := by decide +kernel
theorem dX10_order_2 : decode cX10_order 2 = .ok (.if_icmp .lt 23, 3) := by decide +kernel
theorem dX10_order_5 : decode cX10_order 5 = .ok (.iload_n 1, 1) := by decide +kernel
theorem dX10_order_6 : decode cX10_order 6 = .ok (.sipush 4095, 3) := by decide +kernel
theorem dX10_order_9 : decode cX10_order 9 = .ok (.if_icmp .gt 16, 3) := by decide +kernel
theorem dX10_order_12 : decode cX10_order 12 = .ok (.iload_n 1, 1) := by decide +kernel
theorem dX10_order_13 : decode cX10_order 13 = .ok (.invokestatic 166, 3) := by decide +kernel
theorem dX10_order_16 : decode cX10_order 16 = .ok (.bipush 8, 2) := by decide +kernel
theorem dX10_order_18 : decode cX10_order 18 = .ok (.if_icmp .gt 7, 3) := by decide +kernel
theorem dX10_order_21 : decode cX10_order 21 = .ok (.iload_n 2, 1) := by decide +kernel
theorem dX10_order_22 : decode cX10_order 22 = .ok (.ifCond .ge 5, 3) := by decide +kernel
theorem dX10_order_25 : decode cX10_order 25 = .ok (.iconst (-1), 1) := by decide +kernel
theorem dX10_order_26 : decode cX10_order 26 = .ok (.ireturn, 1) := by decide +kernel
theorem dX10_order_27 : decode cX10_order 27 = .ok (.aload_n 0, 1) := by decide +kernel
theorem dX10_order_28 : decode cX10_order 28 = .ok (.getfield 10, 3) := by decide +kernel
theorem dX10_order_31 : decode cX10_order 31 = .ok (.invokevirtual 116, 3) := by decide +kernel
theorem dX10_order_34 : decode cX10_order 34 = .ok (.ifCond .eq 6, 3) := by decide +kernel
theorem dX10_order_37 : decode cX10_order 37 = .ok (.bipush (-3), 2) := by decide +kernel
theorem dX10_order_39 : decode cX10_order 39 = .ok (.ireturn, 1) := by decide +kernel
theorem dX10_order_40 : decode cX10_order 40 = .ok (.aload_n 0, 1) := by decide +kernel
theorem dX10_order_41 : decode cX10_order 41 = .ok (.iload_n 1, 1) := by decide +kernel
theorem dX10_order_42 : decode cX10_order 42 = .ok (.invokevirtual 171, 3) := by decide +kernel
theorem dX10_order_45 : decode cX10_order 45 = .ok (.istore_n 3, 1) := by decide +kernel
theorem dX10_order_46 : decode cX10_order 46 = .ok (.iload_n 1, 1) := by decide +kernel
theorem dX10_order_47 : decode cX10_order 47 = .ok (.invokestatic 166, 3) := by decide +kernel
theorem dX10_order_50 : decode cX10_order 50 = .ok (.istore 4, 2) := by decide +kernel
theorem dX10_order_52 : decode cX10_order 52 = .ok (.iload_n 3, 1) := by decide +kernel
theorem dX10_order_53 : decode cX10_order 53 = .ok (.bipush (-4), 2) := by decide +kernel
theorem dX10_order_55 : decode cX10_order 55 = .ok (.if_icmp .eq 9, 3) := by decide +kernel
theorem dX10_order_58 : decode cX10_order 58 = .ok (.iload_n 2, 1) := by decide +kernel
theorem dX10_order_59 : decode cX10_order 59 = .ok (.iload 4, 2) := by decide +kernel
theorem dX10_order_61 : decode cX10_order 61 = .ok (.if_icmp .lt 6, 3) := by decide +kernel
theorem dX10_order_64 : decode cX10_order 64 = .ok (.bipush (-4), 2) := by decide +kernel
theorem dX10_order_66 : decode cX10_order 66 = .ok (.ireturn, 1) := by decide +kernel
theorem dX10_order_67 : decode cX10_order 67 = .ok (.iload_n 2, 1) := by decide +kernel
theorem dX10_order_68 : decode cX10_order 68 = .ok (.iload 4, 2) := by decide +kernel
theorem dX10_order_70 : decode cX10_order 70 = .ok (.iconst 1, 1) := by decide +kernel
theorem dX10_order_71 : decode cX10_order 71 = .ok (.isub, 1) := by decide +kernel
theorem dX10_order_72 : decode cX10_order 72 = .ok (.if_icmp .ne 7, 3) := by decide +kernel
theorem dX10_order_75 : decode cX10_order 75 = .ok (.iload_n 3, 1) := by decide +kernel
theorem dX10_order_76 : decode cX10_order 76 = .ok (.goto 14, 3) := by decide +kernel
theorem dX10_order_79 : decode cX10_order 79 = .ok (.iload_n 1, 1) := by decide +kernel
theorem dX10_order_80 : decode cX10_order 80 = .ok (.iconst 1, 1) := by decide +kernel
theorem dX10_order_81 : decode cX10_order 81 = .ok (.iload_n 3, 1) := by decide +kernel
theorem dX10_order_82 : decode cX10_order 82 = .ok (.ishl, 1) := by decide +kernel
theorem dX10_order_83 : decode cX10_order 83 = .ok (.iconst (-1), 1) := by decide +kernel
theorem dX10_order_84 : decode cX10_order 84 = .ok (.ixor, 1) := by decide +kernel
theorem dX10_order_85 : decode cX10_order 85 = .ok (.iand, 1) := by decide +kernel
theorem dX10_order_86 : decode cX10_order 86 = .ok (.iload_n 2, 1) := by decide +kernel
theorem dX10_order_87 : decode cX10_order 87 = .ok (.invokestatic 174, 3) := by decide +kernel
theorem dX10_order_90 : decode cX10_order 90 = .ok (.ireturn, 1) := by decide +kernel
/-! X10 order -/
def X10_order_p90 (xs : XS) (t0 : Int32) : Option (Int32 × XS) :=
    some (t0, xs)
def X10_order (xs : XS) (v1 : Int32) (v2 : Int32) : Option (Int32 × XS) :=
    if v1 < (1 : Int32) then
      (some ((-1 : Int32), xs))
    else
    if (4095 : Int32) < v1 then
      (some ((-1 : Int32), xs))
    else
    bd1 (J6_bitCount_0f7a4 v1) fun y_3 =>
    if (8 : Int32) < y_3 then
      (some ((-1 : Int32), xs))
    else
    if 0 ≤ v2 then
      (bnd (X8_isDown (xT xs 0)) fun y_7 st_8 =>
      nm (uT xs 0 st_8) fun xs_10 =>
      if y_7 = 0 then
        (bnd (X10_lastInOrder xs_10 v1) fun y_12 xs_13 =>
        bd1 (J6_bitCount_0f7a4 v1) fun y_17 =>
        if y_12 = (-4 : Int32) then
          (some ((-4 : Int32), xs_13))
        else
        if v2 < y_17 then
          (if v2 = (y_17 - (1 : Int32)) then
            (X10_order_p90 xs_13 y_12)
          else
          bd1 (X10_cellOf (v1 &&& (((1 : Int32) <<< (y_12 &&& 31)) ^^^ (-1 : Int32))) v2) fun y_22 =>
          X10_order_p90 xs_13 y_22)
        else
        some ((-4 : Int32), xs_13))
      else
      some ((-3 : Int32), xs_10))
    else
    some ((-1 : Int32), xs)
abbrev rmX10_order : Room := { frames := 6, cells := 0, slots := 0, locals := 137 }
theorem hdX10_order : yX10_order.cls = RX10 ∧ yX10_order.cls ≠ "java/lang/invoke/MethodHandle" ∧ yX10_order.cls ≠ "java/lang/invoke/VarHandle" ∧ (parseMethodDescriptor yX10_order.desc).map (fun d => d.parameters.length) = some 2 := by decide +kernel
set_option maxRecDepth 100000 in
set_option maxHeartbeats 8000000 in
theorem okX10_order (z : Nat → Nat) (l : Launch) (D : va_G) (T : mT3) (b : Nat → Nat) {xa : XA} {xs : XS} {v1 : Int32} {v2 : Int32} {r : Int32} {xs' : XS} (hR : xRel b xa xs) (heq : X10_order xs v1 v2 = some (r, xs')) : hXi xSub z l D T b yX10_order wsX10_order rmX10_order [.ref (b 0), .int v1, .int v2] xa xs r xs' := by
  refine xbody_i (plainFor_of_name (by decide)) rfl (Nat.le_of_ble_eq_true rfl) (fun p e s m args below meth c A Q hx hb hml hown hts hK hA hX hret ls hP hD hS hl => ?_)
  have hl : lv_has ls 5 [(0, .ref (b 0)), (1, .int v1), (2, .int v2)] := hl
  have hin10 : ∀ w ∈ wsX100, w ∈ wsX10_order := by decide +kernel
  have f10 : (Cond.fieldLink RX10 10 RX10 (TX10 0).2.1 (TX10 0).2.2.1).before args s = true := hts (.fieldLink RX10 10 RX10 "now" "LLaidDownTheLane$Town;") (by decide +kernel)
  obtain ⟨xa0, hxa0⟩ : ∃ z : XA, z = xa := ⟨_, rfl⟩
  rw [← hxa0] at hret
  have hU : xSub xa0 xa := by rw [hxa0]; exact xSub.rf
  clear hxa0
  have b90 : ∀ (xs : XS) (t0 : Int32) (xa : XA) (H : Heap) (locs : List Loc) (ls : Array Slot), xRel b xa xs → xSub xa0 xa → va_P D vwCl (xW b T xa xs) H → va_D A (xW b T xa xs) → va_S A s.heap H locs → lv_has ls 5 [] → X10_order_p90 xs t0 = some (r, xs') → W p l e rmX10_order s m args below meth c H locs 0 0 Q (F0 m 90 ls [.int t0]) := by
    intro xs t0 xa H locs ls hR hU hP hD hS hl heq
    unfold X10_order_p90 at heq
    obtain ⟨heq, heq2⟩ := ret_h heq
    subst heq
    subst heq2
    exact hret 90 H locs ls xa hR hU hP hD hS rfl dX10_order_90
  obtain ⟨H, hH⟩ : ∃ H, H = s.heap := ⟨_, rfl⟩
  obtain ⟨locs, hlocs⟩ : ∃ z : List Loc, z = [] := ⟨_, rfl⟩
  have hS : va_S A s.heap H locs := by rw [hH, hlocs]; exact hS
  have hP : va_P D vwCl (xW b T xa xs) H := by rw [hH]; exact hP
  suffices h9 : W p l e rmX10_order s m args below meth c H locs 0 0 Q (F0 m 0 ls []) by rw [hH, hlocs] at h9; exact h9
  clear hH hlocs
  unfold X10_order at heq
  refine lv_iload_n hx hb dX10_order_0 rfl (lv_at hl 1 rfl) ?_
  refine lv_iconst (v := (1 : Int32)) hx hb dX10_order_1 (by decide) ?_
  refine lv_icmp_lt (tgt := 25) hx hb dX10_order_2 (by decide) (fun c_1 => ?_) (fun c_1 => ?_)
  · have heq := it_t c_1 heq
    refine lv_iconst (v := (-1 : Int32)) hx hb dX10_order_25 (by decide) ?_
    obtain ⟨heq, heq2⟩ := ret_h heq
    subst heq
    subst heq2
    exact hret 26 H locs ls xa hR hU hP hD hS rfl dX10_order_26
  have heq := it_f c_1 heq
  refine lv_iload_n hx hb dX10_order_5 rfl (lv_at hl 1 rfl) ?_
  refine lv_sipush (v := (4095 : Int32)) hx hb dX10_order_6 (by decide) ?_
  refine lv_icmp_gt (tgt := 25) hx hb dX10_order_9 (by decide) (fun c_2 => ?_) (fun c_2 => ?_)
  · have heq := it_t c_2 heq
    refine lv_iconst (v := (-1 : Int32)) hx hb dX10_order_25 (by decide) ?_
    obtain ⟨heq, heq2⟩ := ret_h heq
    subst heq
    subst heq2
    exact hret 26 H locs ls xa hR hU hP hD hS rfl dX10_order_26
  have heq := it_f c_2 heq
  refine lv_iload_n hx hb dX10_order_12 rfl (lv_at hl 1 rfl) ?_
  obtain ⟨y_3, h_4, heq⟩ := bd1_h heq
  refine h_si (own := RX10) (As := [.int v1]) (rest := []) (w0 := []) (w1 := []) (wr := xW b T xa xs) hx hb hml hown hts (okJ6_bitCount_0f7a4 z l D h_4) (va_cwS 1 hts gX10_order_J6_bitCount_0f7a4 rfl rfl rfl (hdJ6_bitCount_0f7a4).2 ⟨Nat.le_of_ble_eq_true rfl, Nat.le_of_ble_eq_true rfl⟩) (hK.sub [] rfl) hA hX hP hD hS (List.Perm.refl _) (List.Perm.refl _) rfl hl.1 rfl (Nat.le_of_ble_eq_true rfl) dX10_order_13 ⟨Nat.le_of_ble_eq_true rfl, Nat.le_of_ble_eq_true rfl⟩ (fun H locs hP hD hS => ?_)
  refine lv_bipush (v := (8 : Int32)) hx hb dX10_order_16 (by decide) ?_
  refine lv_icmp_gt (tgt := 25) hx hb dX10_order_18 (by decide) (fun c_5 => ?_) (fun c_5 => ?_)
  · have heq := it_t c_5 heq
    refine lv_iconst (v := (-1 : Int32)) hx hb dX10_order_25 (by decide) ?_
    obtain ⟨heq, heq2⟩ := ret_h heq
    subst heq
    subst heq2
    exact hret 26 H locs ls xa hR hU hP hD hS rfl dX10_order_26
  have heq := it_f c_5 heq
  refine lv_iload_n hx hb dX10_order_21 rfl (lv_at hl 2 rfl) ?_
  refine lv_if_ge (tgt := 27) hx hb dX10_order_22 (by decide) (fun c_6 => ?_) (fun c_6 => ?_)
  · have heq := it_t c_6 heq
    refine lv_aload_n hx hb dX10_order_27 rfl (lv_at hl 0 rfl) ?_
    refine va_get (D := D) (ci := 10) (v := .ref (b 3)) (C := RX10) (T := TX10) (N := 7) hx hb hts hin10 hown hK hP 0 rfl rfl 0 (by decide) f10 (fun _ h9 => h9) rfl dX10_order_28 ?_
    obtain ⟨y_7, st_8, h_9, heq⟩ := bnd_h heq
    refine h_vi (own := RX10) (As := []) (rest := []) (wr := xWr0 b T xa xs) hx hb hml hown hts (okX8_isDown z l D (fun j => b (3 + j)) T (fun j => some (xFo xa 0 j)) h_9) (cwV 0 hts gX10_order_X8_isDown rfl rfl rfl hdX8_isDown ⟨Nat.le_of_ble_eq_true rfl, Nat.le_of_ble_eq_true rfl⟩) hK hA hX hP hD hS (xp0 b T xa xs) (xq0 b T xa xs _) (ci := 8) (q0 := 0) rfl rfl rfl hl.1 rfl (Nat.le_of_ble_eq_true rfl) dX10_order_31 ⟨Nat.le_of_ble_eq_true rfl, Nat.le_of_ble_eq_true rfl⟩ (fun H locs hP hD hS => ?_)
    obtain ⟨xs_10, exs_10⟩ : ∃ z, z = uT xs 0 st_8 := ⟨_, rfl⟩
    have hR : xRel b xa (uT xs 0 st_8) := hR.uT _ _
    rw [← exs_10] at hP hD hR
    have heq := nm_h exs_10 heq
    refine lv_if_eq (tgt := 40) hx hb dX10_order_34 (by decide) (fun c_11 => ?_) (fun c_11 => ?_)
    · have heq := it_t c_11 heq
      refine lv_aload_n hx hb dX10_order_40 rfl (lv_at hl 0 rfl) ?_
      refine lv_iload_n hx hb dX10_order_41 rfl (lv_at hl 1 rfl) ?_
      obtain ⟨y_12, xs_13, h_14, heq⟩ := bnd_h heq
      refine x_vi (own := RX10) (As := [.int v1]) (rest := []) hx hb hml hown hts (okX10_lastInOrder z l D T b hR h_14) (cwV 1 hts gX10_order_X10_lastInOrder rfl rfl rfl hdX10_lastInOrder ⟨Nat.le_of_ble_eq_true rfl, Nat.le_of_ble_eq_true rfl⟩) hK hA hX hP hD hS (ci := 10) (q0 := 0) rfl rfl rfl hl.1 rfl (Nat.le_of_ble_eq_true rfl) dX10_order_42 ⟨Nat.le_of_ble_eq_true rfl, Nat.le_of_ble_eq_true rfl⟩ (fun xa_15 H locs hR hsxa_15 hP hD hS => ?_)
      have hU := xSub.tr hU hsxa_15
      refine lv_istore_n (lv' := [(3, .int y_12), (0, .ref (b 0)), (1, .int v1), (2, .int v2)]) hx hb dX10_order_45 rfl hl (by decide) rfl (fun ls hl => ?_)
      refine lv_iload_n hx hb dX10_order_46 rfl (lv_at hl 2 rfl) ?_
      obtain ⟨y_17, h_18, heq⟩ := bd1_h heq
      refine h_si (own := RX10) (As := [.int v1]) (rest := []) (w0 := []) (w1 := []) (wr := xW b T xa_15 xs_13) hx hb hml hown hts (okJ6_bitCount_0f7a4 z l D h_18) (va_cwS 1 hts gX10_order_J6_bitCount_0f7a4 rfl rfl rfl (hdJ6_bitCount_0f7a4).2 ⟨Nat.le_of_ble_eq_true rfl, Nat.le_of_ble_eq_true rfl⟩) (hK.sub [] rfl) hA hX hP hD hS (List.Perm.refl _) (List.Perm.refl _) rfl hl.1 rfl (Nat.le_of_ble_eq_true rfl) dX10_order_47 ⟨Nat.le_of_ble_eq_true rfl, Nat.le_of_ble_eq_true rfl⟩ (fun H locs hP hD hS => ?_)
      refine lv_istore (lv' := [(4, .int y_17), (3, .int y_12), (0, .ref (b 0)), (1, .int v1), (2, .int v2)]) hx hb dX10_order_50 hl (by decide) rfl (fun ls hl => ?_)
      refine lv_iload_n hx hb dX10_order_52 rfl (lv_at hl 1 rfl) ?_
      refine lv_bipush (v := (-4 : Int32)) hx hb dX10_order_53 (by decide) ?_
      refine lv_icmp_eq (tgt := 64) hx hb dX10_order_55 (by decide) (fun c_19 => ?_) (fun c_19 => ?_)
      · have heq := it_t c_19 heq
        refine lv_bipush (v := (-4 : Int32)) hx hb dX10_order_64 (by decide) ?_
        obtain ⟨heq, heq2⟩ := ret_h heq
        subst heq
        subst heq2
        exact hret 66 H locs ls xa_15 hR hU hP hD hS rfl dX10_order_66
      have heq := it_f c_19 heq
      refine lv_iload_n hx hb dX10_order_58 rfl (lv_at hl 4 rfl) ?_
      refine lv_iload hx hb dX10_order_59 (lv_at hl 0 rfl) ?_
      refine lv_icmp_lt (tgt := 67) hx hb dX10_order_61 (by decide) (fun c_20 => ?_) (fun c_20 => ?_)
      · have heq := it_t c_20 heq
        refine lv_iload_n hx hb dX10_order_67 rfl (lv_at hl 4 rfl) ?_
        refine lv_iload hx hb dX10_order_68 (lv_at hl 0 rfl) ?_
        refine lv_iconst (v := (1 : Int32)) hx hb dX10_order_70 (by decide) ?_
        refine lv_isub hx hb dX10_order_71 ?_
        refine lv_icmp_ne (tgt := 79) hx hb dX10_order_72 (by decide) (fun c_21 => ?_) (fun c_21 => ?_)
        · have heq := it_f c_21 heq
          refine lv_iload_n hx hb dX10_order_79 rfl (lv_at hl 3 rfl) ?_
          refine lv_iconst (v := (1 : Int32)) hx hb dX10_order_80 (by decide) ?_
          refine lv_iload_n hx hb dX10_order_81 rfl (lv_at hl 1 rfl) ?_
          refine lv_ishl hx hb dX10_order_82 ?_
          refine lv_iconst (v := (-1 : Int32)) hx hb dX10_order_83 (by decide) ?_
          refine lv_ixor hx hb dX10_order_84 ?_
          refine lv_iand hx hb dX10_order_85 ?_
          refine lv_iload_n hx hb dX10_order_86 rfl (lv_at hl 4 rfl) ?_
          obtain ⟨y_22, h_23, heq⟩ := bd1_h heq
          refine h_si (own := RX10) (As := [.int (v1 &&& (((1 : Int32) <<< (y_12 &&& 31)) ^^^ (-1 : Int32))), .int v2]) (rest := []) (w0 := []) (w1 := []) (wr := xW b T xa_15 xs_13) hx hb hml hown hts (okX10_cellOf z l D h_23) (va_cwS 2 hts gX10_order_X10_cellOf rfl rfl rfl (hdX10_cellOf).2 ⟨Nat.le_of_ble_eq_true rfl, Nat.le_of_ble_eq_true rfl⟩) (hK.sub [] rfl) hA hX hP hD hS (List.Perm.refl _) (List.Perm.refl _) rfl hl.1 rfl (Nat.le_of_ble_eq_true rfl) dX10_order_87 ⟨Nat.le_of_ble_eq_true rfl, Nat.le_of_ble_eq_true rfl⟩ (fun H locs hP hD hS => ?_)
          exact b90 xs_13 y_22 xa_15 H locs ls hR hU hP hD hS (lv_sub hl [] rfl) heq
        have heq := it_t c_21 heq
        refine lv_iload_n hx hb dX10_order_75 rfl (lv_at hl 1 rfl) ?_
        refine lv_goto (tgt := 90) hx hb dX10_order_76 (by decide) ?_
        exact b90 xs_13 y_12 xa_15 H locs ls hR hU hP hD hS (lv_sub hl [] rfl) heq
      have heq := it_f c_20 heq
      refine lv_bipush (v := (-4 : Int32)) hx hb dX10_order_64 (by decide) ?_
      obtain ⟨heq, heq2⟩ := ret_h heq
      subst heq
      subst heq2
      exact hret 66 H locs ls xa_15 hR hU hP hD hS rfl dX10_order_66
    have heq := it_f c_11 heq
    refine lv_bipush (v := (-3 : Int32)) hx hb dX10_order_37 (by decide) ?_
    obtain ⟨heq, heq2⟩ := ret_h heq
    subst heq
    subst heq2
    exact hret 39 H locs ls xa hR hU hP hD hS rfl dX10_order_39
  have heq := it_f c_6 heq
  refine lv_iconst (v := (-1 : Int32)) hx hb dX10_order_25 (by decide) ?_
  obtain ⟨heq, heq2⟩ := ret_h heq
  subst heq
  subst heq2
  exact hret 26 H locs ls xa hR hU hP hD hS rfl dX10_order_26
set_option maxRecDepth 20000 in
theorem ggX10_round_X8_isDown : GoodIn wsX10_round wsX8_isDown := goodIn_r _ [10, 11, 138, 139, 140, 141, 142, 143, 144, 145, 146, 147] (by decide +kernel) (by decide +kernel)
set_option maxRecDepth 20000 in
theorem gX10_round_X8_isDown : GoodIn wsX10_round (wsV RX10 116 RX8 yX8_isDown wsX8_isDown) := goodIn_app (goodIn_of _ (by decide +kernel)) ggX10_round_X8_isDown
set_option maxRecDepth 20000 in
theorem ggX10_round_X8_takeFrom : GoodIn wsX10_round wsX8_takeFrom := goodIn_r _ [15, 16, 17, 18, 19, 20, 21, 22, 23, 24, 11, 138, 139, 140, 141, 142, 143, 144, 145, 146, 147] (by decide +kernel) (by decide +kernel)
set_option maxRecDepth 20000 in
theorem gX10_round_X8_takeFrom : GoodIn wsX10_round (wsV RX10 59 RX8 yX8_takeFrom wsX8_takeFrom) := goodIn_app (goodIn_of _ (by decide +kernel)) ggX10_round_X8_takeFrom
set_option maxRecDepth 20000 in
theorem ggX10_round_X10_around : GoodIn wsX10_round wsX10_around := goodIn_r _ [28, 29, 30, 31, 32] (by decide +kernel) (by decide +kernel)
set_option maxRecDepth 20000 in
theorem gX10_round_X10_around : GoodIn wsX10_round (va_wsS RX10 177 yX10_around wsX10_around) := goodIn_app (goodIn_of _ (by decide +kernel)) ggX10_round_X10_around
set_option maxRecDepth 20000 in
theorem ggX10_round_X8_replace : GoodIn wsX10_round wsX8_replace := goodIn_r _ [36, 16, 17, 18, 37, 38, 39, 40, 41, 42, 43, 44, 45, 46, 47, 48, 49, 50, 51, 52, 53, 54, 55, 56, 57, 58, 59, 60, 61, 62, 63, 64, 65, 66, 67, 68, 69, 70, 71, 72, 73, 74, 75, 76, 77, 78, 79, 80, 81, 82, 83, 84, 85, 86, 87, 88, 89, 90, 91, 92, 93, 94, 95, 96, 97, 98, 99, 100, 101, 102, 103, 104, 105, 106, 107, 138, 139, 140, 141, 142, 143, 144, 145, 146, 147, 148, 149, 150, 151, 152, 153, 154, 155] (by decide +kernel) (by decide +kernel)
set_option maxRecDepth 20000 in
theorem gX10_round_X8_replace : GoodIn wsX10_round (wsV RX10 180 RX8 yX8_replace wsX8_replace) := goodIn_app (goodIn_of _ (by decide +kernel)) ggX10_round_X8_replace
set_option maxRecDepth 20000 in
theorem ggX10_round_X8_fallSideAt : GoodIn wsX10_round wsX8_fallSideAt := goodIn_r _ [111, 112, 113, 114, 9, 115, 116, 117, 118, 119, 19, 120, 121, 122, 123, 124, 125, 126, 127, 128, 129, 130, 18, 17, 138, 139, 140, 141, 142, 143, 144, 145, 146, 147] (by decide +kernel) (by decide +kernel)
set_option maxRecDepth 20000 in
theorem gX10_round_X8_fallSideAt : GoodIn wsX10_round (wsV RX10 184 RX8 yX8_fallSideAt wsX8_fallSideAt) := goodIn_app (goodIn_of _ (by decide +kernel)) ggX10_round_X8_fallSideAt
theorem dX10_round_0 : decode cX10_round 0 = .ok (.aload_n 0, 1) := by decide +kernel
theorem dX10_round_1 : decode cX10_round 1 = .ok (.getfield 10, 3) := by decide +kernel
theorem dX10_round_4 : decode cX10_round 4 = .ok (.invokevirtual 116, 3) := by decide +kernel
theorem dX10_round_7 : decode cX10_round 7 = .ok (.ifCond .eq 6, 3) := by decide +kernel
theorem dX10_round_10 : decode cX10_round 10 = .ok (.bipush (-3), 2) := by decide +kernel
theorem dX10_round_12 : decode cX10_round 12 = .ok (.ireturn, 1) := by decide +kernel
theorem dX10_round_13 : decode cX10_round 13 = .ok (.aload_n 0, 1) := by decide +kernel
theorem dX10_round_14 : decode cX10_round 14 = .ok (.getfield 16, 3) := by decide +kernel
theorem dX10_round_17 : decode cX10_round 17 = .ok (.aload_n 0, 1) := by decide +kernel
theorem dX10_round_18 : decode cX10_round 18 = .ok (.getfield 10, 3) := by decide +kernel
theorem dX10_round_21 : decode cX10_round 21 = .ok (.invokevirtual 59, 3) := by decide +kernel
theorem dX10_round_24 : decode cX10_round 24 = .ok (.aload_n 0, 1) := by decide +kernel
theorem dX10_round_25 : decode cX10_round 25 = .ok (.getfield 10, 3) := by decide +kernel
theorem dX10_round_28 : decode cX10_round 28 = .ok (.getfield 120, 3) := by decide +kernel
theorem dX10_round_31 : decode cX10_round 31 = .ok (.bipush 6, 2) := by decide +kernel
theorem dX10_round_33 : decode cX10_round 33 = .ok (.iaload, 1) := by decide +kernel
theorem dX10_round_34 : decode cX10_round 34 = .ok (.istore_n 1, 1) := by decide +kernel
theorem dX10_round_35 : decode cX10_round 35 = .ok (.iconst 0, 1) := by decide +kernel
theorem dX10_round_36 : decode cX10_round 36 = .ok (.istore_n 2, 1) := by decide +kernel
theorem dX10_round_37 : decode cX10_round 37 = .ok (.iload_n 2, 1) := by decide +kernel
theorem dX10_round_38 : decode cX10_round 38 = .ok (.bipush 6, 2) := by decide +kernel
theorem dX10_round_40 : decode cX10_round 40 = .ok (.if_icmp .ge 80, 3) := by decide +kernel
theorem dX10_round_43 : decode cX10_round 43 = .ok (.aload_n 0, 1) := by decide +kernel
theorem dX10_round_44 : decode cX10_round 44 = .ok (.getfield 16, 3) := by decide +kernel
theorem dX10_round_47 : decode cX10_round 47 = .ok (.iload_n 1, 1) := by decide +kernel
theorem dX10_round_48 : decode cX10_round 48 = .ok (.iload_n 2, 1) := by decide +kernel
theorem dX10_round_49 : decode cX10_round 49 = .ok (.iadd, 1) := by decide +kernel
theorem dX10_round_50 : decode cX10_round 50 = .ok (.invokestatic 177, 3) := by decide +kernel
theorem dX10_round_53 : decode cX10_round 53 = .ok (.aload_n 0, 1) := by decide +kernel
theorem dX10_round_54 : decode cX10_round 54 = .ok (.getfield 27, 3) := by decide +kernel
theorem dX10_round_57 : decode cX10_round 57 = .ok (.invokevirtual 180, 3) := by decide +kernel
theorem dX10_round_60 : decode cX10_round 60 = .ok (.aload_n 0, 1) := by decide +kernel
theorem dX10_round_61 : decode cX10_round 61 = .ok (.getfield 16, 3) := by decide +kernel
theorem dX10_round_64 : decode cX10_round 64 = .ok (.iload_n 1, 1) := by decide +kernel
theorem dX10_round_65 : decode cX10_round 65 = .ok (.iload_n 2, 1) := by decide +kernel
theorem dX10_round_66 : decode cX10_round 66 = .ok (.isub, 1) := by decide +kernel
theorem dX10_round_67 : decode cX10_round 67 = .ok (.invokestatic 177, 3) := by decide +kernel
theorem dX10_round_70 : decode cX10_round 70 = .ok (.aload_n 0, 1) := by decide +kernel
theorem dX10_round_71 : decode cX10_round 71 = .ok (.getfield 27, 3) := by decide +kernel
theorem dX10_round_74 : decode cX10_round 74 = .ok (.invokevirtual 180, 3) := by decide +kernel
theorem dX10_round_77 : decode cX10_round 77 = .ok (.aload_n 0, 1) := by decide +kernel
theorem dX10_round_78 : decode cX10_round 78 = .ok (.getfield 16, 3) := by decide +kernel
theorem dX10_round_81 : decode cX10_round 81 = .ok (.aload_n 0, 1) := by decide +kernel
theorem dX10_round_82 : decode cX10_round 82 = .ok (.getfield 16, 3) := by decide +kernel
theorem dX10_round_85 : decode cX10_round 85 = .ok (.getfield 93, 3) := by decide +kernel
theorem dX10_round_88 : decode cX10_round 88 = .ok (.invokevirtual 184, 3) := by decide +kernel
theorem dX10_round_91 : decode cX10_round 91 = .ok (.istore_n 3, 1) := by decide +kernel
theorem dX10_round_92 : decode cX10_round 92 = .ok (.iload_n 3, 1) := by decide +kernel
theorem dX10_round_93 : decode cX10_round 93 = .ok (.bipush (-4), 2) := by decide +kernel
theorem dX10_round_95 : decode cX10_round 95 = .ok (.if_icmp .eq 19, 3) := by decide +kernel
theorem dX10_round_98 : decode cX10_round 98 = .ok (.iload_n 3, 1) := by decide +kernel
theorem dX10_round_99 : decode cX10_round 99 = .ok (.iload_n 1, 1) := by decide +kernel
theorem dX10_round_100 : decode cX10_round 100 = .ok (.if_icmp .ne 11, 3) := by decide +kernel
theorem dX10_round_103 : decode cX10_round 103 = .ok (.iconst 2, 1) := by decide +kernel
theorem dX10_round_104 : decode cX10_round 104 = .ok (.iload_n 2, 1) := by decide +kernel
theorem dX10_round_105 : decode cX10_round 105 = .ok (.imul, 1) := by decide +kernel
theorem dX10_round_106 : decode cX10_round 106 = .ok (.iconst 1, 1) := by decide +kernel
theorem dX10_round_107 : decode cX10_round 107 = .ok (.iadd, 1) := by decide +kernel
theorem dX10_round_108 : decode cX10_round 108 = .ok (.goto 5, 3) := by decide +kernel
theorem dX10_round_111 : decode cX10_round 111 = .ok (.bipush (-4), 2) := by decide +kernel
theorem dX10_round_113 : decode cX10_round 113 = .ok (.ireturn, 1) := by decide +kernel
theorem dX10_round_114 : decode cX10_round 114 = .ok (.iinc 2 1, 3) := by decide +kernel
theorem dX10_round_117 : decode cX10_round 117 = .ok (.goto (-80), 3) := by decide +kernel
theorem dX10_round_120 : decode cX10_round 120 = .ok (.bipush (-4), 2) := by decide +kernel
theorem dX10_round_122 : decode cX10_round 122 = .ok (.ireturn, 1) := by decide +kernel
/-! X10 round -/
def X10_round_p113 (xs : XS) (t0 : Int32) : Option (Int32 × XS) :=
    some (t0, xs)
def X10_round_p98 (xs : XS) (v1 : Int32) (v2 : Int32) (v3 : Int32) : Option (Int32 × XS) :=
    if v3 = v1 then
      (X10_round_p113 xs (((2 : Int32) * v2) + (1 : Int32)))
    else
    X10_round_p113 xs (-4 : Int32)
def X10_round_p37 : Nat → XS → Int32 → Int32 → Option (Int32 × XS)
  | 0, _, _, _ => none
  | n + 1, xs, v1, v2 =>
    if (6 : Int32) ≤ v2 then
      (some ((-4 : Int32), xs))
    else
    bd1 (X10_around (v1 + v2)) fun y_3 =>
    bnd (X8_replace_1 xs y_3 ((1, 0) : BK)) fun _ xs_6 =>
    bd1 (X10_around (v1 - v2)) fun y_10 =>
    bnd (X8_replace_1 xs_6 y_10 ((1, 0) : BK)) fun _ xs_13 =>
    bnd (X8_fallSideAt (xT xs_13 1) (gF (xT xs_13 1) 8)) fun y_17 st_18 =>
    nm (uT xs_13 1 st_18) fun xs_20 =>
    if y_17 = (-4 : Int32) then
      (nm (v2 + (1 : Int32)) fun x_22 =>
      X10_round_p37 n xs_20 v1 x_22)
    else
    X10_round_p98 xs_20 v1 v2 y_17
theorem X10_round_p37_s (n : Nat) (xs : XS) (v1 : Int32) (v2 : Int32) : X10_round_p37 (n + 1) xs v1 v2 =
    (if (6 : Int32) ≤ v2 then
      (some ((-4 : Int32), xs))
    else
    bd1 (X10_around (v1 + v2)) fun y_3 =>
    bnd (X8_replace_1 xs y_3 ((1, 0) : BK)) fun _ xs_6 =>
    bd1 (X10_around (v1 - v2)) fun y_10 =>
    bnd (X8_replace_1 xs_6 y_10 ((1, 0) : BK)) fun _ xs_13 =>
    bnd (X8_fallSideAt (xT xs_13 1) (gF (xT xs_13 1) 8)) fun y_17 st_18 =>
    nm (uT xs_13 1 st_18) fun xs_20 =>
    if y_17 = (-4 : Int32) then
      (nm (v2 + (1 : Int32)) fun x_22 =>
      X10_round_p37 n xs_20 v1 x_22)
    else
    X10_round_p98 xs_20 v1 v2 y_17) := rfl
def X10_round (xs : XS) : Option (Int32 × XS) :=
    bnd (X8_isDown (xT xs 0)) fun y_23 st_24 =>
    nm (uT xs 0 st_24) fun xs_26 =>
    if y_23 = 0 then
      (bnd (X8_takeFrom_1_0 xs_26) fun _ xs_28 =>
      inr (6 : Int32) 7 <|
      nm ((gA (xT xs_28 0) 3 (6 : Int32).toNatClampNeg)) fun x_33 =>
      X10_round_p37 7 xs_28 x_33 (0 : Int32))
    else
    some ((-3 : Int32), xs_26)
abbrev rmX10_round : Room := { frames := 4, cells := 0, slots := 0, locals := 94 }
theorem hdX10_round : yX10_round.cls = RX10 ∧ yX10_round.cls ≠ "java/lang/invoke/MethodHandle" ∧ yX10_round.cls ≠ "java/lang/invoke/VarHandle" ∧ (parseMethodDescriptor yX10_round.desc).map (fun d => d.parameters.length) = some 0 := by decide +kernel
set_option maxRecDepth 100000 in
set_option maxHeartbeats 8000000 in
theorem okX10_round (z : Nat → Nat) (l : Launch) (D : va_G) (T : mT3) (b : Nat → Nat) {xa : XA} {xs : XS} {r : Int32} {xs' : XS} (hR : xRel b xa xs) (heq : X10_round xs = some (r, xs')) : hXi xSub z l D T b yX10_round wsX10_round rmX10_round [.ref (b 0)] xa xs r xs' := by
  refine xbody_i (plainFor_of_name (by decide)) rfl (Nat.le_of_ble_eq_true rfl) (fun p e s m args below meth c A Q hx hb hml hown hts hK hA hX hret ls hP hD hS hl => ?_)
  have hl : lv_has ls 4 [(0, .ref (b 0))] := hl
  have hin10 : ∀ w ∈ wsX100, w ∈ wsX10_round := by decide +kernel
  have hin8 : ∀ w ∈ wsX80, w ∈ wsX10_round := by decide +kernel
  have f10 : (Cond.fieldLink RX10 10 RX10 (TX10 0).2.1 (TX10 0).2.2.1).before args s = true := hts (.fieldLink RX10 10 RX10 "now" "LLaidDownTheLane$Town;") (by decide +kernel)
  have f16 : (Cond.fieldLink RX10 16 RX10 (TX10 1).2.1 (TX10 1).2.2.1).before args s = true := hts (.fieldLink RX10 16 RX10 "trial" "LLaidDownTheLane$Town;") (by decide +kernel)
  have f27 : (Cond.fieldLink RX10 27 RX10 (TX10 4).2.1 (TX10 4).2.2.1).before args s = true := hts (.fieldLink RX10 27 RX10 "cut" "LLaidDownTheLane$Brick;") (by decide +kernel)
  have f93 : (Cond.fieldLink RX10 93 RX8 (TX8 8).2.1 (TX8 8).2.2.1).before args s = true := hts (.fieldLink RX10 93 RX8 "minute" "I") (by decide +kernel)
  have f120 : (Cond.fieldLink RX10 120 RX8 (TX8 3).2.1 (TX8 3).2.2.1).before args s = true := hts (.fieldLink RX10 120 RX8 "told" "[I") (by decide +kernel)
  obtain ⟨xa0, hxa0⟩ : ∃ z : XA, z = xa := ⟨_, rfl⟩
  rw [← hxa0] at hret
  have hU : xSub xa0 xa := by rw [hxa0]; exact xSub.rf
  clear hxa0
  have b113 : ∀ (xs : XS) (t0 : Int32) (xa : XA) (H : Heap) (locs : List Loc) (ls : Array Slot), xRel b xa xs → xSub xa0 xa → va_P D vwCl (xW b T xa xs) H → va_D A (xW b T xa xs) → va_S A s.heap H locs → lv_has ls 4 [] → X10_round_p113 xs t0 = some (r, xs') → W p l e rmX10_round s m args below meth c H locs 0 0 Q (F0 m 113 ls [.int t0]) := by
    intro xs t0 xa H locs ls hR hU hP hD hS hl heq
    unfold X10_round_p113 at heq
    obtain ⟨heq, heq2⟩ := ret_h heq
    subst heq
    subst heq2
    exact hret 113 H locs ls xa hR hU hP hD hS rfl dX10_round_113
  have b98 : ∀ (xs : XS) (v1 : Int32) (v2 : Int32) (v3 : Int32) (xa : XA) (H : Heap) (locs : List Loc) (ls : Array Slot), xRel b xa xs → xSub xa0 xa → va_P D vwCl (xW b T xa xs) H → va_D A (xW b T xa xs) → va_S A s.heap H locs → lv_has ls 4 [(1, .int v1), (2, .int v2), (3, .int v3)] → X10_round_p98 xs v1 v2 v3 = some (r, xs') → W p l e rmX10_round s m args below meth c H locs 0 0 Q (F0 m 98 ls []) := by
    intro xs v1 v2 v3 xa H locs ls hR hU hP hD hS hl heq
    unfold X10_round_p98 at heq
    refine lv_iload_n hx hb dX10_round_98 rfl (lv_at hl 2 rfl) ?_
    refine lv_iload_n hx hb dX10_round_99 rfl (lv_at hl 0 rfl) ?_
    refine lv_icmp_ne (tgt := 111) hx hb dX10_round_100 (by decide) (fun c_1 => ?_) (fun c_1 => ?_)
    · have heq := it_f c_1 heq
      refine lv_bipush (v := (-4 : Int32)) hx hb dX10_round_111 (by decide) ?_
      exact b113 xs (-4 : Int32) xa H locs ls hR hU hP hD hS (lv_sub hl [] rfl) heq
    have heq := it_t c_1 heq
    refine lv_iconst (v := (2 : Int32)) hx hb dX10_round_103 (by decide) ?_
    refine lv_iload_n hx hb dX10_round_104 rfl (lv_at hl 1 rfl) ?_
    refine lv_imul hx hb dX10_round_105 ?_
    refine lv_iconst (v := (1 : Int32)) hx hb dX10_round_106 (by decide) ?_
    refine lv_iadd hx hb dX10_round_107 ?_
    refine lv_goto (tgt := 113) hx hb dX10_round_108 (by decide) ?_
    exact b113 xs (((2 : Int32) * v2) + (1 : Int32)) xa H locs ls hR hU hP hD hS (lv_sub hl [] rfl) heq
  have b37 : ∀ (n : Nat), ∀ (xs : XS) (v1 : Int32) (v2 : Int32) (xa : XA) (H : Heap) (locs : List Loc) (ls : Array Slot), xRel b xa xs → xSub xa0 xa → va_P D vwCl (xW b T xa xs) H → va_D A (xW b T xa xs) → va_S A s.heap H locs → lv_has ls 4 [(0, .ref (b 0)), (1, .int v1), (2, .int v2)] → X10_round_p37 n xs v1 v2 = some (r, xs') → W p l e rmX10_round s m args below meth c H locs 0 0 Q (F0 m 37 ls []) := by
    intro n
    induction n with
    | zero => intro xs v1 v2 xa H locs ls hR hU hP hD hS hl heq; cases heq
    | succ n ih =>
      intro xs v1 v2 xa H locs ls hR hU hP hD hS hl heq
      rw [X10_round_p37_s] at heq
      refine lv_iload_n hx hb dX10_round_37 rfl (lv_at hl 2 rfl) ?_
      refine lv_bipush (v := (6 : Int32)) hx hb dX10_round_38 (by decide) ?_
      refine lv_icmp_ge (tgt := 120) hx hb dX10_round_40 (by decide) (fun c_2 => ?_) (fun c_2 => ?_)
      · have heq := it_t c_2 heq
        refine lv_bipush (v := (-4 : Int32)) hx hb dX10_round_120 (by decide) ?_
        obtain ⟨heq, heq2⟩ := ret_h heq
        subst heq
        subst heq2
        exact hret 122 H locs ls xa hR hU hP hD hS rfl dX10_round_122
      have heq := it_f c_2 heq
      refine lv_aload_n hx hb dX10_round_43 rfl (lv_at hl 0 rfl) ?_
      refine va_get (D := D) (ci := 10) (v := .ref (b 10)) (C := RX10) (T := TX10) (N := 7) hx hb hts hin10 hown hK hP 0 rfl rfl 1 (by decide) f16 (fun _ h9 => h9) rfl dX10_round_44 ?_
      refine lv_iload_n hx hb dX10_round_47 rfl (lv_at hl 1 rfl) ?_
      refine lv_iload_n hx hb dX10_round_48 rfl (lv_at hl 2 rfl) ?_
      refine lv_iadd hx hb dX10_round_49 ?_
      obtain ⟨y_3, h_4, heq⟩ := bd1_h heq
      refine h_si (own := RX10) (As := [.int (v1 + v2)]) (rest := [.ref (b 10)]) (w0 := []) (w1 := []) (wr := xW b T xa xs) hx hb hml hown hts (okX10_around z l D h_4) (va_cwS 1 hts gX10_round_X10_around rfl rfl rfl (hdX10_around).2 ⟨Nat.le_of_ble_eq_true rfl, Nat.le_of_ble_eq_true rfl⟩) (hK.sub [] rfl) hA hX hP hD hS (List.Perm.refl _) (List.Perm.refl _) rfl hl.1 rfl (Nat.le_of_ble_eq_true rfl) dX10_round_50 ⟨Nat.le_of_ble_eq_true rfl, Nat.le_of_ble_eq_true rfl⟩ (fun H locs hP hD hS => ?_)
      refine lv_aload_n hx hb dX10_round_53 rfl (lv_at hl 0 rfl) ?_
      have hc_5 := hR.2.2.2.1
      refine va_get (D := D) (ci := 10) (v := .ref (b 24)) (C := RX10) (T := TX10) (N := 7) hx hb hts hin10 hown hK hP 0 rfl rfl 4 (by decide) f27 (fun _ h9 => h9) rfl dX10_round_54 ?_
      obtain ⟨⟨⟩, xs_6, h_7, heq⟩ := bnd_h heq
      refine x_vv (own := RX10) (As := [.int y_3, .ref (b 24)]) (rest := []) hx hb hml hown hts (okX8_replace_1 z l D T b hR hc_5 h_7) (cwV 2 hts gX10_round_X8_replace rfl rfl rfl hdX8_replace ⟨Nat.le_of_ble_eq_true rfl, Nat.le_of_ble_eq_true rfl⟩) hK hA hX hP hD hS (ci := 8) (q0 := 10) rfl rfl rfl hl.1 rfl (Nat.le_of_ble_eq_true rfl) dX10_round_57 ⟨Nat.le_of_ble_eq_true rfl, Nat.le_of_ble_eq_true rfl⟩ (fun xa_8 H locs hR hsxa_8 hP hD hS => ?_)
      have hU := xSub.tr hU hsxa_8
      refine lv_aload_n hx hb dX10_round_60 rfl (lv_at hl 0 rfl) ?_
      refine va_get (D := D) (ci := 10) (v := .ref (b 10)) (C := RX10) (T := TX10) (N := 7) hx hb hts hin10 hown hK hP 0 rfl rfl 1 (by decide) f16 (fun _ h9 => h9) rfl dX10_round_61 ?_
      refine lv_iload_n hx hb dX10_round_64 rfl (lv_at hl 1 rfl) ?_
      refine lv_iload_n hx hb dX10_round_65 rfl (lv_at hl 2 rfl) ?_
      refine lv_isub hx hb dX10_round_66 ?_
      obtain ⟨y_10, h_11, heq⟩ := bd1_h heq
      refine h_si (own := RX10) (As := [.int (v1 - v2)]) (rest := [.ref (b 10)]) (w0 := []) (w1 := []) (wr := xW b T xa_8 xs_6) hx hb hml hown hts (okX10_around z l D h_11) (va_cwS 1 hts gX10_round_X10_around rfl rfl rfl (hdX10_around).2 ⟨Nat.le_of_ble_eq_true rfl, Nat.le_of_ble_eq_true rfl⟩) (hK.sub [] rfl) hA hX hP hD hS (List.Perm.refl _) (List.Perm.refl _) rfl hl.1 rfl (Nat.le_of_ble_eq_true rfl) dX10_round_67 ⟨Nat.le_of_ble_eq_true rfl, Nat.le_of_ble_eq_true rfl⟩ (fun H locs hP hD hS => ?_)
      refine lv_aload_n hx hb dX10_round_70 rfl (lv_at hl 0 rfl) ?_
      have hc_12 := hR.2.2.2.1
      refine va_get (D := D) (ci := 10) (v := .ref (b 24)) (C := RX10) (T := TX10) (N := 7) hx hb hts hin10 hown hK hP 0 rfl rfl 4 (by decide) f27 (fun _ h9 => h9) rfl dX10_round_71 ?_
      obtain ⟨⟨⟩, xs_13, h_14, heq⟩ := bnd_h heq
      refine x_vv (own := RX10) (As := [.int y_10, .ref (b 24)]) (rest := []) hx hb hml hown hts (okX8_replace_1 z l D T b hR hc_12 h_14) (cwV 2 hts gX10_round_X8_replace rfl rfl rfl hdX8_replace ⟨Nat.le_of_ble_eq_true rfl, Nat.le_of_ble_eq_true rfl⟩) hK hA hX hP hD hS (ci := 8) (q0 := 10) rfl rfl rfl hl.1 rfl (Nat.le_of_ble_eq_true rfl) dX10_round_74 ⟨Nat.le_of_ble_eq_true rfl, Nat.le_of_ble_eq_true rfl⟩ (fun xa_15 H locs hR hsxa_15 hP hD hS => ?_)
      have hU := xSub.tr hU hsxa_15
      refine lv_aload_n hx hb dX10_round_77 rfl (lv_at hl 0 rfl) ?_
      refine va_get (D := D) (ci := 10) (v := .ref (b 10)) (C := RX10) (T := TX10) (N := 7) hx hb hts hin10 hown hK hP 0 rfl rfl 1 (by decide) f16 (fun _ h9 => h9) rfl dX10_round_78 ?_
      refine lv_aload_n hx hb dX10_round_81 rfl (lv_at hl 0 rfl) ?_
      refine va_get (D := D) (ci := 10) (v := .ref (b 10)) (C := RX10) (T := TX10) (N := 7) hx hb hts hin10 hown hK hP 0 rfl rfl 1 (by decide) f16 (fun _ h9 => h9) rfl dX10_round_82 ?_
      refine va_get (D := D) (ci := 8) (v := .int (gF (xT xs_13 1) 8)) (C := RX8) (T := TX8) (N := 10) hx hb hts hin8 hown hK hP 10 rfl rfl 8 (by decide) f93 (fun _ h9 => h9) rfl dX10_round_85 ?_
      obtain ⟨y_17, st_18, h_19, heq⟩ := bnd_h heq
      refine h_vi (own := RX10) (As := [.int (gF (xT xs_13 1) 8)]) (rest := []) (wr := xWr1 b T xa_15 xs_13) hx hb hml hown hts (okX8_fallSideAt z l D (fun j => b (10 + j)) T (fun j => some (xFo xa_15 1 j)) h_19) (cwV 1 hts gX10_round_X8_fallSideAt rfl rfl rfl hdX8_fallSideAt ⟨Nat.le_of_ble_eq_true rfl, Nat.le_of_ble_eq_true rfl⟩) hK hA hX hP hD hS (xp1 b T xa_15 xs_13) (xq1 b T xa_15 xs_13 _) (ci := 8) (q0 := 0) rfl rfl rfl hl.1 rfl (Nat.le_of_ble_eq_true rfl) dX10_round_88 ⟨Nat.le_of_ble_eq_true rfl, Nat.le_of_ble_eq_true rfl⟩ (fun H locs hP hD hS => ?_)
      obtain ⟨xs_20, exs_20⟩ : ∃ z, z = uT xs_13 1 st_18 := ⟨_, rfl⟩
      have hR : xRel b xa_15 (uT xs_13 1 st_18) := hR.uT _ _
      rw [← exs_20] at hP hD hR
      have heq := nm_h exs_20 heq
      refine lv_istore_n (lv' := [(3, .int y_17), (0, .ref (b 0)), (1, .int v1), (2, .int v2)]) hx hb dX10_round_91 rfl hl (by decide) rfl (fun ls hl => ?_)
      refine lv_iload_n hx hb dX10_round_92 rfl (lv_at hl 0 rfl) ?_
      refine lv_bipush (v := (-4 : Int32)) hx hb dX10_round_93 (by decide) ?_
      refine lv_icmp_eq (tgt := 114) hx hb dX10_round_95 (by decide) (fun c_21 => ?_) (fun c_21 => ?_)
      · have heq := it_t c_21 heq
        obtain ⟨x_22, ex_22⟩ : ∃ y : Int32, y = v2 + (1 : Int32) := ⟨_, rfl⟩
        have heq := nm_h ex_22 heq
        refine lv_iinc (v := x_22) (lv' := [(2, .int x_22), (3, .int y_17), (0, .ref (b 0)), (1, .int v1)]) hx hb dX10_round_114 hl (k := 3) rfl (by rw [ex_22]; rfl) (by decide) rfl (fun ls hl => ?_)
        refine lv_goto (tgt := 37) hx hb dX10_round_117 (by decide) ?_
        exact ih xs_20 v1 x_22 xa_15 H locs ls hR hU hP hD hS (lv_sub hl [2, 3, 0] rfl) heq
      have heq := it_f c_21 heq
      exact b98 xs_20 v1 v2 y_17 xa_15 H locs ls hR hU hP hD hS (lv_sub hl [2, 3, 0] rfl) heq
  obtain ⟨H, hH⟩ : ∃ H, H = s.heap := ⟨_, rfl⟩
  obtain ⟨locs, hlocs⟩ : ∃ z : List Loc, z = [] := ⟨_, rfl⟩
  have hS : va_S A s.heap H locs := by rw [hH, hlocs]; exact hS
  have hP : va_P D vwCl (xW b T xa xs) H := by rw [hH]; exact hP
  suffices h9 : W p l e rmX10_round s m args below meth c H locs 0 0 Q (F0 m 0 ls []) by rw [hH, hlocs] at h9; exact h9
  clear hH hlocs
  unfold X10_round at heq
  refine lv_aload_n hx hb dX10_round_0 rfl (lv_at hl 0 rfl) ?_
  refine va_get (D := D) (ci := 10) (v := .ref (b 3)) (C := RX10) (T := TX10) (N := 7) hx hb hts hin10 hown hK hP 0 rfl rfl 0 (by decide) f10 (fun _ h9 => h9) rfl dX10_round_1 ?_
  obtain ⟨y_23, st_24, h_25, heq⟩ := bnd_h heq
  refine h_vi (own := RX10) (As := []) (rest := []) (wr := xWr0 b T xa xs) hx hb hml hown hts (okX8_isDown z l D (fun j => b (3 + j)) T (fun j => some (xFo xa 0 j)) h_25) (cwV 0 hts gX10_round_X8_isDown rfl rfl rfl hdX8_isDown ⟨Nat.le_of_ble_eq_true rfl, Nat.le_of_ble_eq_true rfl⟩) hK hA hX hP hD hS (xp0 b T xa xs) (xq0 b T xa xs _) (ci := 8) (q0 := 0) rfl rfl rfl hl.1 rfl (Nat.le_of_ble_eq_true rfl) dX10_round_4 ⟨Nat.le_of_ble_eq_true rfl, Nat.le_of_ble_eq_true rfl⟩ (fun H locs hP hD hS => ?_)
  obtain ⟨xs_26, exs_26⟩ : ∃ z, z = uT xs 0 st_24 := ⟨_, rfl⟩
  have hR : xRel b xa (uT xs 0 st_24) := hR.uT _ _
  rw [← exs_26] at hP hD hR
  have heq := nm_h exs_26 heq
  refine lv_if_eq (tgt := 13) hx hb dX10_round_7 (by decide) (fun c_27 => ?_) (fun c_27 => ?_)
  · have heq := it_t c_27 heq
    refine lv_aload_n hx hb dX10_round_13 rfl (lv_at hl 0 rfl) ?_
    refine va_get (D := D) (ci := 10) (v := .ref (b 10)) (C := RX10) (T := TX10) (N := 7) hx hb hts hin10 hown hK hP 0 rfl rfl 1 (by decide) f16 (fun _ h9 => h9) rfl dX10_round_14 ?_
    refine lv_aload_n hx hb dX10_round_17 rfl (lv_at hl 0 rfl) ?_
    refine va_get (D := D) (ci := 10) (v := .ref (b 3)) (C := RX10) (T := TX10) (N := 7) hx hb hts hin10 hown hK hP 0 rfl rfl 0 (by decide) f10 (fun _ h9 => h9) rfl dX10_round_18 ?_
    obtain ⟨⟨⟩, xs_28, h_29, heq⟩ := bnd_h heq
    refine x_vv (own := RX10) (As := [.ref (b 3)]) (rest := []) hx hb hml hown hts (okX8_takeFrom_1_0 z l D T b hR h_29) (cwV 1 hts gX10_round_X8_takeFrom rfl rfl rfl hdX8_takeFrom ⟨Nat.le_of_ble_eq_true rfl, Nat.le_of_ble_eq_true rfl⟩) hK hA hX hP hD hS (ci := 8) (q0 := 10) rfl rfl rfl hl.1 rfl (Nat.le_of_ble_eq_true rfl) dX10_round_21 ⟨Nat.le_of_ble_eq_true rfl, Nat.le_of_ble_eq_true rfl⟩ (fun xa_30 H locs hR hsxa_30 hP hD hS => ?_)
    have hU := xSub.tr hU hsxa_30
    refine lv_aload_n hx hb dX10_round_24 rfl (lv_at hl 0 rfl) ?_
    refine va_get (D := D) (ci := 10) (v := .ref (b 3)) (C := RX10) (T := TX10) (N := 7) hx hb hts hin10 hown hK hP 0 rfl rfl 0 (by decide) f10 (fun _ h9 => h9) rfl dX10_round_25 ?_
    refine va_get (D := D) (ci := 8) (v := .ref (b 7)) (C := RX8) (T := TX8) (N := 10) hx hb hts hin8 hown hK hP 3 rfl rfl 3 (by decide) f120 (fun _ h9 => h9) rfl dX10_round_28 ?_
    refine lv_bipush (v := (6 : Int32)) hx hb dX10_round_31 (by decide) ?_
    obtain ⟨n_32, heq⟩ := inr_h heq
    refine va_iald (f := gA (xT xs_28 0) 3) (n := 7) hx hb hK hP 7 0 rfl rfl n_32 dX10_round_33 ?_
    refine lv_topi (fun x_33 ex_33 => ?_)
    have heq := nm_h ex_33 heq
    refine lv_istore_n (lv' := [(1, .int x_33), (0, .ref (b 0))]) hx hb dX10_round_34 rfl hl (by decide) rfl (fun ls hl => ?_)
    refine lv_iconst (v := (0 : Int32)) hx hb dX10_round_35 (by decide) ?_
    refine lv_istore_n (lv' := [(2, .int (0 : Int32)), (1, .int x_33), (0, .ref (b 0))]) hx hb dX10_round_36 rfl hl (by decide) rfl (fun ls hl => ?_)
    exact b37 7 xs_28 x_33 (0 : Int32) xa_30 H locs ls hR hU hP hD hS (lv_sub hl [2, 1, 0] rfl) heq
  have heq := it_f c_27 heq
  refine lv_bipush (v := (-3 : Int32)) hx hb dX10_round_10 (by decide) ?_
  obtain ⟨heq, heq2⟩ := ret_h heq
  subst heq
  subst heq2
  exact hret 12 H locs ls xa hR hU hP hD hS rfl dX10_round_12
set_option maxRecDepth 20000 in
theorem ggX10_leadWithout_X10_cutJust : GoodIn wsX10_leadWithout wsX10_cutJust := goodIn_r _ [12, 1, 13, 14, 15, 16, 17, 18, 19, 20, 21, 22, 23, 24, 25, 26, 27, 28, 29, 30, 31, 32, 33, 34, 35, 36, 37, 38, 39, 40, 41, 42, 43, 44, 45, 46, 47, 48, 49, 50, 51, 52, 53, 54, 55, 56, 57, 58, 59, 60, 61, 62, 63, 64, 65, 66, 67, 68, 69, 70, 71, 72, 73, 74, 75, 76, 77, 78, 79, 80, 81, 82, 83, 84, 85, 86, 87, 88, 89, 90, 91, 92, 93, 94, 122, 123, 124, 125, 126, 127, 128, 129, 130, 131, 132, 133, 134, 135, 136, 137, 138, 139, 140, 141, 142, 143, 144, 145, 146] (by decide +kernel) (by decide +kernel)
set_option maxRecDepth 20000 in
theorem gX10_leadWithout_X10_cutJust : GoodIn wsX10_leadWithout (wsV RX10 344 RX10 yX10_cutJust wsX10_cutJust) := goodIn_app (goodIn_of _ (by decide +kernel)) ggX10_leadWithout_X10_cutJust
set_option maxRecDepth 20000 in
theorem ggX10_leadWithout_X10_around : GoodIn wsX10_leadWithout wsX10_around := goodIn_r _ [97, 98, 99, 100, 101] (by decide +kernel) (by decide +kernel)
set_option maxRecDepth 20000 in
theorem gX10_leadWithout_X10_around : GoodIn wsX10_leadWithout (va_wsS RX10 177 yX10_around wsX10_around) := goodIn_app (goodIn_of _ (by decide +kernel)) ggX10_leadWithout_X10_around
set_option maxRecDepth 20000 in
theorem ggX10_leadWithout_X8_lackOn : GoodIn wsX10_leadWithout wsX8_lackOn := goodIn_r _ [105, 106, 107, 108, 19, 109, 110, 111, 112, 113, 114, 115, 116, 117, 118, 119, 120, 121, 23, 22, 129, 130, 131, 132, 133, 134, 135, 136, 137, 138] (by decide +kernel) (by decide +kernel)
set_option maxRecDepth 20000 in
theorem gX10_leadWithout_X8_lackOn : GoodIn wsX10_leadWithout (wsV RX10 154 RX8 yX8_lackOn wsX8_lackOn) := goodIn_app (goodIn_of _ (by decide +kernel)) ggX10_leadWithout_X8_lackOn
theorem dX10_leadWithout_0 : decode cX10_leadWithout 0 = .ok (.aload_n 0, 1) := by decide +kernel
theorem dX10_leadWithout_1 : decode cX10_leadWithout 1 = .ok (.iload_n 1, 1) := by decide +kernel
theorem dX10_leadWithout_2 : decode cX10_leadWithout 2 = .ok (.invokevirtual 344, 3) := by decide +kernel
theorem dX10_leadWithout_5 : decode cX10_leadWithout 5 = .ok (.aload_n 0, 1) := by decide +kernel
theorem dX10_leadWithout_6 : decode cX10_leadWithout 6 = .ok (.getfield 16, 3) := by decide +kernel
theorem dX10_leadWithout_9 : decode cX10_leadWithout 9 = .ok (.getfield 120, 3) := by decide +kernel
theorem dX10_leadWithout_12 : decode cX10_leadWithout 12 = .ok (.bipush 6, 2) := by decide +kernel
theorem dX10_leadWithout_14 : decode cX10_leadWithout 14 = .ok (.iaload, 1) := by decide +kernel
theorem dX10_leadWithout_15 : decode cX10_leadWithout 15 = .ok (.istore_n 2, 1) := by decide +kernel
theorem dX10_leadWithout_16 : decode cX10_leadWithout 16 = .ok (.aload_n 0, 1) := by decide +kernel
theorem dX10_leadWithout_17 : decode cX10_leadWithout 17 = .ok (.getfield 16, 3) := by decide +kernel
theorem dX10_leadWithout_20 : decode cX10_leadWithout 20 = .ok (.iload_n 2, 1) := by decide +kernel
theorem dX10_leadWithout_21 : decode cX10_leadWithout 21 = .ok (.iconst 1, 1) := by decide +kernel
theorem dX10_leadWithout_22 : decode cX10_leadWithout 22 = .ok (.iadd, 1) := by decide +kernel
theorem dX10_leadWithout_23 : decode cX10_leadWithout 23 = .ok (.invokestatic 177, 3) := by decide +kernel
theorem dX10_leadWithout_26 : decode cX10_leadWithout 26 = .ok (.aload_n 0, 1) := by decide +kernel
theorem dX10_leadWithout_27 : decode cX10_leadWithout 27 = .ok (.getfield 16, 3) := by decide +kernel
theorem dX10_leadWithout_30 : decode cX10_leadWithout 30 = .ok (.getfield 93, 3) := by decide +kernel
theorem dX10_leadWithout_33 : decode cX10_leadWithout 33 = .ok (.invokevirtual 154, 3) := by decide +kernel
theorem dX10_leadWithout_36 : decode cX10_leadWithout 36 = .ok (.istore_n 3, 1) := by decide +kernel
theorem dX10_leadWithout_37 : decode cX10_leadWithout 37 = .ok (.aload_n 0, 1) := by decide +kernel
theorem dX10_leadWithout_38 : decode cX10_leadWithout 38 = .ok (.getfield 16, 3) := by decide +kernel
theorem dX10_leadWithout_41 : decode cX10_leadWithout 41 = .ok (.iload_n 2, 1) := by decide +kernel
theorem dX10_leadWithout_42 : decode cX10_leadWithout 42 = .ok (.iconst 1, 1) := by decide +kernel
theorem dX10_leadWithout_43 : decode cX10_leadWithout 43 = .ok (.isub, 1) := by decide +kernel
theorem dX10_leadWithout_44 : decode cX10_leadWithout 44 = .ok (.invokestatic 177, 3) := by decide +kernel
theorem dX10_leadWithout_47 : decode cX10_leadWithout 47 = .ok (.aload_n 0, 1) := by decide +kernel
theorem dX10_leadWithout_48 : decode cX10_leadWithout 48 = .ok (.getfield 16, 3) := by decide +kernel
theorem dX10_leadWithout_51 : decode cX10_leadWithout 51 = .ok (.getfield 93, 3) := by decide +kernel
theorem dX10_leadWithout_54 : decode cX10_leadWithout 54 = .ok (.invokevirtual 154, 3) := by decide +kernel
theorem dX10_leadWithout_57 : decode cX10_leadWithout 57 = .ok (.istore 4, 2) := by decide +kernel
theorem dX10_leadWithout_59 : decode cX10_leadWithout 59 = .ok (.aload_n 0, 1) := by decide +kernel
theorem dX10_leadWithout_60 : decode cX10_leadWithout 60 = .ok (.getfield 16, 3) := by decide +kernel
theorem dX10_leadWithout_63 : decode cX10_leadWithout 63 = .ok (.iload_n 2, 1) := by decide +kernel
theorem dX10_leadWithout_64 : decode cX10_leadWithout 64 = .ok (.aload_n 0, 1) := by decide +kernel
theorem dX10_leadWithout_65 : decode cX10_leadWithout 65 = .ok (.getfield 16, 3) := by decide +kernel
theorem dX10_leadWithout_68 : decode cX10_leadWithout 68 = .ok (.getfield 93, 3) := by decide +kernel
theorem dX10_leadWithout_71 : decode cX10_leadWithout 71 = .ok (.invokevirtual 154, 3) := by decide +kernel
theorem dX10_leadWithout_74 : decode cX10_leadWithout 74 = .ok (.iload_n 3, 1) := by decide +kernel
theorem dX10_leadWithout_75 : decode cX10_leadWithout 75 = .ok (.iload 4, 2) := by decide +kernel
theorem dX10_leadWithout_77 : decode cX10_leadWithout 77 = .ok (.invokestatic 238, 3) := by decide +kernel
theorem dX10_leadWithout_80 : decode cX10_leadWithout 80 = .ok (.isub, 1) := by decide +kernel
theorem dX10_leadWithout_81 : decode cX10_leadWithout 81 = .ok (.ireturn, 1) := by decide +kernel
/-! X10 leadWithout -/
def X10_leadWithout (xs : XS) (v1 : Int32) : Option (Int32 × XS) :=
    bnd (X10_cutJust xs v1) fun _ xs_1 =>
    inr (6 : Int32) 7 <|
    nm ((gA (xT xs_1 1) 3 (6 : Int32).toNatClampNeg)) fun x_6 =>
    bd1 (X10_around (x_6 + (1 : Int32))) fun y_7 =>
    bnd (X8_lackOn (xT xs_1 1) y_7 (gF (xT xs_1 1) 8)) fun y_9 st_10 =>
    nm (uT xs_1 1 st_10) fun xs_12 =>
    bd1 (X10_around (x_6 - (1 : Int32))) fun y_13 =>
    bnd (X8_lackOn (xT xs_12 1) y_13 (gF (xT xs_12 1) 8)) fun y_15 st_16 =>
    nm (uT xs_12 1 st_16) fun xs_18 =>
    bnd (X8_lackOn (xT xs_18 1) x_6 (gF (xT xs_18 1) 8)) fun y_19 st_20 =>
    nm (uT xs_18 1 st_20) fun xs_22 =>
    nm (if y_9 < y_15 then y_15 else y_9) fun x_23 =>
    some ((y_19 - x_23), xs_22)
abbrev rmX10_leadWithout : Room := { frames := 4, cells := 0, slots := 0, locals := 84 }
theorem hdX10_leadWithout : yX10_leadWithout.cls = RX10 ∧ yX10_leadWithout.cls ≠ "java/lang/invoke/MethodHandle" ∧ yX10_leadWithout.cls ≠ "java/lang/invoke/VarHandle" ∧ (parseMethodDescriptor yX10_leadWithout.desc).map (fun d => d.parameters.length) = some 1 := by decide +kernel
set_option maxRecDepth 100000 in
set_option maxHeartbeats 8000000 in
theorem okX10_leadWithout (z : Nat → Nat) (l : Launch) (D : va_G) (T : mT3) (b : Nat → Nat) {xa : XA} {xs : XS} {v1 : Int32} {r : Int32} {xs' : XS} (hR : xRel b xa xs) (heq : X10_leadWithout xs v1 = some (r, xs')) : hXi xSub z l D T b yX10_leadWithout wsX10_leadWithout rmX10_leadWithout [.ref (b 0), .int v1] xa xs r xs' := by
  refine xbody_i (plainFor_of_name (by decide)) rfl (Nat.le_of_ble_eq_true rfl) (fun p e s m args below meth c A Q hx hb hml hown hts hK hA hX hret ls hP hD hS hl => ?_)
  have hl : lv_has ls 5 [(0, .ref (b 0)), (1, .int v1)] := hl
  have hin10 : ∀ w ∈ wsX100, w ∈ wsX10_leadWithout := by decide +kernel
  have hin8 : ∀ w ∈ wsX80, w ∈ wsX10_leadWithout := by decide +kernel
  have f16 : (Cond.fieldLink RX10 16 RX10 (TX10 1).2.1 (TX10 1).2.2.1).before args s = true := hts (.fieldLink RX10 16 RX10 "trial" "LLaidDownTheLane$Town;") (by decide +kernel)
  have f93 : (Cond.fieldLink RX10 93 RX8 (TX8 8).2.1 (TX8 8).2.2.1).before args s = true := hts (.fieldLink RX10 93 RX8 "minute" "I") (by decide +kernel)
  have f120 : (Cond.fieldLink RX10 120 RX8 (TX8 3).2.1 (TX8 3).2.2.1).before args s = true := hts (.fieldLink RX10 120 RX8 "told" "[I") (by decide +kernel)
  have m238_0 := hts (.methodLink RX10 238 Lib.Math.max.name) (by decide +kernel)
  have m238_1 := hts (.static Lib.Math.max.name) (by decide +kernel)
  have m238_2 := hts (.initialized "java/lang/Math") (by decide +kernel)
  have m238_3 := hts (.code Lib.Math.max.name Lib.Math.max.code 2 (some .int)) (by decide +kernel)
  obtain ⟨xa0, hxa0⟩ : ∃ z : XA, z = xa := ⟨_, rfl⟩
  rw [← hxa0] at hret
  have hU : xSub xa0 xa := by rw [hxa0]; exact xSub.rf
  clear hxa0
  obtain ⟨H, hH⟩ : ∃ H, H = s.heap := ⟨_, rfl⟩
  obtain ⟨locs, hlocs⟩ : ∃ z : List Loc, z = [] := ⟨_, rfl⟩
  have hS : va_S A s.heap H locs := by rw [hH, hlocs]; exact hS
  have hP : va_P D vwCl (xW b T xa xs) H := by rw [hH]; exact hP
  suffices h9 : W p l e rmX10_leadWithout s m args below meth c H locs 0 0 Q (F0 m 0 ls []) by rw [hH, hlocs] at h9; exact h9
  clear hH hlocs
  unfold X10_leadWithout at heq
  refine lv_aload_n hx hb dX10_leadWithout_0 rfl (lv_at hl 0 rfl) ?_
  refine lv_iload_n hx hb dX10_leadWithout_1 rfl (lv_at hl 1 rfl) ?_
  obtain ⟨⟨⟩, xs_1, h_2, heq⟩ := bnd_h heq
  refine x_vv (own := RX10) (As := [.int v1]) (rest := []) hx hb hml hown hts (okX10_cutJust z l D T b hR h_2) (cwV 1 hts gX10_leadWithout_X10_cutJust rfl rfl rfl hdX10_cutJust ⟨Nat.le_of_ble_eq_true rfl, Nat.le_of_ble_eq_true rfl⟩) hK hA hX hP hD hS (ci := 10) (q0 := 0) rfl rfl rfl hl.1 rfl (Nat.le_of_ble_eq_true rfl) dX10_leadWithout_2 ⟨Nat.le_of_ble_eq_true rfl, Nat.le_of_ble_eq_true rfl⟩ (fun xa_3 H locs hR hsxa_3 hP hD hS => ?_)
  have hU := xSub.tr hU hsxa_3
  refine lv_aload_n hx hb dX10_leadWithout_5 rfl (lv_at hl 0 rfl) ?_
  refine va_get (D := D) (ci := 10) (v := .ref (b 10)) (C := RX10) (T := TX10) (N := 7) hx hb hts hin10 hown hK hP 0 rfl rfl 1 (by decide) f16 (fun _ h9 => h9) rfl dX10_leadWithout_6 ?_
  refine va_get (D := D) (ci := 8) (v := .ref (b 14)) (C := RX8) (T := TX8) (N := 10) hx hb hts hin8 hown hK hP 10 rfl rfl 3 (by decide) f120 (fun _ h9 => h9) rfl dX10_leadWithout_9 ?_
  refine lv_bipush (v := (6 : Int32)) hx hb dX10_leadWithout_12 (by decide) ?_
  obtain ⟨n_5, heq⟩ := inr_h heq
  refine va_iald (f := gA (xT xs_1 1) 3) (n := 7) hx hb hK hP 14 0 rfl rfl n_5 dX10_leadWithout_14 ?_
  refine lv_topi (fun x_6 ex_6 => ?_)
  have heq := nm_h ex_6 heq
  refine lv_istore_n (lv' := [(2, .int x_6), (0, .ref (b 0)), (1, .int v1)]) hx hb dX10_leadWithout_15 rfl hl (by decide) rfl (fun ls hl => ?_)
  refine lv_aload_n hx hb dX10_leadWithout_16 rfl (lv_at hl 1 rfl) ?_
  refine va_get (D := D) (ci := 10) (v := .ref (b 10)) (C := RX10) (T := TX10) (N := 7) hx hb hts hin10 hown hK hP 0 rfl rfl 1 (by decide) f16 (fun _ h9 => h9) rfl dX10_leadWithout_17 ?_
  refine lv_iload_n hx hb dX10_leadWithout_20 rfl (lv_at hl 0 rfl) ?_
  refine lv_iconst (v := (1 : Int32)) hx hb dX10_leadWithout_21 (by decide) ?_
  refine lv_iadd hx hb dX10_leadWithout_22 ?_
  obtain ⟨y_7, h_8, heq⟩ := bd1_h heq
  refine h_si (own := RX10) (As := [.int (x_6 + (1 : Int32))]) (rest := [.ref (b 10)]) (w0 := []) (w1 := []) (wr := xW b T xa_3 xs_1) hx hb hml hown hts (okX10_around z l D h_8) (va_cwS 1 hts gX10_leadWithout_X10_around rfl rfl rfl (hdX10_around).2 ⟨Nat.le_of_ble_eq_true rfl, Nat.le_of_ble_eq_true rfl⟩) (hK.sub [] rfl) hA hX hP hD hS (List.Perm.refl _) (List.Perm.refl _) rfl hl.1 rfl (Nat.le_of_ble_eq_true rfl) dX10_leadWithout_23 ⟨Nat.le_of_ble_eq_true rfl, Nat.le_of_ble_eq_true rfl⟩ (fun H locs hP hD hS => ?_)
  refine lv_aload_n hx hb dX10_leadWithout_26 rfl (lv_at hl 1 rfl) ?_
  refine va_get (D := D) (ci := 10) (v := .ref (b 10)) (C := RX10) (T := TX10) (N := 7) hx hb hts hin10 hown hK hP 0 rfl rfl 1 (by decide) f16 (fun _ h9 => h9) rfl dX10_leadWithout_27 ?_
  refine va_get (D := D) (ci := 8) (v := .int (gF (xT xs_1 1) 8)) (C := RX8) (T := TX8) (N := 10) hx hb hts hin8 hown hK hP 10 rfl rfl 8 (by decide) f93 (fun _ h9 => h9) rfl dX10_leadWithout_30 ?_
  obtain ⟨y_9, st_10, h_11, heq⟩ := bnd_h heq
  refine h_vi (own := RX10) (As := [.int y_7, .int (gF (xT xs_1 1) 8)]) (rest := []) (wr := xWr1 b T xa_3 xs_1) hx hb hml hown hts (okX8_lackOn z l D (fun j => b (10 + j)) T (fun j => some (xFo xa_3 1 j)) h_11) (cwV 2 hts gX10_leadWithout_X8_lackOn rfl rfl rfl hdX8_lackOn ⟨Nat.le_of_ble_eq_true rfl, Nat.le_of_ble_eq_true rfl⟩) hK hA hX hP hD hS (xp1 b T xa_3 xs_1) (xq1 b T xa_3 xs_1 _) (ci := 8) (q0 := 0) rfl rfl rfl hl.1 rfl (Nat.le_of_ble_eq_true rfl) dX10_leadWithout_33 ⟨Nat.le_of_ble_eq_true rfl, Nat.le_of_ble_eq_true rfl⟩ (fun H locs hP hD hS => ?_)
  obtain ⟨xs_12, exs_12⟩ : ∃ z, z = uT xs_1 1 st_10 := ⟨_, rfl⟩
  have hR : xRel b xa_3 (uT xs_1 1 st_10) := hR.uT _ _
  rw [← exs_12] at hP hD hR
  have heq := nm_h exs_12 heq
  refine lv_istore_n (lv' := [(3, .int y_9), (2, .int x_6), (0, .ref (b 0)), (1, .int v1)]) hx hb dX10_leadWithout_36 rfl hl (by decide) rfl (fun ls hl => ?_)
  refine lv_aload_n hx hb dX10_leadWithout_37 rfl (lv_at hl 2 rfl) ?_
  refine va_get (D := D) (ci := 10) (v := .ref (b 10)) (C := RX10) (T := TX10) (N := 7) hx hb hts hin10 hown hK hP 0 rfl rfl 1 (by decide) f16 (fun _ h9 => h9) rfl dX10_leadWithout_38 ?_
  refine lv_iload_n hx hb dX10_leadWithout_41 rfl (lv_at hl 1 rfl) ?_
  refine lv_iconst (v := (1 : Int32)) hx hb dX10_leadWithout_42 (by decide) ?_
  refine lv_isub hx hb dX10_leadWithout_43 ?_
  obtain ⟨y_13, h_14, heq⟩ := bd1_h heq
  refine h_si (own := RX10) (As := [.int (x_6 - (1 : Int32))]) (rest := [.ref (b 10)]) (w0 := []) (w1 := []) (wr := xW b T xa_3 xs_12) hx hb hml hown hts (okX10_around z l D h_14) (va_cwS 1 hts gX10_leadWithout_X10_around rfl rfl rfl (hdX10_around).2 ⟨Nat.le_of_ble_eq_true rfl, Nat.le_of_ble_eq_true rfl⟩) (hK.sub [] rfl) hA hX hP hD hS (List.Perm.refl _) (List.Perm.refl _) rfl hl.1 rfl (Nat.le_of_ble_eq_true rfl) dX10_leadWithout_44 ⟨Nat.le_of_ble_eq_true rfl, Nat.le_of_ble_eq_true rfl⟩ (fun H locs hP hD hS => ?_)
  refine lv_aload_n hx hb dX10_leadWithout_47 rfl (lv_at hl 2 rfl) ?_
  refine va_get (D := D) (ci := 10) (v := .ref (b 10)) (C := RX10) (T := TX10) (N := 7) hx hb hts hin10 hown hK hP 0 rfl rfl 1 (by decide) f16 (fun _ h9 => h9) rfl dX10_leadWithout_48 ?_
  refine va_get (D := D) (ci := 8) (v := .int (gF (xT xs_12 1) 8)) (C := RX8) (T := TX8) (N := 10) hx hb hts hin8 hown hK hP 10 rfl rfl 8 (by decide) f93 (fun _ h9 => h9) rfl dX10_leadWithout_51 ?_
  obtain ⟨y_15, st_16, h_17, heq⟩ := bnd_h heq
  refine h_vi (own := RX10) (As := [.int y_13, .int (gF (xT xs_12 1) 8)]) (rest := []) (wr := xWr1 b T xa_3 xs_12) hx hb hml hown hts (okX8_lackOn z l D (fun j => b (10 + j)) T (fun j => some (xFo xa_3 1 j)) h_17) (cwV 2 hts gX10_leadWithout_X8_lackOn rfl rfl rfl hdX8_lackOn ⟨Nat.le_of_ble_eq_true rfl, Nat.le_of_ble_eq_true rfl⟩) hK hA hX hP hD hS (xp1 b T xa_3 xs_12) (xq1 b T xa_3 xs_12 _) (ci := 8) (q0 := 0) rfl rfl rfl hl.1 rfl (Nat.le_of_ble_eq_true rfl) dX10_leadWithout_54 ⟨Nat.le_of_ble_eq_true rfl, Nat.le_of_ble_eq_true rfl⟩ (fun H locs hP hD hS => ?_)
  obtain ⟨xs_18, exs_18⟩ : ∃ z, z = uT xs_12 1 st_16 := ⟨_, rfl⟩
  have hR : xRel b xa_3 (uT xs_12 1 st_16) := hR.uT _ _
  rw [← exs_18] at hP hD hR
  have heq := nm_h exs_18 heq
  refine lv_istore (lv' := [(4, .int y_15), (3, .int y_9), (2, .int x_6), (0, .ref (b 0)), (1, .int v1)]) hx hb dX10_leadWithout_57 hl (by decide) rfl (fun ls hl => ?_)
  refine lv_aload_n hx hb dX10_leadWithout_59 rfl (lv_at hl 3 rfl) ?_
  refine va_get (D := D) (ci := 10) (v := .ref (b 10)) (C := RX10) (T := TX10) (N := 7) hx hb hts hin10 hown hK hP 0 rfl rfl 1 (by decide) f16 (fun _ h9 => h9) rfl dX10_leadWithout_60 ?_
  refine lv_iload_n hx hb dX10_leadWithout_63 rfl (lv_at hl 2 rfl) ?_
  refine lv_aload_n hx hb dX10_leadWithout_64 rfl (lv_at hl 3 rfl) ?_
  refine va_get (D := D) (ci := 10) (v := .ref (b 10)) (C := RX10) (T := TX10) (N := 7) hx hb hts hin10 hown hK hP 0 rfl rfl 1 (by decide) f16 (fun _ h9 => h9) rfl dX10_leadWithout_65 ?_
  refine va_get (D := D) (ci := 8) (v := .int (gF (xT xs_18 1) 8)) (C := RX8) (T := TX8) (N := 10) hx hb hts hin8 hown hK hP 10 rfl rfl 8 (by decide) f93 (fun _ h9 => h9) rfl dX10_leadWithout_68 ?_
  obtain ⟨y_19, st_20, h_21, heq⟩ := bnd_h heq
  refine h_vi (own := RX10) (As := [.int x_6, .int (gF (xT xs_18 1) 8)]) (rest := []) (wr := xWr1 b T xa_3 xs_18) hx hb hml hown hts (okX8_lackOn z l D (fun j => b (10 + j)) T (fun j => some (xFo xa_3 1 j)) h_21) (cwV 2 hts gX10_leadWithout_X8_lackOn rfl rfl rfl hdX8_lackOn ⟨Nat.le_of_ble_eq_true rfl, Nat.le_of_ble_eq_true rfl⟩) hK hA hX hP hD hS (xp1 b T xa_3 xs_18) (xq1 b T xa_3 xs_18 _) (ci := 8) (q0 := 0) rfl rfl rfl hl.1 rfl (Nat.le_of_ble_eq_true rfl) dX10_leadWithout_71 ⟨Nat.le_of_ble_eq_true rfl, Nat.le_of_ble_eq_true rfl⟩ (fun H locs hP hD hS => ?_)
  obtain ⟨xs_22, exs_22⟩ : ∃ z, z = uT xs_18 1 st_20 := ⟨_, rfl⟩
  have hR : xRel b xa_3 (uT xs_18 1 st_20) := hR.uT _ _
  rw [← exs_22] at hP hD hR
  have heq := nm_h exs_22 heq
  refine lv_iload_n hx hb dX10_leadWithout_74 rfl (lv_at hl 1 rfl) ?_
  refine lv_iload hx hb dX10_leadWithout_75 (lv_at hl 0 rfl) ?_
  refine va_mmax hx hb (hml.trans hl.1.symm) hown m238_0 m238_1 m238_2 m238_3 (Nat.le_of_ble_eq_true rfl) (Nat.le_of_ble_eq_true rfl) (Nat.le_of_ble_eq_true rfl) (Nat.le_of_ble_eq_true rfl) dX10_leadWithout_77 ?_
  refine lv_topi (fun x_23 ex_23 => ?_)
  have heq := nm_h ex_23 heq
  refine lv_isub hx hb dX10_leadWithout_80 ?_
  obtain ⟨heq, heq2⟩ := ret_h heq
  subst heq
  subst heq2
  exact hret 81 H locs ls xa_3 hR hU hP hD hS rfl dX10_leadWithout_81
set_option maxRecDepth 20000 in
theorem ggX10_moreOn_X8_isDown : GoodIn wsX10_moreOn wsX8_isDown := goodIn_r _ [8, 9, 147, 148, 149, 150, 151, 152, 153, 154, 155, 156] (by decide +kernel) (by decide +kernel)
set_option maxRecDepth 20000 in
theorem gX10_moreOn_X8_isDown : GoodIn wsX10_moreOn (wsV RX10 116 RX8 yX8_isDown wsX8_isDown) := goodIn_app (goodIn_of _ (by decide +kernel)) ggX10_moreOn_X8_isDown
set_option maxRecDepth 20000 in
theorem ggX10_moreOn_X8_takeFrom : GoodIn wsX10_moreOn wsX8_takeFrom := goodIn_r _ [13, 14, 15, 16, 17, 18, 19, 20, 21, 22, 9, 147, 148, 149, 150, 151, 152, 153, 154, 155, 156] (by decide +kernel) (by decide +kernel)
set_option maxRecDepth 20000 in
theorem gX10_moreOn_X8_takeFrom : GoodIn wsX10_moreOn (wsV RX10 59 RX8 yX8_takeFrom wsX8_takeFrom) := goodIn_app (goodIn_of _ (by decide +kernel)) ggX10_moreOn_X8_takeFrom
set_option maxRecDepth 20000 in
theorem ggX10_moreOn_X10_leadWithout : GoodIn wsX10_moreOn wsX10_leadWithout := goodIn_r _ [27, 2, 3, 28, 29, 30, 31, 32, 33, 34, 35, 26, 36, 37, 1, 38, 39, 40, 41, 7, 42, 14, 15, 16, 43, 44, 45, 46, 47, 48, 49, 50, 51, 52, 53, 54, 55, 56, 57, 58, 59, 60, 61, 62, 63, 64, 65, 66, 67, 68, 69, 70, 71, 72, 73, 74, 75, 76, 77, 78, 79, 80, 81, 82, 83, 84, 85, 86, 87, 88, 89, 90, 91, 92, 93, 94, 95, 96, 97, 98, 99, 100, 101, 102, 103, 104, 105, 106, 107, 108, 109, 110, 111, 112, 113, 114, 115, 116, 117, 118, 119, 120, 121, 122, 123, 124, 125, 126, 127, 128, 17, 129, 130, 131, 132, 133, 134, 135, 136, 137, 138, 139, 140, 141, 142, 143, 144, 145, 146, 147, 148, 149, 150, 151, 152, 153, 154, 155, 156, 157, 158, 159, 160, 161, 162, 163, 164] (by decide +kernel) (by decide +kernel)
set_option maxRecDepth 20000 in
theorem gX10_moreOn_X10_leadWithout : GoodIn wsX10_moreOn (wsV RX10 187 RX10 yX10_leadWithout wsX10_leadWithout) := goodIn_app (goodIn_of _ (by decide +kernel)) ggX10_moreOn_X10_leadWithout
set_option maxRecDepth 20000 in
theorem ggX10_moreOn_X10_around : GoodIn wsX10_moreOn wsX10_around := goodIn_r _ [116, 117, 118, 119, 120] (by decide +kernel) (by decide +kernel)
set_option maxRecDepth 20000 in
theorem gX10_moreOn_X10_around : GoodIn wsX10_moreOn (va_wsS RX10 177 yX10_around wsX10_around) := goodIn_app (goodIn_of _ (by decide +kernel)) ggX10_moreOn_X10_around
theorem dX10_moreOn_0 : decode cX10_moreOn 0 = .ok (.aload_n 0, 1) := by decide +kernel
theorem dX10_moreOn_1 : decode cX10_moreOn 1 = .ok (.getfield 10, 3) := by decide +kernel
theorem dX10_moreOn_4 : decode cX10_moreOn 4 = .ok (.invokevirtual 116, 3) := by decide +kernel
theorem dX10_moreOn_7 : decode cX10_moreOn 7 = .ok (.ifCond .eq 6, 3) := by decide +kernel
theorem dX10_moreOn_10 : decode cX10_moreOn 10 = .ok (.bipush (-3), 2) := by decide +kernel
theorem dX10_moreOn_12 : decode cX10_moreOn 12 = .ok (.ireturn, 1) := by decide +kernel
theorem dX10_moreOn_13 : decode cX10_moreOn 13 = .ok (.aload_n 0, 1) := by decide +kernel
theorem dX10_moreOn_14 : decode cX10_moreOn 14 = .ok (.getfield 16, 3) := by decide +kernel
theorem dX10_moreOn_17 : decode cX10_moreOn 17 = .ok (.aload_n 0, 1) := by decide +kernel
theorem dX10_moreOn_18 : decode cX10_moreOn 18 = .ok (.getfield 10, 3) := by decide +kernel
theorem dX10_moreOn_21 : decode cX10_moreOn 21 = .ok (.invokevirtual 59, 3) := by decide +kernel
theorem dX10_moreOn_24 : decode cX10_moreOn 24 = .ok (.aload_n 0, 1) := by decide +kernel
theorem dX10_moreOn_25 : decode cX10_moreOn 25 = .ok (.getfield 10, 3) := by decide +kernel
theorem dX10_moreOn_28 : decode cX10_moreOn 28 = .ok (.getfield 120, 3) := by decide +kernel
theorem dX10_moreOn_31 : decode cX10_moreOn 31 = .ok (.bipush 6, 2) := by decide +kernel
theorem dX10_moreOn_33 : decode cX10_moreOn 33 = .ok (.iaload, 1) := by decide +kernel
theorem dX10_moreOn_34 : decode cX10_moreOn 34 = .ok (.istore_n 1, 1) := by decide +kernel
theorem dX10_moreOn_35 : decode cX10_moreOn 35 = .ok (.iconst 1, 1) := by decide +kernel
theorem dX10_moreOn_36 : decode cX10_moreOn 36 = .ok (.iload_n 1, 1) := by decide +kernel
theorem dX10_moreOn_37 : decode cX10_moreOn 37 = .ok (.ishl, 1) := by decide +kernel
theorem dX10_moreOn_38 : decode cX10_moreOn 38 = .ok (.istore_n 2, 1) := by decide +kernel
theorem dX10_moreOn_39 : decode cX10_moreOn 39 = .ok (.aload_n 0, 1) := by decide +kernel
theorem dX10_moreOn_40 : decode cX10_moreOn 40 = .ok (.iload_n 2, 1) := by decide +kernel
theorem dX10_moreOn_41 : decode cX10_moreOn 41 = .ok (.invokevirtual 187, 3) := by decide +kernel
theorem dX10_moreOn_44 : decode cX10_moreOn 44 = .ok (.istore_n 3, 1) := by decide +kernel
theorem dX10_moreOn_45 : decode cX10_moreOn 45 = .ok (.aload_n 0, 1) := by decide +kernel
theorem dX10_moreOn_46 : decode cX10_moreOn 46 = .ok (.iload_n 2, 1) := by decide +kernel
theorem dX10_moreOn_47 : decode cX10_moreOn 47 = .ok (.iconst 1, 1) := by decide +kernel
theorem dX10_moreOn_48 : decode cX10_moreOn 48 = .ok (.iload_n 1, 1) := by decide +kernel
theorem dX10_moreOn_49 : decode cX10_moreOn 49 = .ok (.iconst 1, 1) := by decide +kernel
theorem dX10_moreOn_50 : decode cX10_moreOn 50 = .ok (.iadd, 1) := by decide +kernel
theorem dX10_moreOn_51 : decode cX10_moreOn 51 = .ok (.invokestatic 177, 3) := by decide +kernel
theorem dX10_moreOn_54 : decode cX10_moreOn 54 = .ok (.ishl, 1) := by decide +kernel
theorem dX10_moreOn_55 : decode cX10_moreOn 55 = .ok (.ior, 1) := by decide +kernel
theorem dX10_moreOn_56 : decode cX10_moreOn 56 = .ok (.invokevirtual 187, 3) := by decide +kernel
theorem dX10_moreOn_59 : decode cX10_moreOn 59 = .ok (.istore 4, 2) := by decide +kernel
theorem dX10_moreOn_61 : decode cX10_moreOn 61 = .ok (.aload_n 0, 1) := by decide +kernel
theorem dX10_moreOn_62 : decode cX10_moreOn 62 = .ok (.iload_n 2, 1) := by decide +kernel
theorem dX10_moreOn_63 : decode cX10_moreOn 63 = .ok (.iconst 1, 1) := by decide +kernel
theorem dX10_moreOn_64 : decode cX10_moreOn 64 = .ok (.iload_n 1, 1) := by decide +kernel
theorem dX10_moreOn_65 : decode cX10_moreOn 65 = .ok (.iconst 1, 1) := by decide +kernel
theorem dX10_moreOn_66 : decode cX10_moreOn 66 = .ok (.isub, 1) := by decide +kernel
theorem dX10_moreOn_67 : decode cX10_moreOn 67 = .ok (.invokestatic 177, 3) := by decide +kernel
theorem dX10_moreOn_70 : decode cX10_moreOn 70 = .ok (.ishl, 1) := by decide +kernel
theorem dX10_moreOn_71 : decode cX10_moreOn 71 = .ok (.ior, 1) := by decide +kernel
theorem dX10_moreOn_72 : decode cX10_moreOn 72 = .ok (.invokevirtual 187, 3) := by decide +kernel
theorem dX10_moreOn_75 : decode cX10_moreOn 75 = .ok (.istore 5, 2) := by decide +kernel
theorem dX10_moreOn_77 : decode cX10_moreOn 77 = .ok (.iload_n 3, 1) := by decide +kernel
theorem dX10_moreOn_78 : decode cX10_moreOn 78 = .ok (.iload 4, 2) := by decide +kernel
theorem dX10_moreOn_80 : decode cX10_moreOn 80 = .ok (.if_icmp .lt 11, 3) := by decide +kernel
theorem dX10_moreOn_83 : decode cX10_moreOn 83 = .ok (.iload_n 3, 1) := by decide +kernel
theorem dX10_moreOn_84 : decode cX10_moreOn 84 = .ok (.iload 5, 2) := by decide +kernel
theorem dX10_moreOn_86 : decode cX10_moreOn 86 = .ok (.if_icmp .lt 5, 3) := by decide +kernel
theorem dX10_moreOn_89 : decode cX10_moreOn 89 = .ok (.iconst 0, 1) := by decide +kernel
theorem dX10_moreOn_90 : decode cX10_moreOn 90 = .ok (.ireturn, 1) := by decide +kernel
theorem dX10_moreOn_91 : decode cX10_moreOn 91 = .ok (.iload 4, 2) := by decide +kernel
theorem dX10_moreOn_93 : decode cX10_moreOn 93 = .ok (.iload 5, 2) := by decide +kernel
theorem dX10_moreOn_95 : decode cX10_moreOn 95 = .ok (.if_icmp .lt 7, 3) := by decide +kernel
theorem dX10_moreOn_98 : decode cX10_moreOn 98 = .ok (.iconst 1, 1) := by decide +kernel
theorem dX10_moreOn_99 : decode cX10_moreOn 99 = .ok (.goto 4, 3) := by decide +kernel
theorem dX10_moreOn_102 : decode cX10_moreOn 102 = .ok (.iconst 2, 1) := by decide +kernel
theorem dX10_moreOn_103 : decode cX10_moreOn 103 = .ok (.ireturn, 1) := by decide +kernel
/-! X10 moreOn -/
def X10_moreOn_p103 (xs : XS) (t0 : Int32) : Option (Int32 × XS) :=
    some (t0, xs)
def X10_moreOn_p91 (xs : XS) (v4 : Int32) (v5 : Int32) : Option (Int32 × XS) :=
    if v4 < v5 then
      (X10_moreOn_p103 xs (2 : Int32))
    else
    X10_moreOn_p103 xs (1 : Int32)
def X10_moreOn (xs : XS) : Option (Int32 × XS) :=
    bnd (X8_isDown (xT xs 0)) fun y_2 st_3 =>
    nm (uT xs 0 st_3) fun xs_5 =>
    if y_2 = 0 then
      (bnd (X8_takeFrom_1_0 xs_5) fun _ xs_7 =>
      inr (6 : Int32) 7 <|
      nm ((gA (xT xs_7 0) 3 (6 : Int32).toNatClampNeg)) fun x_12 =>
      nm (((1 : Int32) <<< (x_12 &&& 31))) fun x_13 =>
      bnd (X10_leadWithout xs_7 x_13) fun y_14 xs_15 =>
      bd1 (X10_around (x_12 + (1 : Int32))) fun y_19 =>
      bnd (X10_leadWithout xs_15 (x_13 ||| ((1 : Int32) <<< (y_19 &&& 31)))) fun y_21 xs_22 =>
      bd1 (X10_around (x_12 - (1 : Int32))) fun y_26 =>
      bnd (X10_leadWithout xs_22 (x_13 ||| ((1 : Int32) <<< (y_26 &&& 31)))) fun y_28 xs_29 =>
      if y_14 < y_21 then
        (X10_moreOn_p91 xs_29 y_21 y_28)
      else
      if y_14 < y_28 then
        (X10_moreOn_p91 xs_29 y_21 y_28)
      else
      some ((0 : Int32), xs_29))
    else
    some ((-3 : Int32), xs_5)
abbrev rmX10_moreOn : Room := { frames := 5, cells := 0, slots := 0, locals := 108 }
theorem hdX10_moreOn : yX10_moreOn.cls = RX10 ∧ yX10_moreOn.cls ≠ "java/lang/invoke/MethodHandle" ∧ yX10_moreOn.cls ≠ "java/lang/invoke/VarHandle" ∧ (parseMethodDescriptor yX10_moreOn.desc).map (fun d => d.parameters.length) = some 0 := by decide +kernel
set_option maxRecDepth 100000 in
set_option maxHeartbeats 8000000 in
theorem okX10_moreOn (z : Nat → Nat) (l : Launch) (D : va_G) (T : mT3) (b : Nat → Nat) {xa : XA} {xs : XS} {r : Int32} {xs' : XS} (hR : xRel b xa xs) (heq : X10_moreOn xs = some (r, xs')) : hXi xSub z l D T b yX10_moreOn wsX10_moreOn rmX10_moreOn [.ref (b 0)] xa xs r xs' := by
  refine xbody_i (plainFor_of_name (by decide)) rfl (Nat.le_of_ble_eq_true rfl) (fun p e s m args below meth c A Q hx hb hml hown hts hK hA hX hret ls hP hD hS hl => ?_)
  have hl : lv_has ls 6 [(0, .ref (b 0))] := hl
  have hin10 : ∀ w ∈ wsX100, w ∈ wsX10_moreOn := by decide +kernel
  have hin8 : ∀ w ∈ wsX80, w ∈ wsX10_moreOn := by decide +kernel
  have f10 : (Cond.fieldLink RX10 10 RX10 (TX10 0).2.1 (TX10 0).2.2.1).before args s = true := hts (.fieldLink RX10 10 RX10 "now" "LLaidDownTheLane$Town;") (by decide +kernel)
  have f16 : (Cond.fieldLink RX10 16 RX10 (TX10 1).2.1 (TX10 1).2.2.1).before args s = true := hts (.fieldLink RX10 16 RX10 "trial" "LLaidDownTheLane$Town;") (by decide +kernel)
  have f120 : (Cond.fieldLink RX10 120 RX8 (TX8 3).2.1 (TX8 3).2.2.1).before args s = true := hts (.fieldLink RX10 120 RX8 "told" "[I") (by decide +kernel)
  obtain ⟨xa0, hxa0⟩ : ∃ z : XA, z = xa := ⟨_, rfl⟩
  rw [← hxa0] at hret
  have hU : xSub xa0 xa := by rw [hxa0]; exact xSub.rf
  clear hxa0
  have b103 : ∀ (xs : XS) (t0 : Int32) (xa : XA) (H : Heap) (locs : List Loc) (ls : Array Slot), xRel b xa xs → xSub xa0 xa → va_P D vwCl (xW b T xa xs) H → va_D A (xW b T xa xs) → va_S A s.heap H locs → lv_has ls 6 [] → X10_moreOn_p103 xs t0 = some (r, xs') → W p l e rmX10_moreOn s m args below meth c H locs 0 0 Q (F0 m 103 ls [.int t0]) := by
    intro xs t0 xa H locs ls hR hU hP hD hS hl heq
    unfold X10_moreOn_p103 at heq
    obtain ⟨heq, heq2⟩ := ret_h heq
    subst heq
    subst heq2
    exact hret 103 H locs ls xa hR hU hP hD hS rfl dX10_moreOn_103
  have b91 : ∀ (xs : XS) (v4 : Int32) (v5 : Int32) (xa : XA) (H : Heap) (locs : List Loc) (ls : Array Slot), xRel b xa xs → xSub xa0 xa → va_P D vwCl (xW b T xa xs) H → va_D A (xW b T xa xs) → va_S A s.heap H locs → lv_has ls 6 [(4, .int v4), (5, .int v5)] → X10_moreOn_p91 xs v4 v5 = some (r, xs') → W p l e rmX10_moreOn s m args below meth c H locs 0 0 Q (F0 m 91 ls []) := by
    intro xs v4 v5 xa H locs ls hR hU hP hD hS hl heq
    unfold X10_moreOn_p91 at heq
    refine lv_iload hx hb dX10_moreOn_91 (lv_at hl 0 rfl) ?_
    refine lv_iload hx hb dX10_moreOn_93 (lv_at hl 1 rfl) ?_
    refine lv_icmp_lt (tgt := 102) hx hb dX10_moreOn_95 (by decide) (fun c_1 => ?_) (fun c_1 => ?_)
    · have heq := it_t c_1 heq
      refine lv_iconst (v := (2 : Int32)) hx hb dX10_moreOn_102 (by decide) ?_
      exact b103 xs (2 : Int32) xa H locs ls hR hU hP hD hS (lv_sub hl [] rfl) heq
    have heq := it_f c_1 heq
    refine lv_iconst (v := (1 : Int32)) hx hb dX10_moreOn_98 (by decide) ?_
    refine lv_goto (tgt := 103) hx hb dX10_moreOn_99 (by decide) ?_
    exact b103 xs (1 : Int32) xa H locs ls hR hU hP hD hS (lv_sub hl [] rfl) heq
  obtain ⟨H, hH⟩ : ∃ H, H = s.heap := ⟨_, rfl⟩
  obtain ⟨locs, hlocs⟩ : ∃ z : List Loc, z = [] := ⟨_, rfl⟩
  have hS : va_S A s.heap H locs := by rw [hH, hlocs]; exact hS
  have hP : va_P D vwCl (xW b T xa xs) H := by rw [hH]; exact hP
  suffices h9 : W p l e rmX10_moreOn s m args below meth c H locs 0 0 Q (F0 m 0 ls []) by rw [hH, hlocs] at h9; exact h9
  clear hH hlocs
  unfold X10_moreOn at heq
  refine lv_aload_n hx hb dX10_moreOn_0 rfl (lv_at hl 0 rfl) ?_
  refine va_get (D := D) (ci := 10) (v := .ref (b 3)) (C := RX10) (T := TX10) (N := 7) hx hb hts hin10 hown hK hP 0 rfl rfl 0 (by decide) f10 (fun _ h9 => h9) rfl dX10_moreOn_1 ?_
  obtain ⟨y_2, st_3, h_4, heq⟩ := bnd_h heq
  refine h_vi (own := RX10) (As := []) (rest := []) (wr := xWr0 b T xa xs) hx hb hml hown hts (okX8_isDown z l D (fun j => b (3 + j)) T (fun j => some (xFo xa 0 j)) h_4) (cwV 0 hts gX10_moreOn_X8_isDown rfl rfl rfl hdX8_isDown ⟨Nat.le_of_ble_eq_true rfl, Nat.le_of_ble_eq_true rfl⟩) hK hA hX hP hD hS (xp0 b T xa xs) (xq0 b T xa xs _) (ci := 8) (q0 := 0) rfl rfl rfl hl.1 rfl (Nat.le_of_ble_eq_true rfl) dX10_moreOn_4 ⟨Nat.le_of_ble_eq_true rfl, Nat.le_of_ble_eq_true rfl⟩ (fun H locs hP hD hS => ?_)
  obtain ⟨xs_5, exs_5⟩ : ∃ z, z = uT xs 0 st_3 := ⟨_, rfl⟩
  have hR : xRel b xa (uT xs 0 st_3) := hR.uT _ _
  rw [← exs_5] at hP hD hR
  have heq := nm_h exs_5 heq
  refine lv_if_eq (tgt := 13) hx hb dX10_moreOn_7 (by decide) (fun c_6 => ?_) (fun c_6 => ?_)
  · have heq := it_t c_6 heq
    refine lv_aload_n hx hb dX10_moreOn_13 rfl (lv_at hl 0 rfl) ?_
    refine va_get (D := D) (ci := 10) (v := .ref (b 10)) (C := RX10) (T := TX10) (N := 7) hx hb hts hin10 hown hK hP 0 rfl rfl 1 (by decide) f16 (fun _ h9 => h9) rfl dX10_moreOn_14 ?_
    refine lv_aload_n hx hb dX10_moreOn_17 rfl (lv_at hl 0 rfl) ?_
    refine va_get (D := D) (ci := 10) (v := .ref (b 3)) (C := RX10) (T := TX10) (N := 7) hx hb hts hin10 hown hK hP 0 rfl rfl 0 (by decide) f10 (fun _ h9 => h9) rfl dX10_moreOn_18 ?_
    obtain ⟨⟨⟩, xs_7, h_8, heq⟩ := bnd_h heq
    refine x_vv (own := RX10) (As := [.ref (b 3)]) (rest := []) hx hb hml hown hts (okX8_takeFrom_1_0 z l D T b hR h_8) (cwV 1 hts gX10_moreOn_X8_takeFrom rfl rfl rfl hdX8_takeFrom ⟨Nat.le_of_ble_eq_true rfl, Nat.le_of_ble_eq_true rfl⟩) hK hA hX hP hD hS (ci := 8) (q0 := 10) rfl rfl rfl hl.1 rfl (Nat.le_of_ble_eq_true rfl) dX10_moreOn_21 ⟨Nat.le_of_ble_eq_true rfl, Nat.le_of_ble_eq_true rfl⟩ (fun xa_9 H locs hR hsxa_9 hP hD hS => ?_)
    have hU := xSub.tr hU hsxa_9
    refine lv_aload_n hx hb dX10_moreOn_24 rfl (lv_at hl 0 rfl) ?_
    refine va_get (D := D) (ci := 10) (v := .ref (b 3)) (C := RX10) (T := TX10) (N := 7) hx hb hts hin10 hown hK hP 0 rfl rfl 0 (by decide) f10 (fun _ h9 => h9) rfl dX10_moreOn_25 ?_
    refine va_get (D := D) (ci := 8) (v := .ref (b 7)) (C := RX8) (T := TX8) (N := 10) hx hb hts hin8 hown hK hP 3 rfl rfl 3 (by decide) f120 (fun _ h9 => h9) rfl dX10_moreOn_28 ?_
    refine lv_bipush (v := (6 : Int32)) hx hb dX10_moreOn_31 (by decide) ?_
    obtain ⟨n_11, heq⟩ := inr_h heq
    refine va_iald (f := gA (xT xs_7 0) 3) (n := 7) hx hb hK hP 7 0 rfl rfl n_11 dX10_moreOn_33 ?_
    refine lv_topi (fun x_12 ex_12 => ?_)
    have heq := nm_h ex_12 heq
    refine lv_istore_n (lv' := [(1, .int x_12), (0, .ref (b 0))]) hx hb dX10_moreOn_34 rfl hl (by decide) rfl (fun ls hl => ?_)
    refine lv_iconst (v := (1 : Int32)) hx hb dX10_moreOn_35 (by decide) ?_
    refine lv_iload_n hx hb dX10_moreOn_36 rfl (lv_at hl 0 rfl) ?_
    refine lv_ishl hx hb dX10_moreOn_37 ?_
    refine lv_topi (fun x_13 ex_13 => ?_)
    have heq := nm_h ex_13 heq
    refine lv_istore_n (lv' := [(2, .int x_13), (1, .int x_12), (0, .ref (b 0))]) hx hb dX10_moreOn_38 rfl hl (by decide) rfl (fun ls hl => ?_)
    refine lv_aload_n hx hb dX10_moreOn_39 rfl (lv_at hl 2 rfl) ?_
    refine lv_iload_n hx hb dX10_moreOn_40 rfl (lv_at hl 0 rfl) ?_
    obtain ⟨y_14, xs_15, h_16, heq⟩ := bnd_h heq
    refine x_vi (own := RX10) (As := [.int x_13]) (rest := []) hx hb hml hown hts (okX10_leadWithout z l D T b hR h_16) (cwV 1 hts gX10_moreOn_X10_leadWithout rfl rfl rfl hdX10_leadWithout ⟨Nat.le_of_ble_eq_true rfl, Nat.le_of_ble_eq_true rfl⟩) hK hA hX hP hD hS (ci := 10) (q0 := 0) rfl rfl rfl hl.1 rfl (Nat.le_of_ble_eq_true rfl) dX10_moreOn_41 ⟨Nat.le_of_ble_eq_true rfl, Nat.le_of_ble_eq_true rfl⟩ (fun xa_17 H locs hR hsxa_17 hP hD hS => ?_)
    have hU := xSub.tr hU hsxa_17
    refine lv_istore_n (lv' := [(3, .int y_14), (2, .int x_13), (1, .int x_12), (0, .ref (b 0))]) hx hb dX10_moreOn_44 rfl hl (by decide) rfl (fun ls hl => ?_)
    refine lv_aload_n hx hb dX10_moreOn_45 rfl (lv_at hl 3 rfl) ?_
    refine lv_iload_n hx hb dX10_moreOn_46 rfl (lv_at hl 1 rfl) ?_
    refine lv_iconst (v := (1 : Int32)) hx hb dX10_moreOn_47 (by decide) ?_
    refine lv_iload_n hx hb dX10_moreOn_48 rfl (lv_at hl 2 rfl) ?_
    refine lv_iconst (v := (1 : Int32)) hx hb dX10_moreOn_49 (by decide) ?_
    refine lv_iadd hx hb dX10_moreOn_50 ?_
    obtain ⟨y_19, h_20, heq⟩ := bd1_h heq
    refine h_si (own := RX10) (As := [.int (x_12 + (1 : Int32))]) (rest := [.int (1 : Int32), .int x_13, .ref (b 0)]) (w0 := []) (w1 := []) (wr := xW b T xa_17 xs_15) hx hb hml hown hts (okX10_around z l D h_20) (va_cwS 1 hts gX10_moreOn_X10_around rfl rfl rfl (hdX10_around).2 ⟨Nat.le_of_ble_eq_true rfl, Nat.le_of_ble_eq_true rfl⟩) (hK.sub [] rfl) hA hX hP hD hS (List.Perm.refl _) (List.Perm.refl _) rfl hl.1 rfl (Nat.le_of_ble_eq_true rfl) dX10_moreOn_51 ⟨Nat.le_of_ble_eq_true rfl, Nat.le_of_ble_eq_true rfl⟩ (fun H locs hP hD hS => ?_)
    refine lv_ishl hx hb dX10_moreOn_54 ?_
    refine lv_ior hx hb dX10_moreOn_55 ?_
    obtain ⟨y_21, xs_22, h_23, heq⟩ := bnd_h heq
    refine x_vi (own := RX10) (As := [.int (x_13 ||| ((1 : Int32) <<< (y_19 &&& 31)))]) (rest := []) hx hb hml hown hts (okX10_leadWithout z l D T b hR h_23) (cwV 1 hts gX10_moreOn_X10_leadWithout rfl rfl rfl hdX10_leadWithout ⟨Nat.le_of_ble_eq_true rfl, Nat.le_of_ble_eq_true rfl⟩) hK hA hX hP hD hS (ci := 10) (q0 := 0) rfl rfl rfl hl.1 rfl (Nat.le_of_ble_eq_true rfl) dX10_moreOn_56 ⟨Nat.le_of_ble_eq_true rfl, Nat.le_of_ble_eq_true rfl⟩ (fun xa_24 H locs hR hsxa_24 hP hD hS => ?_)
    have hU := xSub.tr hU hsxa_24
    refine lv_istore (lv' := [(4, .int y_21), (3, .int y_14), (2, .int x_13), (1, .int x_12), (0, .ref (b 0))]) hx hb dX10_moreOn_59 hl (by decide) rfl (fun ls hl => ?_)
    refine lv_aload_n hx hb dX10_moreOn_61 rfl (lv_at hl 4 rfl) ?_
    refine lv_iload_n hx hb dX10_moreOn_62 rfl (lv_at hl 2 rfl) ?_
    refine lv_iconst (v := (1 : Int32)) hx hb dX10_moreOn_63 (by decide) ?_
    refine lv_iload_n hx hb dX10_moreOn_64 rfl (lv_at hl 3 rfl) ?_
    refine lv_iconst (v := (1 : Int32)) hx hb dX10_moreOn_65 (by decide) ?_
    refine lv_isub hx hb dX10_moreOn_66 ?_
    obtain ⟨y_26, h_27, heq⟩ := bd1_h heq
    refine h_si (own := RX10) (As := [.int (x_12 - (1 : Int32))]) (rest := [.int (1 : Int32), .int x_13, .ref (b 0)]) (w0 := []) (w1 := []) (wr := xW b T xa_24 xs_22) hx hb hml hown hts (okX10_around z l D h_27) (va_cwS 1 hts gX10_moreOn_X10_around rfl rfl rfl (hdX10_around).2 ⟨Nat.le_of_ble_eq_true rfl, Nat.le_of_ble_eq_true rfl⟩) (hK.sub [] rfl) hA hX hP hD hS (List.Perm.refl _) (List.Perm.refl _) rfl hl.1 rfl (Nat.le_of_ble_eq_true rfl) dX10_moreOn_67 ⟨Nat.le_of_ble_eq_true rfl, Nat.le_of_ble_eq_true rfl⟩ (fun H locs hP hD hS => ?_)
    refine lv_ishl hx hb dX10_moreOn_70 ?_
    refine lv_ior hx hb dX10_moreOn_71 ?_
    obtain ⟨y_28, xs_29, h_30, heq⟩ := bnd_h heq
    refine x_vi (own := RX10) (As := [.int (x_13 ||| ((1 : Int32) <<< (y_26 &&& 31)))]) (rest := []) hx hb hml hown hts (okX10_leadWithout z l D T b hR h_30) (cwV 1 hts gX10_moreOn_X10_leadWithout rfl rfl rfl hdX10_leadWithout ⟨Nat.le_of_ble_eq_true rfl, Nat.le_of_ble_eq_true rfl⟩) hK hA hX hP hD hS (ci := 10) (q0 := 0) rfl rfl rfl hl.1 rfl (Nat.le_of_ble_eq_true rfl) dX10_moreOn_72 ⟨Nat.le_of_ble_eq_true rfl, Nat.le_of_ble_eq_true rfl⟩ (fun xa_31 H locs hR hsxa_31 hP hD hS => ?_)
    have hU := xSub.tr hU hsxa_31
    refine lv_istore (lv' := [(5, .int y_28), (4, .int y_21), (3, .int y_14), (2, .int x_13), (1, .int x_12), (0, .ref (b 0))]) hx hb dX10_moreOn_75 hl (by decide) rfl (fun ls hl => ?_)
    refine lv_iload_n hx hb dX10_moreOn_77 rfl (lv_at hl 2 rfl) ?_
    refine lv_iload hx hb dX10_moreOn_78 (lv_at hl 1 rfl) ?_
    refine lv_icmp_lt (tgt := 91) hx hb dX10_moreOn_80 (by decide) (fun c_33 => ?_) (fun c_33 => ?_)
    · have heq := it_t c_33 heq
      exact b91 xs_29 y_21 y_28 xa_31 H locs ls hR hU hP hD hS (lv_sub hl [1, 0] rfl) heq
    have heq := it_f c_33 heq
    refine lv_iload_n hx hb dX10_moreOn_83 rfl (lv_at hl 2 rfl) ?_
    refine lv_iload hx hb dX10_moreOn_84 (lv_at hl 0 rfl) ?_
    refine lv_icmp_lt (tgt := 91) hx hb dX10_moreOn_86 (by decide) (fun c_34 => ?_) (fun c_34 => ?_)
    · have heq := it_t c_34 heq
      exact b91 xs_29 y_21 y_28 xa_31 H locs ls hR hU hP hD hS (lv_sub hl [1, 0] rfl) heq
    have heq := it_f c_34 heq
    refine lv_iconst (v := (0 : Int32)) hx hb dX10_moreOn_89 (by decide) ?_
    obtain ⟨heq, heq2⟩ := ret_h heq
    subst heq
    subst heq2
    exact hret 90 H locs ls xa_31 hR hU hP hD hS rfl dX10_moreOn_90
  have heq := it_f c_6 heq
  refine lv_bipush (v := (-3 : Int32)) hx hb dX10_moreOn_10 (by decide) ?_
  obtain ⟨heq, heq2⟩ := ret_h heq
  subst heq
  subst heq2
  exact hret 12 H locs ls xa hR hU hP hD hS rfl dX10_moreOn_12
set_option maxRecDepth 20000 in
theorem ggX10_will_X8_isDown : GoodIn wsX10_will wsX8_isDown := goodIn_r _ [7, 8, 52, 53, 54, 55, 56, 57, 58, 59, 60, 61] (by decide +kernel) (by decide +kernel)
set_option maxRecDepth 20000 in
theorem gX10_will_X8_isDown : GoodIn wsX10_will (wsV RX10 116 RX8 yX8_isDown wsX8_isDown) := goodIn_app (goodIn_of _ (by decide +kernel)) ggX10_will_X8_isDown
set_option maxRecDepth 20000 in
theorem ggX10_will_X8_fallAfter : GoodIn wsX10_will wsX8_fallAfter := goodIn_r _ [12, 13, 14, 15, 16, 6, 17, 18, 19, 20, 21, 22, 23, 24, 25, 26, 27, 28, 29, 30, 31, 32, 33, 34, 35, 36, 37, 38, 39, 40, 41, 42, 43, 52, 53, 54, 55, 56, 57, 58, 59, 60, 61] (by decide +kernel) (by decide +kernel)
set_option maxRecDepth 20000 in
theorem gX10_will_X8_fallAfter : GoodIn wsX10_will (wsV RX10 190 RX8 yX8_fallAfter wsX8_fallAfter) := goodIn_app (goodIn_of _ (by decide +kernel)) ggX10_will_X8_fallAfter
set_option maxRecDepth 20000 in
theorem ggX10_will_X8_fallSideAt : GoodIn wsX10_will wsX8_fallSideAt := goodIn_r _ [22, 23, 24, 25, 6, 26, 27, 28, 29, 30, 31, 32, 33, 34, 35, 36, 37, 38, 39, 40, 41, 42, 18, 43, 52, 53, 54, 55, 56, 57, 58, 59, 60, 61] (by decide +kernel) (by decide +kernel)
set_option maxRecDepth 20000 in
theorem gX10_will_X8_fallSideAt : GoodIn wsX10_will (wsV RX10 184 RX8 yX8_fallSideAt wsX8_fallSideAt) := goodIn_app (goodIn_of _ (by decide +kernel)) ggX10_will_X8_fallSideAt
theorem dX10_will_0 : decode cX10_will 0 = .ok (.iload_n 1, 1) := by decide +kernel
theorem dX10_will_1 : decode cX10_will 1 = .ok (.ifCond .lt 8, 3) := by decide +kernel
theorem dX10_will_4 : decode cX10_will 4 = .ok (.iload_n 1, 1) := by decide +kernel
theorem dX10_will_5 : decode cX10_will 5 = .ok (.iconst 1, 1) := by decide +kernel
theorem dX10_will_6 : decode cX10_will 6 = .ok (.if_icmp .le 5, 3) := by decide +kernel
theorem dX10_will_9 : decode cX10_will 9 = .ok (.iconst (-1), 1) := by decide +kernel
theorem dX10_will_10 : decode cX10_will 10 = .ok (.ireturn, 1) := by decide +kernel
theorem dX10_will_11 : decode cX10_will 11 = .ok (.aload_n 0, 1) := by decide +kernel
theorem dX10_will_12 : decode cX10_will 12 = .ok (.getfield 10, 3) := by decide +kernel
theorem dX10_will_15 : decode cX10_will 15 = .ok (.invokevirtual 116, 3) := by decide +kernel
theorem dX10_will_18 : decode cX10_will 18 = .ok (.ifCond .eq 6, 3) := by decide +kernel
theorem dX10_will_21 : decode cX10_will 21 = .ok (.bipush (-3), 2) := by decide +kernel
theorem dX10_will_23 : decode cX10_will 23 = .ok (.ireturn, 1) := by decide +kernel
theorem dX10_will_24 : decode cX10_will 24 = .ok (.aload_n 0, 1) := by decide +kernel
theorem dX10_will_25 : decode cX10_will 25 = .ok (.getfield 10, 3) := by decide +kernel
theorem dX10_will_28 : decode cX10_will 28 = .ok (.bipush 60, 2) := by decide +kernel
theorem dX10_will_30 : decode cX10_will 30 = .ok (.invokevirtual 190, 3) := by decide +kernel
theorem dX10_will_33 : decode cX10_will 33 = .ok (.istore_n 2, 1) := by decide +kernel
theorem dX10_will_34 : decode cX10_will 34 = .ok (.iload_n 1, 1) := by decide +kernel
theorem dX10_will_35 : decode cX10_will 35 = .ok (.ifCond .eq 9, 3) := by decide +kernel
theorem dX10_will_38 : decode cX10_will 38 = .ok (.iload_n 2, 1) := by decide +kernel
theorem dX10_will_39 : decode cX10_will 39 = .ok (.bipush (-4), 2) := by decide +kernel
theorem dX10_will_41 : decode cX10_will 41 = .ok (.if_icmp .ne 5, 3) := by decide +kernel
theorem dX10_will_44 : decode cX10_will 44 = .ok (.iload_n 2, 1) := by decide +kernel
theorem dX10_will_45 : decode cX10_will 45 = .ok (.ireturn, 1) := by decide +kernel
theorem dX10_will_46 : decode cX10_will 46 = .ok (.aload_n 0, 1) := by decide +kernel
theorem dX10_will_47 : decode cX10_will 47 = .ok (.getfield 10, 3) := by decide +kernel
theorem dX10_will_50 : decode cX10_will 50 = .ok (.aload_n 0, 1) := by decide +kernel
theorem dX10_will_51 : decode cX10_will 51 = .ok (.getfield 10, 3) := by decide +kernel
theorem dX10_will_54 : decode cX10_will 54 = .ok (.getfield 93, 3) := by decide +kernel
theorem dX10_will_57 : decode cX10_will 57 = .ok (.iload_n 2, 1) := by decide +kernel
theorem dX10_will_58 : decode cX10_will 58 = .ok (.iadd, 1) := by decide +kernel
theorem dX10_will_59 : decode cX10_will 59 = .ok (.invokevirtual 184, 3) := by decide +kernel
theorem dX10_will_62 : decode cX10_will 62 = .ok (.ireturn, 1) := by decide +kernel
/-! X10 will -/
def X10_will_p44 (xs : XS) (v2 : Int32) : Option (Int32 × XS) :=
    some (v2, xs)
def X10_will (xs : XS) (v1 : Int32) : Option (Int32 × XS) :=
    if v1 < 0 then
      (some ((-1 : Int32), xs))
    else
    if v1 ≤ (1 : Int32) then
      (bnd (X8_isDown (xT xs 0)) fun y_3 st_4 =>
      nm (uT xs 0 st_4) fun xs_6 =>
      if y_3 = 0 then
        (bnd (X8_fallAfter (xT xs_6 0) (60 : Int32)) fun y_8 st_9 =>
        nm (uT xs_6 0 st_9) fun xs_11 =>
        if v1 = 0 then
          (X10_will_p44 xs_11 y_8)
        else
        if y_8 = (-4 : Int32) then
          (X10_will_p44 xs_11 y_8)
        else
        bnd (X8_fallSideAt (xT xs_11 0) ((gF (xT xs_11 0) 8) + y_8)) fun y_14 st_15 =>
        nm (uT xs_11 0 st_15) fun xs_17 =>
        some (y_14, xs_17))
      else
      some ((-3 : Int32), xs_6))
    else
    some ((-1 : Int32), xs)
abbrev rmX10_will : Room := { frames := 5, cells := 0, slots := 0, locals := 117 }
theorem hdX10_will : yX10_will.cls = RX10 ∧ yX10_will.cls ≠ "java/lang/invoke/MethodHandle" ∧ yX10_will.cls ≠ "java/lang/invoke/VarHandle" ∧ (parseMethodDescriptor yX10_will.desc).map (fun d => d.parameters.length) = some 1 := by decide +kernel
set_option maxRecDepth 100000 in
set_option maxHeartbeats 8000000 in
theorem okX10_will (z : Nat → Nat) (l : Launch) (D : va_G) (T : mT3) (b : Nat → Nat) {xa : XA} {xs : XS} {v1 : Int32} {r : Int32} {xs' : XS} (hR : xRel b xa xs) (heq : X10_will xs v1 = some (r, xs')) : hXi xSub z l D T b yX10_will wsX10_will rmX10_will [.ref (b 0), .int v1] xa xs r xs' := by
  refine xbody_i (plainFor_of_name (by decide)) rfl (Nat.le_of_ble_eq_true rfl) (fun p e s m args below meth c A Q hx hb hml hown hts hK hA hX hret ls hP hD hS hl => ?_)
  have hl : lv_has ls 3 [(0, .ref (b 0)), (1, .int v1)] := hl
  have hin10 : ∀ w ∈ wsX100, w ∈ wsX10_will := by decide +kernel
  have hin8 : ∀ w ∈ wsX80, w ∈ wsX10_will := by decide +kernel
  have f10 : (Cond.fieldLink RX10 10 RX10 (TX10 0).2.1 (TX10 0).2.2.1).before args s = true := hts (.fieldLink RX10 10 RX10 "now" "LLaidDownTheLane$Town;") (by decide +kernel)
  have f93 : (Cond.fieldLink RX10 93 RX8 (TX8 8).2.1 (TX8 8).2.2.1).before args s = true := hts (.fieldLink RX10 93 RX8 "minute" "I") (by decide +kernel)
  obtain ⟨xa0, hxa0⟩ : ∃ z : XA, z = xa := ⟨_, rfl⟩
  rw [← hxa0] at hret
  have hU : xSub xa0 xa := by rw [hxa0]; exact xSub.rf
  clear hxa0
  have b44 : ∀ (xs : XS) (v2 : Int32) (xa : XA) (H : Heap) (locs : List Loc) (ls : Array Slot), xRel b xa xs → xSub xa0 xa → va_P D vwCl (xW b T xa xs) H → va_D A (xW b T xa xs) → va_S A s.heap H locs → lv_has ls 3 [(2, .int v2)] → X10_will_p44 xs v2 = some (r, xs') → W p l e rmX10_will s m args below meth c H locs 0 0 Q (F0 m 44 ls []) := by
    intro xs v2 xa H locs ls hR hU hP hD hS hl heq
    unfold X10_will_p44 at heq
    refine lv_iload_n hx hb dX10_will_44 rfl (lv_at hl 0 rfl) ?_
    obtain ⟨heq, heq2⟩ := ret_h heq
    subst heq
    subst heq2
    exact hret 45 H locs ls xa hR hU hP hD hS rfl dX10_will_45
  obtain ⟨H, hH⟩ : ∃ H, H = s.heap := ⟨_, rfl⟩
  obtain ⟨locs, hlocs⟩ : ∃ z : List Loc, z = [] := ⟨_, rfl⟩
  have hS : va_S A s.heap H locs := by rw [hH, hlocs]; exact hS
  have hP : va_P D vwCl (xW b T xa xs) H := by rw [hH]; exact hP
  suffices h9 : W p l e rmX10_will s m args below meth c H locs 0 0 Q (F0 m 0 ls []) by rw [hH, hlocs] at h9; exact h9
  clear hH hlocs
  unfold X10_will at heq
  refine lv_iload_n hx hb dX10_will_0 rfl (lv_at hl 1 rfl) ?_
  refine lv_if_lt (tgt := 9) hx hb dX10_will_1 (by decide) (fun c_1 => ?_) (fun c_1 => ?_)
  · have heq := it_t c_1 heq
    refine lv_iconst (v := (-1 : Int32)) hx hb dX10_will_9 (by decide) ?_
    obtain ⟨heq, heq2⟩ := ret_h heq
    subst heq
    subst heq2
    exact hret 10 H locs ls xa hR hU hP hD hS rfl dX10_will_10
  have heq := it_f c_1 heq
  refine lv_iload_n hx hb dX10_will_4 rfl (lv_at hl 1 rfl) ?_
  refine lv_iconst (v := (1 : Int32)) hx hb dX10_will_5 (by decide) ?_
  refine lv_icmp_le (tgt := 11) hx hb dX10_will_6 (by decide) (fun c_2 => ?_) (fun c_2 => ?_)
  · have heq := it_t c_2 heq
    refine lv_aload_n hx hb dX10_will_11 rfl (lv_at hl 0 rfl) ?_
    refine va_get (D := D) (ci := 10) (v := .ref (b 3)) (C := RX10) (T := TX10) (N := 7) hx hb hts hin10 hown hK hP 0 rfl rfl 0 (by decide) f10 (fun _ h9 => h9) rfl dX10_will_12 ?_
    obtain ⟨y_3, st_4, h_5, heq⟩ := bnd_h heq
    refine h_vi (own := RX10) (As := []) (rest := []) (wr := xWr0 b T xa xs) hx hb hml hown hts (okX8_isDown z l D (fun j => b (3 + j)) T (fun j => some (xFo xa 0 j)) h_5) (cwV 0 hts gX10_will_X8_isDown rfl rfl rfl hdX8_isDown ⟨Nat.le_of_ble_eq_true rfl, Nat.le_of_ble_eq_true rfl⟩) hK hA hX hP hD hS (xp0 b T xa xs) (xq0 b T xa xs _) (ci := 8) (q0 := 0) rfl rfl rfl hl.1 rfl (Nat.le_of_ble_eq_true rfl) dX10_will_15 ⟨Nat.le_of_ble_eq_true rfl, Nat.le_of_ble_eq_true rfl⟩ (fun H locs hP hD hS => ?_)
    obtain ⟨xs_6, exs_6⟩ : ∃ z, z = uT xs 0 st_4 := ⟨_, rfl⟩
    have hR : xRel b xa (uT xs 0 st_4) := hR.uT _ _
    rw [← exs_6] at hP hD hR
    have heq := nm_h exs_6 heq
    refine lv_if_eq (tgt := 24) hx hb dX10_will_18 (by decide) (fun c_7 => ?_) (fun c_7 => ?_)
    · have heq := it_t c_7 heq
      refine lv_aload_n hx hb dX10_will_24 rfl (lv_at hl 0 rfl) ?_
      refine va_get (D := D) (ci := 10) (v := .ref (b 3)) (C := RX10) (T := TX10) (N := 7) hx hb hts hin10 hown hK hP 0 rfl rfl 0 (by decide) f10 (fun _ h9 => h9) rfl dX10_will_25 ?_
      refine lv_bipush (v := (60 : Int32)) hx hb dX10_will_28 (by decide) ?_
      obtain ⟨y_8, st_9, h_10, heq⟩ := bnd_h heq
      refine h_vi (own := RX10) (As := [.int (60 : Int32)]) (rest := []) (wr := xWr0 b T xa xs_6) hx hb hml hown hts (okX8_fallAfter z l D (fun j => b (3 + j)) T (fun j => some (xFo xa 0 j)) h_10) (cwV 1 hts gX10_will_X8_fallAfter rfl rfl rfl hdX8_fallAfter ⟨Nat.le_of_ble_eq_true rfl, Nat.le_of_ble_eq_true rfl⟩) hK hA hX hP hD hS (xp0 b T xa xs_6) (xq0 b T xa xs_6 _) (ci := 8) (q0 := 0) rfl rfl rfl hl.1 rfl (Nat.le_of_ble_eq_true rfl) dX10_will_30 ⟨Nat.le_of_ble_eq_true rfl, Nat.le_of_ble_eq_true rfl⟩ (fun H locs hP hD hS => ?_)
      obtain ⟨xs_11, exs_11⟩ : ∃ z, z = uT xs_6 0 st_9 := ⟨_, rfl⟩
      have hR : xRel b xa (uT xs_6 0 st_9) := hR.uT _ _
      rw [← exs_11] at hP hD hR
      have heq := nm_h exs_11 heq
      refine lv_istore_n (lv' := [(2, .int y_8), (0, .ref (b 0)), (1, .int v1)]) hx hb dX10_will_33 rfl hl (by decide) rfl (fun ls hl => ?_)
      refine lv_iload_n hx hb dX10_will_34 rfl (lv_at hl 2 rfl) ?_
      refine lv_if_eq (tgt := 44) hx hb dX10_will_35 (by decide) (fun c_12 => ?_) (fun c_12 => ?_)
      · have heq := it_t c_12 heq
        exact b44 xs_11 y_8 xa H locs ls hR hU hP hD hS (lv_sub hl [0] rfl) heq
      have heq := it_f c_12 heq
      refine lv_iload_n hx hb dX10_will_38 rfl (lv_at hl 0 rfl) ?_
      refine lv_bipush (v := (-4 : Int32)) hx hb dX10_will_39 (by decide) ?_
      refine lv_icmp_ne (tgt := 46) hx hb dX10_will_41 (by decide) (fun c_13 => ?_) (fun c_13 => ?_)
      · have heq := it_f c_13 heq
        refine lv_aload_n hx hb dX10_will_46 rfl (lv_at hl 1 rfl) ?_
        refine va_get (D := D) (ci := 10) (v := .ref (b 3)) (C := RX10) (T := TX10) (N := 7) hx hb hts hin10 hown hK hP 0 rfl rfl 0 (by decide) f10 (fun _ h9 => h9) rfl dX10_will_47 ?_
        refine lv_aload_n hx hb dX10_will_50 rfl (lv_at hl 1 rfl) ?_
        refine va_get (D := D) (ci := 10) (v := .ref (b 3)) (C := RX10) (T := TX10) (N := 7) hx hb hts hin10 hown hK hP 0 rfl rfl 0 (by decide) f10 (fun _ h9 => h9) rfl dX10_will_51 ?_
        refine va_get (D := D) (ci := 8) (v := .int (gF (xT xs_11 0) 8)) (C := RX8) (T := TX8) (N := 10) hx hb hts hin8 hown hK hP 3 rfl rfl 8 (by decide) f93 (fun _ h9 => h9) rfl dX10_will_54 ?_
        refine lv_iload_n hx hb dX10_will_57 rfl (lv_at hl 0 rfl) ?_
        refine lv_iadd hx hb dX10_will_58 ?_
        obtain ⟨y_14, st_15, h_16, heq⟩ := bnd_h heq
        refine h_vi (own := RX10) (As := [.int ((gF (xT xs_11 0) 8) + y_8)]) (rest := []) (wr := xWr0 b T xa xs_11) hx hb hml hown hts (okX8_fallSideAt z l D (fun j => b (3 + j)) T (fun j => some (xFo xa 0 j)) h_16) (cwV 1 hts gX10_will_X8_fallSideAt rfl rfl rfl hdX8_fallSideAt ⟨Nat.le_of_ble_eq_true rfl, Nat.le_of_ble_eq_true rfl⟩) hK hA hX hP hD hS (xp0 b T xa xs_11) (xq0 b T xa xs_11 _) (ci := 8) (q0 := 0) rfl rfl rfl hl.1 rfl (Nat.le_of_ble_eq_true rfl) dX10_will_59 ⟨Nat.le_of_ble_eq_true rfl, Nat.le_of_ble_eq_true rfl⟩ (fun H locs hP hD hS => ?_)
        obtain ⟨xs_17, exs_17⟩ : ∃ z, z = uT xs_11 0 st_15 := ⟨_, rfl⟩
        have hR : xRel b xa (uT xs_11 0 st_15) := hR.uT _ _
        rw [← exs_17] at hP hD hR
        have heq := nm_h exs_17 heq
        obtain ⟨heq, heq2⟩ := ret_h heq
        subst heq
        subst heq2
        exact hret 62 H locs ls xa hR hU hP hD hS rfl dX10_will_62
      have heq := it_t c_13 heq
      exact b44 xs_11 y_8 xa H locs ls hR hU hP hD hS (lv_sub hl [0] rfl) heq
    have heq := it_f c_7 heq
    refine lv_bipush (v := (-3 : Int32)) hx hb dX10_will_21 (by decide) ?_
    obtain ⟨heq, heq2⟩ := ret_h heq
    subst heq
    subst heq2
    exact hret 23 H locs ls xa hR hU hP hD hS rfl dX10_will_23
  have heq := it_f c_2 heq
  refine lv_iconst (v := (-1 : Int32)) hx hb dX10_will_9 (by decide) ?_
  obtain ⟨heq, heq2⟩ := ret_h heq
  subst heq
  subst heq2
  exact hret 10 H locs ls xa hR hU hP hD hS rfl dX10_will_10
set_option maxRecDepth 20000 in
theorem ggX10_propCuts_X6_init : GoodIn wsX10_propCuts wsX6_init := goodIn_r _ [9, 10, 11, 12, 13, 14, 15, 16, 17, 141, 142, 143, 144, 145, 146, 123, 147] (by decide +kernel) (by decide +kernel)
set_option maxRecDepth 20000 in
theorem gX10_propCuts_X6_init : GoodIn wsX10_propCuts (wsX6_init) := ggX10_propCuts_X6_init
set_option maxRecDepth 20000 in
theorem ggX10_propCuts_X0_kind : GoodIn wsX10_propCuts wsX0_kind := goodIn_r _ [21] (by decide +kernel) (by decide +kernel)
set_option maxRecDepth 20000 in
theorem gX10_propCuts_X0_kind : GoodIn wsX10_propCuts (wsV RX10 87 RX0 yX0_kind wsX0_kind) := goodIn_app (goodIn_of _ (by decide +kernel)) ggX10_propCuts_X0_kind
set_option maxRecDepth 20000 in
theorem ggX10_propCuts_X1_kind : GoodIn wsX10_propCuts wsX1_kind := goodIn_r _ [28] (by decide +kernel) (by decide +kernel)
set_option maxRecDepth 20000 in
theorem gX10_propCuts_X1_kind_u87X1 : GoodIn wsX10_propCuts (va_wsO RX10 87 RX1 "LaidDownTheLane$Brick" ⟨"LaidDownTheLane$Brick", "kind", "()I"⟩ yX1_kind wsX1_kind) := goodIn_app (goodIn_of _ (by decide +kernel)) ggX10_propCuts_X1_kind
set_option maxRecDepth 20000 in
theorem ggX10_propCuts_X2_kind : GoodIn wsX10_propCuts wsX2_kind := goodIn_r _ [32] (by decide +kernel) (by decide +kernel)
set_option maxRecDepth 20000 in
theorem gX10_propCuts_X2_kind_u87X2 : GoodIn wsX10_propCuts (va_wsO RX10 87 RX2 "LaidDownTheLane$Brick" ⟨"LaidDownTheLane$Brick", "kind", "()I"⟩ yX2_kind wsX2_kind) := goodIn_app (goodIn_of _ (by decide +kernel)) ggX10_propCuts_X2_kind
set_option maxRecDepth 20000 in
theorem ggX10_propCuts_X3_kind : GoodIn wsX10_propCuts wsX3_kind := goodIn_r _ [36] (by decide +kernel) (by decide +kernel)
set_option maxRecDepth 20000 in
theorem gX10_propCuts_X3_kind_u87X3 : GoodIn wsX10_propCuts (va_wsO RX10 87 RX3 "LaidDownTheLane$Brick" ⟨"LaidDownTheLane$Brick", "kind", "()I"⟩ yX3_kind wsX3_kind) := goodIn_app (goodIn_of _ (by decide +kernel)) ggX10_propCuts_X3_kind
set_option maxRecDepth 20000 in
theorem ggX10_propCuts_X4_kind : GoodIn wsX10_propCuts wsX4_kind := goodIn_r _ [40] (by decide +kernel) (by decide +kernel)
set_option maxRecDepth 20000 in
theorem gX10_propCuts_X4_kind_u87X4 : GoodIn wsX10_propCuts (va_wsO RX10 87 RX4 "LaidDownTheLane$Brick" ⟨"LaidDownTheLane$Brick", "kind", "()I"⟩ yX4_kind wsX4_kind) := goodIn_app (goodIn_of _ (by decide +kernel)) ggX10_propCuts_X4_kind
set_option maxRecDepth 20000 in
theorem ggX10_propCuts_X5_kind : GoodIn wsX10_propCuts wsX5_kind := goodIn_r _ [44] (by decide +kernel) (by decide +kernel)
set_option maxRecDepth 20000 in
theorem gX10_propCuts_X5_kind_u87X5 : GoodIn wsX10_propCuts (va_wsO RX10 87 RX5 "LaidDownTheLane$Brick" ⟨"LaidDownTheLane$Brick", "kind", "()I"⟩ yX5_kind wsX5_kind) := goodIn_app (goodIn_of _ (by decide +kernel)) ggX10_propCuts_X5_kind
set_option maxRecDepth 20000 in
theorem ggX10_propCuts_X6_kind : GoodIn wsX10_propCuts wsX6_kind := goodIn_r _ [47] (by decide +kernel) (by decide +kernel)
set_option maxRecDepth 20000 in
theorem gX10_propCuts_X6_kind_u87X6 : GoodIn wsX10_propCuts (va_wsO RX10 87 RX6 "LaidDownTheLane$Brick" ⟨"LaidDownTheLane$Brick", "kind", "()I"⟩ yX6_kind wsX6_kind) := goodIn_app (goodIn_of _ (by decide +kernel)) ggX10_propCuts_X6_kind
set_option maxRecDepth 20000 in
theorem ggX10_propCuts_X9_kind : GoodIn wsX10_propCuts wsX9_kind := goodIn_r _ [51] (by decide +kernel) (by decide +kernel)
set_option maxRecDepth 20000 in
theorem gX10_propCuts_X9_kind_u87X9 : GoodIn wsX10_propCuts (va_wsO RX10 87 RX9 "LaidDownTheLane$Brick" ⟨"LaidDownTheLane$Brick", "kind", "()I"⟩ yX9_kind wsX9_kind) := goodIn_app (goodIn_of _ (by decide +kernel)) ggX10_propCuts_X9_kind
set_option maxRecDepth 20000 in
theorem ggX10_propCuts_X8_replace : GoodIn wsX10_propCuts wsX8_replace := goodIn_r _ [56, 57, 58, 59, 60, 61, 62, 12, 63, 64, 65, 66, 67, 68, 27, 69, 70, 71, 72, 73, 31, 74, 75, 76, 35, 77, 78, 79, 80, 81, 82, 83, 39, 84, 85, 86, 87, 88, 3, 89, 90, 91, 92, 93, 94, 95, 50, 96, 97, 98, 99, 100, 101, 102, 103, 104, 105, 106, 107, 108, 109, 110, 111, 112, 113, 114, 115, 116, 117, 43, 118, 119, 120, 121, 122, 131, 132, 133, 134, 135, 136, 137, 138, 139, 140, 141, 142, 143, 144, 145, 146, 123, 147] (by decide +kernel) (by decide +kernel)
set_option maxRecDepth 20000 in
theorem gX10_propCuts_X8_replace : GoodIn wsX10_propCuts (wsV RX10 180 RX8 yX8_replace wsX8_replace) := goodIn_app (goodIn_of _ (by decide +kernel)) ggX10_propCuts_X8_replace
theorem dX10_propCuts_0 : decode cX10_propCuts 0 = .ok (.new 347, 3) := by decide +kernel
theorem dX10_propCuts_3 : decode cX10_propCuts 3 = .ok (.dup, 1) := by decide +kernel
theorem dX10_propCuts_4 : decode cX10_propCuts 4 = .ok (.iload_n 1, 1) := by decide +kernel
theorem dX10_propCuts_5 : decode cX10_propCuts 5 = .ok (.invokespecial 349, 3) := by decide +kernel
theorem dX10_propCuts_8 : decode cX10_propCuts 8 = .ok (.astore_n 2, 1) := by decide +kernel
theorem dX10_propCuts_9 : decode cX10_propCuts 9 = .ok (.iconst 0, 1) := by decide +kernel
theorem dX10_propCuts_10 : decode cX10_propCuts 10 = .ok (.istore_n 3, 1) := by decide +kernel
theorem dX10_propCuts_11 : decode cX10_propCuts 11 = .ok (.iload_n 3, 1) := by decide +kernel
theorem dX10_propCuts_12 : decode cX10_propCuts 12 = .ok (.bipush 12, 2) := by decide +kernel
theorem dX10_propCuts_14 : decode cX10_propCuts 14 = .ok (.if_icmp .ge 34, 3) := by decide +kernel
theorem dX10_propCuts_17 : decode cX10_propCuts 17 = .ok (.aload_n 0, 1) := by decide +kernel
theorem dX10_propCuts_18 : decode cX10_propCuts 18 = .ok (.getfield 10, 3) := by decide +kernel
theorem dX10_propCuts_21 : decode cX10_propCuts 21 = .ok (.getfield 84, 3) := by decide +kernel
theorem dX10_propCuts_24 : decode cX10_propCuts 24 = .ok (.iload_n 3, 1) := by decide +kernel
theorem dX10_propCuts_25 : decode cX10_propCuts 25 = .ok (.aaload, 1) := by decide +kernel
theorem dX10_propCuts_26 : decode cX10_propCuts 26 = .ok (.invokevirtual 87, 3) := by decide +kernel
theorem dX10_propCuts_29 : decode cX10_propCuts 29 = .ok (.iconst 1, 1) := by decide +kernel
theorem dX10_propCuts_30 : decode cX10_propCuts 30 = .ok (.if_icmp .ne 12, 3) := by decide +kernel
theorem dX10_propCuts_33 : decode cX10_propCuts 33 = .ok (.aload_n 0, 1) := by decide +kernel
theorem dX10_propCuts_34 : decode cX10_propCuts 34 = .ok (.getfield 16, 3) := by decide +kernel
theorem dX10_propCuts_37 : decode cX10_propCuts 37 = .ok (.iload_n 3, 1) := by decide +kernel
theorem dX10_propCuts_38 : decode cX10_propCuts 38 = .ok (.aload_n 2, 1) := by decide +kernel
theorem dX10_propCuts_39 : decode cX10_propCuts 39 = .ok (.invokevirtual 180, 3) := by decide +kernel
theorem dX10_propCuts_42 : decode cX10_propCuts 42 = .ok (.iinc 3 1, 3) := by decide +kernel
theorem dX10_propCuts_45 : decode cX10_propCuts 45 = .ok (.goto (-34), 3) := by decide +kernel
theorem dX10_propCuts_48 : decode cX10_propCuts 48 = .ok (.return_, 1) := by decide +kernel
/-! X10 propCuts -/
def X10_propCuts_p42 (k11 : XS → BK → Int32 → Option (Unit × XS)) (xs : XS) (v2 : BK) (v3 : Int32) : Option (Unit × XS) :=
    nm (v3 + (1 : Int32)) fun x_1 =>
    k11 xs v2 x_1
def X10_propCuts_p48 (xs : XS) : Option (Unit × XS) :=
    some ((), xs)
def X10_propCuts_p11 : Nat → XS → BK → Int32 → Option (Unit × XS)
  | 0, _, _, _ => none
  | n + 1, xs, v2, v3 =>
    if (12 : Int32) ≤ v3 then
      (X10_propCuts_p48 xs)
    else
    inr v3 12 <|
    if (kiB (xB xs 0 v3.toNatClampNeg)) = (1 : Int32) then
      (bnd (X8_replace_1 xs v3 v2) fun _ xs_6 =>
      X10_propCuts_p42 (fun xs v2 v3 => X10_propCuts_p11 n xs v2 v3) xs_6 v2 v3)
    else
    X10_propCuts_p42 (fun xs v2 v3 => X10_propCuts_p11 n xs v2 v3) xs v2 v3
theorem X10_propCuts_p11_s (n : Nat) (xs : XS) (v2 : BK) (v3 : Int32) : X10_propCuts_p11 (n + 1) xs v2 v3 =
    (if (12 : Int32) ≤ v3 then
      (X10_propCuts_p48 xs)
    else
    inr v3 12 <|
    if (kiB (xB xs 0 v3.toNatClampNeg)) = (1 : Int32) then
      (bnd (X8_replace_1 xs v3 v2) fun _ xs_6 =>
      X10_propCuts_p42 (fun xs v2 v3 => X10_propCuts_p11 n xs v2 v3) xs_6 v2 v3)
    else
    X10_propCuts_p42 (fun xs v2 v3 => X10_propCuts_p11 n xs v2 v3) xs v2 v3) := rfl
def X10_propCuts (xs : XS) (v1 : Int32) : Option (Unit × XS) :=
    X10_propCuts_p11 13 xs ((2, v1) : BK) (0 : Int32)
abbrev rmX10_propCuts : Room := { frames := 3, cells := 1, slots := 1, locals := 62 }
theorem hdX10_propCuts : yX10_propCuts.cls = RX10 ∧ yX10_propCuts.cls ≠ "java/lang/invoke/MethodHandle" ∧ yX10_propCuts.cls ≠ "java/lang/invoke/VarHandle" ∧ (parseMethodDescriptor yX10_propCuts.desc).map (fun d => d.parameters.length) = some 1 := by decide +kernel
set_option maxRecDepth 100000 in
set_option maxHeartbeats 8000000 in
theorem okX10_propCuts (z : Nat → Nat) (l : Launch) (D : va_G) (T : mT3) (b : Nat → Nat) {xa : XA} {xs : XS} {v1 : Int32} {xs' : XS} (hR : xRel b xa xs) (heq : X10_propCuts xs v1 = some ((), xs')) : hXv xSub z l D T b yX10_propCuts wsX10_propCuts rmX10_propCuts [.ref (b 0), .int v1] xa xs xs' := by
  refine xbody_v (plainFor_of_name (by decide)) rfl (Nat.le_of_ble_eq_true rfl) (fun p e s m args below meth c A Q hx hb hml hown hts hK hA hX hret ls hP hD hS hl => ?_)
  have hl : lv_has ls 4 [(0, .ref (b 0)), (1, .int v1)] := hl
  have hin10 : ∀ w ∈ wsX100, w ∈ wsX10_propCuts := by decide +kernel
  have hin6 : ∀ w ∈ wsX60, w ∈ wsX10_propCuts := by decide +kernel
  have hin8 : ∀ w ∈ wsX80, w ∈ wsX10_propCuts := by decide +kernel
  have f10 : (Cond.fieldLink RX10 10 RX10 (TX10 0).2.1 (TX10 0).2.2.1).before args s = true := hts (.fieldLink RX10 10 RX10 "now" "LLaidDownTheLane$Town;") (by decide +kernel)
  have f16 : (Cond.fieldLink RX10 16 RX10 (TX10 1).2.1 (TX10 1).2.2.1).before args s = true := hts (.fieldLink RX10 16 RX10 "trial" "LLaidDownTheLane$Town;") (by decide +kernel)
  have f84 : (Cond.fieldLink RX10 84 RX8 (TX8 0).2.1 (TX8 0).2.2.1).before args s = true := hts (.fieldLink RX10 84 RX8 "foot" "[LLaidDownTheLane$Brick;") (by decide +kernel)
  have hw0 := hts (.classLink RX10 347 RX6) (by decide +kernel)
  have hw1 := hts (.instantiable RX6 1) (by decide +kernel)
  have hw2 := hts (.initialized RX6) (by decide +kernel)
  have hw3 := hts (.methodLink RX10 349 yX6_init) (by decide +kernel)
  have hw4 := hts (.instanceMethod yX6_init) (by decide +kernel)
  obtain ⟨xa0, hxa0⟩ : ∃ z : XA, z = xa := ⟨_, rfl⟩
  rw [← hxa0] at hret
  have hU : xSub xa0 xa := by rw [hxa0]; exact xSub.rf
  clear hxa0
  have b42 : ∀ (k11 : XS → BK → Int32 → Option (Unit × XS)) (hk11 : ∀ (xs : XS) (v2 : BK) (v3 : Int32) (xa : XA) (v2q : Nat) (v2h : (v2q, v2) ∈ xPl xa) (H : Heap) (locs : List Loc) (ls : Array Slot), xRel b xa xs → xSub xa0 xa → va_P D vwCl (xW b T xa xs) H → va_D A (xW b T xa xs) → va_S A s.heap H locs → lv_has ls 4 [(0, .ref (b 0)), (2, .ref v2q), (3, .int v3)] → k11 xs v2 v3 = some ((), xs') → W p l e rmX10_propCuts s m args below meth c H locs 1 1 Q (F0 m 11 ls [])), ∀ (xs : XS) (v2 : BK) (v3 : Int32) (xa : XA) (v2q : Nat) (v2h : (v2q, v2) ∈ xPl xa) (H : Heap) (locs : List Loc) (ls : Array Slot), xRel b xa xs → xSub xa0 xa → va_P D vwCl (xW b T xa xs) H → va_D A (xW b T xa xs) → va_S A s.heap H locs → lv_has ls 4 [(0, .ref (b 0)), (2, .ref v2q), (3, .int v3)] → X10_propCuts_p42 k11 xs v2 v3 = some ((), xs') → W p l e rmX10_propCuts s m args below meth c H locs 1 1 Q (F0 m 42 ls []) := by
    intro k11 hk11 xs v2 v3 xa v2q v2h H locs ls hR hU hP hD hS hl heq
    unfold X10_propCuts_p42 at heq
    obtain ⟨x_1, ex_1⟩ : ∃ y : Int32, y = v3 + (1 : Int32) := ⟨_, rfl⟩
    have heq := nm_h ex_1 heq
    refine lv_iinc (v := x_1) (lv' := [(3, .int x_1), (0, .ref (b 0)), (2, .ref v2q)]) hx hb dX10_propCuts_42 hl (k := 2) rfl (by rw [ex_1]; rfl) (by decide) rfl (fun ls hl => ?_)
    refine lv_goto (tgt := 11) hx hb dX10_propCuts_45 (by decide) ?_
    refine W.widen (k := 1) (n := 1) (by first | decide | omega) (by first | decide | omega) ?_
    exact hk11 xs v2 x_1 xa v2q v2h H locs ls hR hU hP hD hS (lv_sub hl [1, 2, 0] rfl) heq
  have b48 : ∀ (xs : XS) (xa : XA) (H : Heap) (locs : List Loc) (ls : Array Slot), xRel b xa xs → xSub xa0 xa → va_P D vwCl (xW b T xa xs) H → va_D A (xW b T xa xs) → va_S A s.heap H locs → lv_has ls 4 [] → X10_propCuts_p48 xs = some ((), xs') → W p l e rmX10_propCuts s m args below meth c H locs 1 1 Q (F0 m 48 ls []) := by
    intro xs xa H locs ls hR hU hP hD hS hl heq
    unfold X10_propCuts_p48 at heq
    obtain ⟨-, heq2⟩ := ret_h heq
    subst heq2
    refine W.widen (k := 1) (n := 1) (by first | decide | omega) (by first | decide | omega) ?_
    exact hret 48 H locs ls xa hR hU hP hD hS dX10_propCuts_48
  have b11 : ∀ (n : Nat), ∀ (xs : XS) (v2 : BK) (v3 : Int32) (xa : XA) (v2q : Nat) (v2h : (v2q, v2) ∈ xPl xa) (H : Heap) (locs : List Loc) (ls : Array Slot), xRel b xa xs → xSub xa0 xa → va_P D vwCl (xW b T xa xs) H → va_D A (xW b T xa xs) → va_S A s.heap H locs → lv_has ls 4 [(0, .ref (b 0)), (2, .ref v2q), (3, .int v3)] → X10_propCuts_p11 n xs v2 v3 = some ((), xs') → W p l e rmX10_propCuts s m args below meth c H locs 1 1 Q (F0 m 11 ls []) := by
    intro n
    induction n with
    | zero => intro xs v2 v3 xa v2q v2h H locs ls hR hU hP hD hS hl heq; cases heq
    | succ n ih =>
      intro xs v2 v3 xa v2q v2h H locs ls hR hU hP hD hS hl heq
      rw [X10_propCuts_p11_s] at heq
      refine lv_iload_n hx hb dX10_propCuts_11 rfl (lv_at hl 2 rfl) ?_
      refine lv_bipush (v := (12 : Int32)) hx hb dX10_propCuts_12 (by decide) ?_
      refine lv_icmp_ge (tgt := 48) hx hb dX10_propCuts_14 (by decide) (fun c_2 => ?_) (fun c_2 => ?_)
      · have heq := it_t c_2 heq
        refine W.widen (k := 1) (n := 1) (by first | decide | omega) (by first | decide | omega) ?_
        exact b48 xs xa H locs ls hR hU hP hD hS (lv_sub hl [] rfl) heq
      have heq := it_f c_2 heq
      refine lv_aload_n hx hb dX10_propCuts_17 rfl (lv_at hl 0 rfl) ?_
      refine va_get (D := D) (ci := 10) (v := .ref (b 3)) (C := RX10) (T := TX10) (N := 7) hx hb hts hin10 hown hK hP 0 rfl rfl 0 (by decide) f10 (fun _ h9 => h9) rfl dX10_propCuts_18 ?_
      refine va_get (D := D) (ci := 8) (v := .ref (b 4)) (C := RX8) (T := TX8) (N := 10) hx hb hts hin8 hown hK hP 3 rfl rfl 0 (by decide) f84 (fun _ h9 => h9) rfl dX10_propCuts_21 ?_
      refine lv_iload_n hx hb dX10_propCuts_24 rfl (lv_at hl 2 rfl) ?_
      obtain ⟨n_3, heq⟩ := inr_h heq
      have hb_4 := hR.1 0 (by decide) v3.toNatClampNeg (in_lt n_3)
      refine va_aldq (C := RX0) (n := 12) (f := fun j => some (xFo xa 0 j)) hx hb hK hP 4 1 rfl rfl n_3 dX10_propCuts_25 ?_
      refine W.eq (g2 := F0 m 26 ls [.ref (xFo xa 0 v3.toNatClampNeg)]) rfl ?_
      suffices hcont : ∀ (H : Heap) (locs : List Loc), va_P D vwCl (xW b T xa xs) H → va_S A s.heap H locs → W p l e rmX10_propCuts s m args below meth c H locs 1 1 Q (F0 m 29 ls [.int (kiB (xB xs 0 v3.toNatClampNeg))]) by
        have hm := xMem b T xs hb_4
        have h8 := hR.2.2.2.2 _ hb_4
        obtain ⟨kk, ekk⟩ : ∃ z, z = (xB xs 0 v3.toNatClampNeg) := ⟨_, rfl⟩
        rw [← ekk] at hm h8 hcont
        obtain ⟨kd, fg⟩ := kk
        rcases (show kd = 0 ∨ kd = 1 ∨ kd = 2 ∨ kd = 3 ∨ kd = 4 ∨ kd = 5 ∨ kd = 6 ∨ kd = 7 from by have := h8; simp only at this; omega) with rfl | rfl | rfl | rfl | rfl | rfl | rfl | rfl
        · exact x_brick (own := RX10) (rest := []) hx hb hml hown hts (okX0_kind_0 z l D T _ fg) (Or.inl (cwV 0 hts gX10_propCuts_X0_kind rfl rfl rfl hdX0_kind ⟨Nat.le_of_ble_eq_true rfl, Nat.le_of_ble_eq_true rfl⟩)) hK hA hX hP hD hS hm rfl hl.1 (Nat.le_of_ble_eq_true rfl) dX10_propCuts_26 ⟨by show 1 + 0 ≤ 1; omega, by show 1 + 0 ≤ 1; omega⟩ hcont
        · exact x_brick (own := RX10) (rest := []) hx hb hml hown hts (okX2_kind_2 z l D T _ fg) (Or.inr ⟨_, _, va_cwO 0 hts gX10_propCuts_X2_kind_u87X2 rfl rfl rfl (b0 := cX0_kind) (m0 := 1) (r0 := some .int) (by decide +kernel) (by decide +kernel) ⟨Nat.le_of_ble_eq_true rfl, Nat.le_of_ble_eq_true rfl⟩⟩) hK hA hX hP hD hS hm rfl hl.1 (Nat.le_of_ble_eq_true rfl) dX10_propCuts_26 ⟨by show 1 + 0 ≤ 1; omega, by show 1 + 0 ≤ 1; omega⟩ hcont
        · exact x_brick (own := RX10) (rest := []) hx hb hml hown hts (okX6_kind_6 z l D T _ fg) (Or.inr ⟨_, _, va_cwO 0 hts gX10_propCuts_X6_kind_u87X6 rfl rfl rfl (b0 := cX0_kind) (m0 := 1) (r0 := some .int) (by decide +kernel) (by decide +kernel) ⟨Nat.le_of_ble_eq_true rfl, Nat.le_of_ble_eq_true rfl⟩⟩) hK hA hX hP hD hS hm rfl hl.1 (Nat.le_of_ble_eq_true rfl) dX10_propCuts_26 ⟨by show 1 + 0 ≤ 1; omega, by show 1 + 0 ≤ 1; omega⟩ hcont
        · exact x_brick (own := RX10) (rest := []) hx hb hml hown hts (okX4_kind_4 z l D T _ fg) (Or.inr ⟨_, _, va_cwO 0 hts gX10_propCuts_X4_kind_u87X4 rfl rfl rfl (b0 := cX0_kind) (m0 := 1) (r0 := some .int) (by decide +kernel) (by decide +kernel) ⟨Nat.le_of_ble_eq_true rfl, Nat.le_of_ble_eq_true rfl⟩⟩) hK hA hX hP hD hS hm rfl hl.1 (Nat.le_of_ble_eq_true rfl) dX10_propCuts_26 ⟨by show 1 + 0 ≤ 1; omega, by show 1 + 0 ≤ 1; omega⟩ hcont
        · exact x_brick (own := RX10) (rest := []) hx hb hml hown hts (okX1_kind_1 z l D T _ fg) (Or.inr ⟨_, _, va_cwO 0 hts gX10_propCuts_X1_kind_u87X1 rfl rfl rfl (b0 := cX0_kind) (m0 := 1) (r0 := some .int) (by decide +kernel) (by decide +kernel) ⟨Nat.le_of_ble_eq_true rfl, Nat.le_of_ble_eq_true rfl⟩⟩) hK hA hX hP hD hS hm rfl hl.1 (Nat.le_of_ble_eq_true rfl) dX10_propCuts_26 ⟨by show 1 + 0 ≤ 1; omega, by show 1 + 0 ≤ 1; omega⟩ hcont
        · exact x_brick (own := RX10) (rest := []) hx hb hml hown hts (okX3_kind_3 z l D T _ fg) (Or.inr ⟨_, _, va_cwO 0 hts gX10_propCuts_X3_kind_u87X3 rfl rfl rfl (b0 := cX0_kind) (m0 := 1) (r0 := some .int) (by decide +kernel) (by decide +kernel) ⟨Nat.le_of_ble_eq_true rfl, Nat.le_of_ble_eq_true rfl⟩⟩) hK hA hX hP hD hS hm rfl hl.1 (Nat.le_of_ble_eq_true rfl) dX10_propCuts_26 ⟨by show 1 + 0 ≤ 1; omega, by show 1 + 0 ≤ 1; omega⟩ hcont
        · exact x_brick (own := RX10) (rest := []) hx hb hml hown hts (okX5_kind_5 z l D T _ fg) (Or.inr ⟨_, _, va_cwO 0 hts gX10_propCuts_X5_kind_u87X5 rfl rfl rfl (b0 := cX0_kind) (m0 := 1) (r0 := some .int) (by decide +kernel) (by decide +kernel) ⟨Nat.le_of_ble_eq_true rfl, Nat.le_of_ble_eq_true rfl⟩⟩) hK hA hX hP hD hS hm rfl hl.1 (Nat.le_of_ble_eq_true rfl) dX10_propCuts_26 ⟨by show 1 + 0 ≤ 1; omega, by show 1 + 0 ≤ 1; omega⟩ hcont
        · exact x_brick (own := RX10) (rest := []) hx hb hml hown hts (okX9_kind_9 z l D T _ fg) (Or.inr ⟨_, _, va_cwO 0 hts gX10_propCuts_X9_kind_u87X9 rfl rfl rfl (b0 := cX0_kind) (m0 := 1) (r0 := some .int) (by decide +kernel) (by decide +kernel) ⟨Nat.le_of_ble_eq_true rfl, Nat.le_of_ble_eq_true rfl⟩⟩) hK hA hX hP hD hS hm rfl hl.1 (Nat.le_of_ble_eq_true rfl) dX10_propCuts_26 ⟨by show 1 + 0 ≤ 1; omega, by show 1 + 0 ≤ 1; omega⟩ hcont
      intro H locs hP hS
      refine lv_iconst (v := (1 : Int32)) hx hb dX10_propCuts_29 (by decide) ?_
      refine lv_icmp_ne (tgt := 42) hx hb dX10_propCuts_30 (by decide) (fun c_5 => ?_) (fun c_5 => ?_)
      · have heq := it_f c_5 heq
        refine W.widen (k := 1) (n := 1) (by first | decide | omega) (by first | decide | omega) ?_
        exact b42 (fun xs v2 v3 => X10_propCuts_p11 n xs v2 v3) ih xs v2 v3 xa v2q v2h H locs ls hR hU hP hD hS (lv_sub hl [0, 1, 2] rfl) heq
      have heq := it_t c_5 heq
      refine lv_aload_n hx hb dX10_propCuts_33 rfl (lv_at hl 0 rfl) ?_
      refine va_get (D := D) (ci := 10) (v := .ref (b 10)) (C := RX10) (T := TX10) (N := 7) hx hb hts hin10 hown hK hP 0 rfl rfl 1 (by decide) f16 (fun _ h9 => h9) rfl dX10_propCuts_34 ?_
      refine lv_iload_n hx hb dX10_propCuts_37 rfl (lv_at hl 2 rfl) ?_
      refine lv_aload_n hx hb dX10_propCuts_38 rfl (lv_at hl 1 rfl) ?_
      obtain ⟨⟨⟩, xs_6, h_7, heq⟩ := bnd_h heq
      refine x_vv (own := RX10) (As := [.int v3, .ref v2q]) (rest := []) hx hb hml hown hts (okX8_replace_1 z l D T b hR v2h h_7) (cwV 2 hts gX10_propCuts_X8_replace rfl rfl rfl hdX8_replace ⟨Nat.le_of_ble_eq_true rfl, Nat.le_of_ble_eq_true rfl⟩) hK hA hX hP hD hS (ci := 8) (q0 := 10) rfl rfl rfl hl.1 rfl (Nat.le_of_ble_eq_true rfl) dX10_propCuts_39 ⟨by show 1 + 0 ≤ 1; omega, by show 1 + 0 ≤ 1; omega⟩ (fun xa_8 H locs hR hsxa_8 hP hD hS => ?_)
      refine W.widen (k := 1) (n := 1) (Nat.le_refl _) (Nat.le_refl _) ?_
      have hU := xSub.tr hU hsxa_8
      refine W.widen (k := 1) (n := 1) (by first | decide | omega) (by first | decide | omega) ?_
      exact b42 (fun xs v2 v3 => X10_propCuts_p11 n xs v2 v3) ih xs_6 v2 v3 xa_8 v2q (hsxa_8.1 _ v2h) H locs ls hR hU hP hD hS (lv_sub hl [0, 1, 2] rfl) heq
  obtain ⟨H, hH⟩ : ∃ H, H = s.heap := ⟨_, rfl⟩
  obtain ⟨locs, hlocs⟩ : ∃ z : List Loc, z = [] := ⟨_, rfl⟩
  have hS : va_S A s.heap H locs := by rw [hH, hlocs]; exact hS
  have hP : va_P D vwCl (xW b T xa xs) H := by rw [hH]; exact hP
  suffices h9 : W p l e rmX10_propCuts s m args below meth c H locs 0 0 Q (F0 m 0 ls []) by rw [hH, hlocs] at h9; exact h9
  clear hH hlocs
  unfold X10_propCuts at heq
  refine va_new (ci := 6) (fs := [.int 0]) (C := RX6) (T := TX6) (N := 1) hx hb hts hin6 tyX6 tyX6_ok hown hw0 hw1 hw2 hK hP hD hS hA rfl (fun j hj => by rcases (show j = 0 by omega) with rfl <;> rfl) (by show 0 + 1 ≤ 1; omega) (by show 0 + 1 ≤ 1; omega) dX10_propCuts_0 (fun q_10 H hP hD hS => ?_)
  refine lv_dup hx hb dX10_propCuts_3 rfl ?_
  refine lv_iload_n hx hb dX10_propCuts_4 rfl (lv_at hl 1 rfl) ?_
  refine x_init (own := RX10) (k := 2) (rest := [.ref q_10]) hx hb hml hown hts (okX6_init_6 z l D T q_10 0 v1) (cwI 1 hts gX10_propCuts_X6_init rfl rfl rfl hw2 hw3 hw4 rfl (by decide +kernel) ⟨Nat.le_of_ble_eq_true rfl, Nat.le_of_ble_eq_true rfl⟩) hK hA hX hP hD hS hl.1 (Nat.le_of_ble_eq_true rfl) dX10_propCuts_5 ⟨by show (0 + 1) + 0 ≤ 1; omega, by show (0 + 1) + 0 ≤ 1; omega⟩ (fun H locs hP hD hS => ?_)
  refine W.widen (k := (0 + 1)) (n := (0 + 1)) (Nat.le_refl _) (Nat.le_refl _) ?_
  obtain ⟨xa_11, exa_11⟩ : ∃ z, z = xGrow xa q_10 ((2, v1) : BK) := ⟨_, rfl⟩
  have hR : xRel b (xGrow xa q_10 ((2, v1) : BK)) xs := hR.grow (Nat.le_of_ble_eq_true rfl)
  have hm_12 : (q_10, ((2, v1) : BK)) ∈ xPl (xGrow xa q_10 ((2, v1) : BK)) := xGrow.mem
  have hsxa_11 : xSub xa xa_11 := by rw [exa_11]; exact xSub.grow
  rw [← exa_11] at hP hD hR hm_12
  have hU := xSub.tr hU hsxa_11
  refine lv_astore_n (lv' := [(2, .ref q_10), (0, .ref (b 0)), (1, .int v1)]) hx hb dX10_propCuts_8 rfl hl (by decide) rfl (fun ls hl => ?_)
  refine lv_iconst (v := (0 : Int32)) hx hb dX10_propCuts_9 (by decide) ?_
  refine lv_istore_n (lv' := [(3, .int (0 : Int32)), (2, .ref q_10), (0, .ref (b 0)), (1, .int v1)]) hx hb dX10_propCuts_10 rfl hl (by decide) rfl (fun ls hl => ?_)
  refine W.widen (k := 1) (n := 1) (by first | decide | omega) (by first | decide | omega) ?_
  exact b11 13 xs ((2, v1) : BK) (0 : Int32) xa_11 q_10 hm_12 H locs ls hR hU hP hD hS (lv_sub hl [2, 1, 0] rfl) heq
