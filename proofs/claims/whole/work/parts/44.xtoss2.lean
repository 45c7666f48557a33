theorem hdX0_fail : yX0_fail.cls = RX0 ∧ yX0_fail.cls ≠ "java/lang/invoke/MethodHandle" ∧ yX0_fail.cls ≠ "java/lang/invoke/VarHandle" ∧ (parseMethodDescriptor yX0_fail.desc).map (fun d => d.parameters.length) = some 0 := by decide +kernel
theorem dX10_toss_0 : decode cX10_toss 0 = .ok (.aload_n 0, 1) := by decide +kernel
theorem dX10_toss_1 : decode cX10_toss 1 = .ok (.iload_n 1, 1) := by decide +kernel
theorem dX10_toss_2 : decode cX10_toss 2 = .ok (.invokevirtual 108, 3) := by decide +kernel
theorem dX10_toss_5 : decode cX10_toss 5 = .ok (.astore_n 2, 1) := by decide +kernel
theorem dX10_toss_6 : decode cX10_toss 6 = .ok (.aload_n 2, 1) := by decide +kernel
theorem dX10_toss_7 : decode cX10_toss 7 = .ok (.ifnonnull 9, 3) := by decide +kernel
theorem dX10_toss_10 : decode cX10_toss 10 = .ok (.aload_n 0, 1) := by decide +kernel
theorem dX10_toss_11 : decode cX10_toss 11 = .ok (.iload_n 1, 1) := by decide +kernel
theorem dX10_toss_12 : decode cX10_toss 12 = .ok (.invokevirtual 47, 3) := by decide +kernel
theorem dX10_toss_15 : decode cX10_toss 15 = .ok (.ireturn, 1) := by decide +kernel
theorem dX10_toss_16 : decode cX10_toss 16 = .ok (.aload_n 2, 1) := by decide +kernel
theorem dX10_toss_17 : decode cX10_toss 17 = .ok (.invokevirtual 311, 3) := by decide +kernel
theorem dX10_toss_20 : decode cX10_toss 20 = .ok (.bipush (-15), 2) := by decide +kernel
theorem dX10_toss_22 : decode cX10_toss 22 = .ok (.ireturn, 1) := by decide +kernel
theorem dX10_toss_23 : decode cX10_toss 23 = .ok (.astore_n 3, 1) := by decide +kernel
theorem dX10_toss_24 : decode cX10_toss 24 = .ok (.aload_n 2, 1) := by decide +kernel
theorem dX10_toss_25 : decode cX10_toss 25 = .ok (.getfield 90, 3) := by decide +kernel
theorem dX10_toss_28 : decode cX10_toss 28 = .ok (.ireturn, 1) := by decide +kernel
theorem dX10_toss_29 : decode cX10_toss 29 = .ok (.astore_n 3, 1) := by decide +kernel
theorem dX10_toss_30 : decode cX10_toss 30 = .ok (.bipush 100, 2) := by decide +kernel
theorem dX10_toss_32 : decode cX10_toss 32 = .ok (.aload_n 2, 1) := by decide +kernel
theorem dX10_toss_33 : decode cX10_toss 33 = .ok (.getfield 90, 3) := by decide +kernel
theorem dX10_toss_36 : decode cX10_toss 36 = .ok (.iadd, 1) := by decide +kernel
theorem dX10_toss_37 : decode cX10_toss 37 = .ok (.ireturn, 1) := by decide +kernel
theorem dX10_toss_38 : decode cX10_toss 38 = .ok (.astore_n 3, 1) := by decide +kernel
theorem dX10_toss_39 : decode cX10_toss 39 = .ok (.sipush 200, 3) := by decide +kernel
theorem dX10_toss_42 : decode cX10_toss 42 = .ok (.aload_n 2, 1) := by decide +kernel
theorem dX10_toss_43 : decode cX10_toss 43 = .ok (.invokevirtual 308, 3) := by decide +kernel
theorem dX10_toss_46 : decode cX10_toss 46 = .ok (.iadd, 1) := by decide +kernel
theorem dX10_toss_47 : decode cX10_toss 47 = .ok (.ireturn, 1) := by decide +kernel
theorem ggX10_toss_X10_kindOn : GoodIn wsX10_toss wsX10_kindOn := goodIn_r _ [9, 10, 11, 12, 8, 13, 115, 116, 117, 118, 119, 120, 121] (by decide +kernel) (by decide +kernel)
theorem gX10_toss_X10_kindOn : GoodIn wsX10_toss (wsV RX10 108 RX10 yX10_kindOn wsX10_kindOn) := goodIn_app (goodIn_of _ (by decide +kernel)) ggX10_toss_X10_kindOn
theorem ggX10_toss_X10_refusal : GoodIn wsX10_toss wsX10_refusal := goodIn_r _ [17, 11, 12, 8, 13, 18, 19, 20, 21, 10, 22, 115, 116, 117, 118, 119, 120, 121] (by decide +kernel) (by decide +kernel)
theorem gX10_toss_X10_refusal : GoodIn wsX10_toss (wsV RX10 47 RX10 yX10_refusal wsX10_refusal) := goodIn_app (goodIn_of _ (by decide +kernel)) ggX10_toss_X10_refusal
theorem ggX10_toss_X0_fail : GoodIn wsX10_toss wsX0_fail := goodIn_ca (goodIn_r _ [27, 28, 29, 30, 107, 108, 109, 110, 111, 112, 113, 114] (by decide +kernel) (by decide +kernel)) (goodIn_sub (fun _ h => List.mem_cons_of_mem _ (List.mem_append_left _ (List.mem_append_left _ (List.mem_append_right _ h)))) (by decide +kernel))
theorem gX10_toss_X0_fail : GoodIn wsX10_toss (wsV RX10 311 RX0 yX0_fail wsX0_fail) := goodIn_app (goodIn_of _ (by decide +kernel)) ggX10_toss_X0_fail
theorem gX10_toss_X0_fail_u311X1 : GoodIn wsX10_toss (va_wsU RX10 311 RX1 "LaidDownTheLane$Brick" ⟨"LaidDownTheLane$Brick", "fail", "()V"⟩ yX0_fail wsX0_fail) := goodIn_app (goodIn_of _ (by decide +kernel)) ggX10_toss_X0_fail
theorem ggX10_toss_X2_fail : GoodIn wsX10_toss wsX2_fail := goodIn_r _ [38] (by decide +kernel) (by decide +kernel)
theorem gX10_toss_X2_fail_u311X2 : GoodIn wsX10_toss (va_wsO RX10 311 RX2 "LaidDownTheLane$Brick" ⟨"LaidDownTheLane$Brick", "fail", "()V"⟩ yX2_fail wsX2_fail) := goodIn_app (goodIn_of _ (by decide +kernel)) ggX10_toss_X2_fail
theorem gX10_toss_X0_fail_u311X3 : GoodIn wsX10_toss (va_wsU RX10 311 RX3 "LaidDownTheLane$Brick" ⟨"LaidDownTheLane$Brick", "fail", "()V"⟩ yX0_fail wsX0_fail) := goodIn_app (goodIn_of _ (by decide +kernel)) ggX10_toss_X0_fail
theorem ggX10_toss_X6_fail : GoodIn wsX10_toss wsX6_fail := goodIn_ca (goodIn_r _ [43, 44, 45, 46, 47, 107, 108, 109, 110, 111, 112, 113, 114] (by decide +kernel) (by decide +kernel)) (goodIn_sub (fun _ h => List.mem_cons_of_mem _ (List.mem_append_left _ (List.mem_append_right _ h))) (by decide +kernel))
theorem gX10_toss_X6_fail_u311X4 : GoodIn wsX10_toss (va_wsO RX10 311 RX4 "LaidDownTheLane$Brick" ⟨"LaidDownTheLane$Brick", "fail", "()V"⟩ yX6_fail wsX6_fail) := goodIn_app (goodIn_of _ (by decide +kernel)) ggX10_toss_X6_fail
theorem ggX10_toss_X5_fail : GoodIn wsX10_toss wsX5_fail := goodIn_ca (goodIn_r _ [51, 52, 53, 54, 55, 107, 108, 109, 110, 111, 112, 113, 114] (by decide +kernel) (by decide +kernel)) (goodIn_sub (fun _ h => List.mem_cons_of_mem _ (List.mem_append_right _ h)) (by decide +kernel))
theorem gX10_toss_X5_fail_u311X5 : GoodIn wsX10_toss (va_wsO RX10 311 RX5 "LaidDownTheLane$Brick" ⟨"LaidDownTheLane$Brick", "fail", "()V"⟩ yX5_fail wsX5_fail) := goodIn_app (goodIn_of _ (by decide +kernel)) ggX10_toss_X5_fail
theorem gX10_toss_X6_fail_u311X6 : GoodIn wsX10_toss (va_wsO RX10 311 RX6 "LaidDownTheLane$Brick" ⟨"LaidDownTheLane$Brick", "fail", "()V"⟩ yX6_fail wsX6_fail) := goodIn_app (goodIn_of _ (by decide +kernel)) ggX10_toss_X6_fail
theorem gX10_toss_X0_fail_u311X9 : GoodIn wsX10_toss (va_wsU RX10 311 RX9 "LaidDownTheLane$Brick" ⟨"LaidDownTheLane$Brick", "fail", "()V"⟩ yX0_fail wsX0_fail) := goodIn_app (goodIn_of _ (by decide +kernel)) ggX10_toss_X0_fail
theorem ggX10_toss_X0_price : GoodIn wsX10_toss wsX0_price := goodIn_r _ [61] (by decide +kernel) (by decide +kernel)
theorem gX10_toss_X0_price : GoodIn wsX10_toss (wsV RX10 308 RX0 yX0_price wsX0_price) := goodIn_app (goodIn_of _ (by decide +kernel)) ggX10_toss_X0_price
theorem ggX10_toss_X1_price : GoodIn wsX10_toss wsX1_price := goodIn_r _ [68, 69, 63, 70, 59, 26, 61] (by decide +kernel) (by decide +kernel)
theorem gX10_toss_X1_price_u308X1 : GoodIn wsX10_toss (va_wsO RX10 308 RX1 "LaidDownTheLane$Brick" ⟨"LaidDownTheLane$Brick", "price", "()I"⟩ yX1_price wsX1_price) := goodIn_app (goodIn_of _ (by decide +kernel)) ggX10_toss_X1_price
theorem ggX10_toss_X2_price : GoodIn wsX10_toss wsX2_price := goodIn_r _ [73, 74, 63, 75, 59, 26, 61] (by decide +kernel) (by decide +kernel)
theorem gX10_toss_X2_price_u308X2 : GoodIn wsX10_toss (va_wsO RX10 308 RX2 "LaidDownTheLane$Brick" ⟨"LaidDownTheLane$Brick", "price", "()I"⟩ yX2_price wsX2_price) := goodIn_app (goodIn_of _ (by decide +kernel)) ggX10_toss_X2_price
theorem ggX10_toss_X3_price : GoodIn wsX10_toss wsX3_price := goodIn_r _ [79, 80, 63, 81, 59, 26, 61] (by decide +kernel) (by decide +kernel)
theorem gX10_toss_X3_price_u308X3 : GoodIn wsX10_toss (va_wsO RX10 308 RX3 "LaidDownTheLane$Brick" ⟨"LaidDownTheLane$Brick", "price", "()I"⟩ yX3_price wsX3_price) := goodIn_app (goodIn_of _ (by decide +kernel)) ggX10_toss_X3_price
theorem ggX10_toss_X4_price : GoodIn wsX10_toss wsX4_price := goodIn_r _ [85, 86, 87, 88, 89, 42, 90, 46, 47, 91, 63, 92, 59, 26, 61, 107, 108, 109, 110, 111, 112, 113, 114] (by decide +kernel) (by decide +kernel)
theorem gX10_toss_X4_price_u308X4 : GoodIn wsX10_toss (va_wsO RX10 308 RX4 "LaidDownTheLane$Brick" ⟨"LaidDownTheLane$Brick", "price", "()I"⟩ yX4_price wsX4_price) := goodIn_app (goodIn_of _ (by decide +kernel)) ggX10_toss_X4_price
theorem ggX10_toss_X5_price : GoodIn wsX10_toss wsX5_price := goodIn_r _ [95, 96, 87, 97, 89, 42, 90, 46, 47, 91, 63, 92, 59, 26, 61, 107, 108, 109, 110, 111, 112, 113, 114] (by decide +kernel) (by decide +kernel)
theorem gX10_toss_X5_price_u308X5 : GoodIn wsX10_toss (va_wsO RX10 308 RX5 "LaidDownTheLane$Brick" ⟨"LaidDownTheLane$Brick", "price", "()I"⟩ yX5_price wsX5_price) := goodIn_app (goodIn_of _ (by decide +kernel)) ggX10_toss_X5_price
theorem ggX10_toss_X6_price : GoodIn wsX10_toss wsX6_price := goodIn_r _ [90, 46, 47, 91, 63, 92, 59, 26, 61, 107, 108, 109, 110, 111, 112, 113, 114] (by decide +kernel) (by decide +kernel)
theorem gX10_toss_X6_price_u308X6 : GoodIn wsX10_toss (va_wsO RX10 308 RX6 "LaidDownTheLane$Brick" ⟨"LaidDownTheLane$Brick", "price", "()I"⟩ yX6_price wsX6_price) := goodIn_app (goodIn_of _ (by decide +kernel)) ggX10_toss_X6_price
theorem ggX10_toss_X9_price : GoodIn wsX10_toss wsX9_price := goodIn_r _ [102, 103, 104, 105, 63, 106, 59, 26, 61, 107, 108, 109, 110, 111, 112, 113, 114] (by decide +kernel) (by decide +kernel)
theorem gX10_toss_X9_price_u308X9 : GoodIn wsX10_toss (va_wsO RX10 308 RX9 "LaidDownTheLane$Brick" ⟨"LaidDownTheLane$Brick", "price", "()I"⟩ yX9_price wsX9_price) := goodIn_app (goodIn_of _ (by decide +kernel)) ggX10_toss_X9_price
/-! X10 toss -/
def tossB (k : BK) : Int32 := match k.1 with
  | 0 => if k.2 = 0 then (-15 : Int32) else k.2
  | 1 => (-15 : Int32)
  | 2 => if k.2 = 0 then (-15 : Int32) else (100 : Int32) + k.2
  | 3 => if k.2 = 0 then (-15 : Int32) else (100 : Int32) + k.2
  | 4 => if k.2 = 0 then (-15 : Int32) else k.2
  | 5 => if k.2 = 0 then (-15 : Int32) else k.2
  | 6 => if k.2 = 0 then (-15 : Int32) else (200 : Int32) + prB k
  | _ => if k.2 = 0 then (-15 : Int32) else k.2
def X10_toss (xs : XS) (v1 : Int32) : Option (Int32 × XS) :=
    bnd (X10_kindOn xs v1) fun y_1 xs_2 =>
    ob y_1
      (bnd (X10_refusal xs_2 v1) fun y_10 xs_11 =>
      some (y_10, xs_11))
    fun k_6 =>
    some (tossB k_6, xs_2)
abbrev rmX10_toss : Room := { frames := 7, cells := 1, slots := 6, locals := 102 }
theorem hdX10_toss : yX10_toss.cls = RX10 ∧ yX10_toss.cls ≠ "java/lang/invoke/MethodHandle" ∧ yX10_toss.cls ≠ "java/lang/invoke/VarHandle" ∧ (parseMethodDescriptor yX10_toss.desc).map (fun d => d.parameters.length) = some 1 := by decide +kernel
set_option maxRecDepth 100000 in
set_option maxHeartbeats 8000000 in
theorem okX10_toss (z e0 : Nat → Nat) (l : Launch) (hl0 : l.stackTraces = false) (D : va_G) (T : mT3) (b : Nat → Nat) {xa : XA} {xs : XS} {v1 : Int32} {r : Int32} {xs' : XS} (hR : xRel b xa xs) (heq : X10_toss xs v1 = some (r, xs')) : hXE xSub z e0 l D T b yX10_toss wsX10_toss rmX10_toss [.ref (b 0), .int v1] xa xs r xs' := by
  refine xbody_E (by decide) rfl (Nat.le_of_ble_eq_true rfl) (fun p e s m args below meth c A Q hx hb hml hown hts hK hA hX hE htab hret ls hP hD hS hl => ?_)
  have hl : lv_has ls 4 [(0, .ref (b 0)), (1, .int v1)] := hl
  obtain ⟨H, hH⟩ : ∃ H, H = s.heap := ⟨_, rfl⟩
  obtain ⟨locs, hlocs⟩ : ∃ z : List Loc, z = [] := ⟨_, rfl⟩
  have hS : va_S A s.heap H locs := by rw [hH, hlocs]; exact hS
  have hP : va_P D vwCl (xW b T xa xs) H := by rw [hH]; exact hP
  suffices h9 : W p l e rmX10_toss s m args below meth c H locs 0 0 Q (F0 m 0 ls []) by rw [hH, hlocs] at h9; exact h9
  clear hH hlocs
  unfold X10_toss at heq
  refine lv_aload_n hx hb dX10_toss_0 rfl (lv_at hl 0 rfl) ?_
  refine lv_iload_n hx hb dX10_toss_1 rfl (lv_at hl 1 rfl) ?_
  obtain ⟨y_1, xs_2, h_3, heq⟩ := bnd_h heq
  refine x_vb (own := RX10) (As := [.int v1]) (rest := []) hx hb hml hown hts (okX10_kindOn z l D T b hR h_3) (cwV 1 hts gX10_toss_X10_kindOn rfl rfl rfl hdX10_kindOn ⟨Nat.le_of_ble_eq_true rfl, Nat.le_of_ble_eq_true rfl⟩) hK hA hX hP hD hS (ci := 10) (q0 := 0) rfl rfl rfl hl.1 rfl (Nat.le_of_ble_eq_true rfl) dX10_toss_2 ⟨Nat.le_of_ble_eq_true rfl, Nat.le_of_ble_eq_true rfl⟩ (fun xa_4 H locs o_5 hR hU ho_5 hP hD hS => ?_)
  refine lv_astoreQ_n (lv' := [(2, va_rf o_5), (0, .ref (b 0)), (1, .int v1)]) hx hb dX10_toss_5 rfl hl (by decide) rfl (fun ls hl => ?_)
  refine lv_aloadQ_n (r := o_5) hx hb dX10_toss_6 rfl (lv_at hl 0 rfl) ?_
  rcases obB_h ho_5 heq with ⟨h_7, heq⟩ | ⟨k_6, ⟨q_8, h_7, h_9⟩, heq⟩
  · rw [h_7] at hl ⊢
    have hl : lv_has ls 4 [(2, .null), (0, .ref (b 0)), (1, .int v1)] := hl
    refine lv_ifnonnullN hx hb dX10_toss_7 ?_
    refine lv_aload_n hx hb dX10_toss_10 rfl (lv_at hl 1 rfl) ?_
    refine lv_iload_n hx hb dX10_toss_11 rfl (lv_at hl 2 rfl) ?_
    obtain ⟨y_10, xs_11, h_12, heq⟩ := bnd_h heq
    refine x_vi (own := RX10) (As := [.int v1]) (rest := []) hx hb hml hown hts (okX10_refusal z l D T b hR h_12) (cwV 1 hts gX10_toss_X10_refusal rfl rfl rfl hdX10_refusal ⟨Nat.le_of_ble_eq_true rfl, Nat.le_of_ble_eq_true rfl⟩) hK hA hX hP hD hS (ci := 10) (q0 := 0) rfl rfl rfl hl.1 rfl (Nat.le_of_ble_eq_true rfl) dX10_toss_12 ⟨Nat.le_of_ble_eq_true rfl, Nat.le_of_ble_eq_true rfl⟩ (fun xa_13 H locs hR hsxa_13 hP hD hS => ?_)
    have hU := xSub.tr hU hsxa_13
    obtain ⟨heq, heq2⟩ := ret_h heq
    subst heq
    subst heq2
    exact hret 15 H locs ls xa_13 _ _ (Nat.zero_le _) (Nat.zero_le _) hR hU hP hD hS rfl dX10_toss_15
  rw [h_7] at hl ⊢
  have hl : lv_has ls 4 [(2, .ref q_8), (0, .ref (b 0)), (1, .int v1)] := hl
  refine lv_ifnonnull (tgt := 16) hx hb dX10_toss_7 (by decide) ?_
  refine lv_aload_n hx hb dX10_toss_16 rfl (lv_at hl 0 rfl) ?_
  have hm := xMem b T xs_2 h_9
  have h8 := hR.2.2.2.2 _ h_9
  obtain ⟨heqR, heq2⟩ := ret_h heq
  subst heq2
  clear heq
  obtain ⟨kd, fg⟩ := k_6
  have hTab : c.exceptionTable.toList = [⟨16, 22, 23, 281⟩, ⟨16, 22, 29, 291⟩, ⟨16, 22, 38, 314⟩] := htab
  have k281 := hts (.classLink RX10 281 "java/lang/IllegalArgumentException") (by decide +kernel)
  have k291 := hts (.classLink RX10 291 "java/lang/IllegalStateException") (by decide +kernel)
  have k314 := hts (.classLink RX10 314 "java/lang/UnsupportedOperationException") (by decide +kernel)
  have c20 : tossB (kd, fg) = (-15 : Int32) → ∀ (H : Heap) (locs : List Loc), va_P D vwCl (xW b T xa_4 xs_2) H → va_S A s.heap H locs → W p l e rmX10_toss s m args below meth c H locs 1 6 Q (F0 m 20 ls []) := by
    intro ht H locs hP hS
    refine lv_bipush (v := (-15 : Int32)) hx hb dX10_toss_20 (by decide) ?_
    rw [ht] at heqR
    subst heqR
    exact hret 22 H locs ls xa_4 _ _ (Nat.le_refl _) (Nat.le_refl _) hR hU hP hD hS rfl dX10_toss_22
  have c23 : tossB (kd, fg) = fg → ∀ (H : Heap) (locs : List Loc) (q9 : Addr), va_P D vwCl (xW b T xa_4 xs_2) H → va_S A s.heap H locs → (∀ (H : Heap) (locs : List Loc) (ls : Array Slot), va_P D vwCl (xW b T xa_4 xs_2) H → va_S A s.heap H locs → lv_has ls 4 [(3, .ref q9), (2, .ref q_8), (0, .ref (b 0)), (1, .int v1)] → W p l e rmX10_toss s m args below meth c H locs 1 6 Q (F0 m 28 ls [.int fg]) → W p l e rmX10_toss s m args below meth c H locs 1 6 Q (F0 m 25 ls [.ref q_8])) → W p l e rmX10_toss s m args below meth c H locs 1 6 Q (F0 m 23 ls [.ref q9]) := by
    intro ht H locs q9 hP hS hg
    refine lv_astore_n (lv' := [(3, .ref q9), (2, .ref q_8), (0, .ref (b 0)), (1, .int v1)]) hx hb dX10_toss_23 rfl hl (by decide) rfl (fun ls hl => ?_)
    refine lv_aload_n hx hb dX10_toss_24 rfl (lv_at hl 1 rfl) ?_
    refine hg H locs ls hP hS hl ?_
    rw [ht] at heqR
    subst heqR
    exact hret 28 H locs ls xa_4 _ _ (Nat.le_refl _) (Nat.le_refl _) hR hU hP hD hS rfl dX10_toss_28
  have c29 : tossB (kd, fg) = (100 : Int32) + fg → ∀ (H : Heap) (locs : List Loc) (q9 : Addr), va_P D vwCl (xW b T xa_4 xs_2) H → va_S A s.heap H locs → (∀ (H : Heap) (locs : List Loc) (ls : Array Slot), va_P D vwCl (xW b T xa_4 xs_2) H → va_S A s.heap H locs → lv_has ls 4 [(3, .ref q9), (2, .ref q_8), (0, .ref (b 0)), (1, .int v1)] → W p l e rmX10_toss s m args below meth c H locs 1 6 Q (F0 m 36 ls [.int fg, .int 100]) → W p l e rmX10_toss s m args below meth c H locs 1 6 Q (F0 m 33 ls [.ref q_8, .int 100])) → W p l e rmX10_toss s m args below meth c H locs 1 6 Q (F0 m 29 ls [.ref q9]) := by
    intro ht H locs q9 hP hS hg
    refine lv_astore_n (lv' := [(3, .ref q9), (2, .ref q_8), (0, .ref (b 0)), (1, .int v1)]) hx hb dX10_toss_29 rfl hl (by decide) rfl (fun ls hl => ?_)
    refine lv_bipush (v := (100 : Int32)) hx hb dX10_toss_30 (by decide) ?_
    refine lv_aload_n hx hb dX10_toss_32 rfl (lv_at hl 1 rfl) ?_
    refine hg H locs ls hP hS hl ?_
    refine lv_iadd hx hb dX10_toss_36 ?_
    rw [ht] at heqR
    subst heqR
    exact hret 37 H locs ls xa_4 _ _ (Nat.le_refl _) (Nat.le_refl _) hR hU hP hD hS rfl dX10_toss_37
  have c38 : tossB (kd, fg) = (200 : Int32) + prB (kd, fg) → ∀ (H : Heap) (locs : List Loc) (q9 : Addr), va_P D vwCl (xW b T xa_4 xs_2) H → va_S A s.heap H locs → (∀ (H : Heap) (locs : List Loc) (ls : Array Slot), va_P D vwCl (xW b T xa_4 xs_2) H → va_S A s.heap H locs → lv_has ls 4 [(3, .ref q9), (2, .ref q_8), (0, .ref (b 0)), (1, .int v1)] → (∀ (H : Heap) (locs : List Loc), va_P D vwCl (xW b T xa_4 xs_2) H → va_S A s.heap H locs → W p l e rmX10_toss s m args below meth c H locs 1 6 Q (F0 m 46 ls [.int (prB (kd, fg)), .int 200])) → W p l e rmX10_toss s m args below meth c H locs 1 6 Q (F0 m 43 ls [.ref q_8, .int 200])) → W p l e rmX10_toss s m args below meth c H locs 1 6 Q (F0 m 38 ls [.ref q9]) := by
    intro ht H locs q9 hP hS hg
    refine lv_astore_n (lv' := [(3, .ref q9), (2, .ref q_8), (0, .ref (b 0)), (1, .int v1)]) hx hb dX10_toss_38 rfl hl (by decide) rfl (fun ls hl => ?_)
    refine lv_sipush (v := (200 : Int32)) hx hb dX10_toss_39 (by decide) ?_
    refine lv_aload_n hx hb dX10_toss_42 rfl (lv_at hl 1 rfl) ?_
    refine hg H locs ls hP hS hl (fun H locs hP hS => ?_)
    refine lv_iadd hx hb dX10_toss_46 ?_
    rw [ht] at heqR
    subst heqR
    exact hret 47 H locs ls xa_4 _ _ (Nat.le_refl _) (Nat.le_refl _) hR hU hP hD hS rfl dX10_toss_47
  rcases (show kd = 0 ∨ kd = 1 ∨ kd = 2 ∨ kd = 3 ∨ kd = 4 ∨ kd = 5 ∨ kd = 6 ∨ kd = 7 from by have := h8; simp only at this; omega) with rfl | rfl | rfl | rfl | rfl | rfl | rfl | rfl
  · obtain ⟨j, hj⟩ := List.getElem?_of_mem hm
    exact x_fail (own := RX10) (rest := []) hx hb hml hown hts (okX0_fail_0 z e0 l hl0 D T _ fg) (Or.inl (cwV 0 hts gX10_toss_X0_fail rfl rfl rfl hdX0_fail ⟨Nat.le_of_ble_eq_true rfl, Nat.le_of_ble_eq_true rfl⟩)) hK hA hX hE hP hD hS hm rfl hl.1 (Nat.le_of_ble_eq_true rfl) dX10_toss_17 ⟨Nat.le_of_ble_eq_true rfl, Nat.le_of_ble_eq_true rfl⟩ (fun hno H1 locs1 q9 ce hP1 hS1 hce hcv hcl => vx_catch (own := RX10) (name := "java/lang/IllegalArgumentException") (E := "java/lang/IllegalArgumentException") hown [] ⟨16, 22, 23, 281⟩ [⟨16, 22, 29, 291⟩, ⟨16, 22, 38, 314⟩] hTab (fun w hw => nomatch hw) (by decide) (by decide) k281 (va_Nw.use rfl (hE.1 (.castable "java/lang/IllegalArgumentException" "java/lang/IllegalArgumentException") (by decide +kernel))) hce hcv hcl (c23 (if_neg hno) H1 locs1 q9 hP1 hS1 (fun H locs ls hP hS hl kk9 => va_get (D := D) (ci := 0) (v := .int fg) (C := RX0) (T := TX0) (N := 1) hx hb hts (by decide +kernel) hown hK hP j hj rfl 0 (by decide) (hts (.fieldLink RX10 90 RX0 "figure" "I") (by decide +kernel)) (fun _ h9 => h9) rfl dX10_toss_25 kk9))) (fun hno => c20 (if_pos hno))
  · obtain ⟨j, hj⟩ := List.getElem?_of_mem hm
    exact x_fail (own := RX10) (rest := []) hx hb hml hown hts (okX2_fail_2 z e0 l hl0 D T _ fg) (Or.inr ⟨_, _, va_cwO 0 hts gX10_toss_X2_fail_u311X2 rfl rfl rfl (b0 := cX0_fail) (m0 := 1) (r0 := none) (by decide +kernel) (by decide +kernel) ⟨Nat.le_of_ble_eq_true rfl, Nat.le_of_ble_eq_true rfl⟩⟩) hK hA hX hE hP hD hS hm rfl hl.1 (Nat.le_of_ble_eq_true rfl) dX10_toss_17 ⟨Nat.le_of_ble_eq_true rfl, Nat.le_of_ble_eq_true rfl⟩ (fun hno => absurd trivial hno) (fun _ => c20 rfl)
  · obtain ⟨j, hj⟩ := List.getElem?_of_mem hm
    exact x_fail (own := RX10) (rest := []) hx hb hml hown hts (okX6_fail_6 z e0 l hl0 D T _ fg) (Or.inr ⟨_, _, va_cwO 0 hts gX10_toss_X6_fail_u311X6 rfl rfl rfl (b0 := cX0_fail) (m0 := 1) (r0 := none) (by decide +kernel) (by decide +kernel) ⟨Nat.le_of_ble_eq_true rfl, Nat.le_of_ble_eq_true rfl⟩⟩) hK hA hX hE hP hD hS hm rfl hl.1 (Nat.le_of_ble_eq_true rfl) dX10_toss_17 ⟨Nat.le_of_ble_eq_true rfl, Nat.le_of_ble_eq_true rfl⟩ (fun hno H1 locs1 q9 ce hP1 hS1 hce hcv hcl => vx_catch (own := RX10) (name := "java/lang/IllegalStateException") (E := "java/lang/IllegalStateException") hown [⟨16, 22, 23, 281⟩] ⟨16, 22, 29, 291⟩ [⟨16, 22, 38, 314⟩] hTab (fun w hw => by rw [List.mem_singleton.mp hw]; exact Or.inr ⟨by decide, _, k281, hE.2.2.2.2.2.2.2.2.1⟩) (by decide) (by decide) k291 (va_Nw.use rfl (hE.1 (.castable "java/lang/IllegalStateException" "java/lang/IllegalStateException") (by decide +kernel))) hce hcv hcl (c29 (if_neg hno) H1 locs1 q9 hP1 hS1 (fun H locs ls hP hS hl kk9 => va_get (D := D) (ci := 6) (v := .int fg) (C := RX6) (T := TX6) (N := 1) hx hb hts (by decide +kernel) hown hK hP j hj rfl 0 (by decide) (hts (.fieldLink RX10 90 RX0 "figure" "I") (by decide +kernel)) (fun _ h9 => h9) rfl dX10_toss_33 kk9))) (fun hno => c20 (if_pos hno))
  · obtain ⟨j, hj⟩ := List.getElem?_of_mem hm
    exact x_fail (own := RX10) (rest := []) hx hb hml hown hts (okX6_fail_4 z e0 l hl0 D T _ fg) (Or.inr ⟨_, _, va_cwO 0 hts gX10_toss_X6_fail_u311X4 rfl rfl rfl (b0 := cX0_fail) (m0 := 1) (r0 := none) (by decide +kernel) (by decide +kernel) ⟨Nat.le_of_ble_eq_true rfl, Nat.le_of_ble_eq_true rfl⟩⟩) hK hA hX hE hP hD hS hm rfl hl.1 (Nat.le_of_ble_eq_true rfl) dX10_toss_17 ⟨Nat.le_of_ble_eq_true rfl, Nat.le_of_ble_eq_true rfl⟩ (fun hno H1 locs1 q9 ce hP1 hS1 hce hcv hcl => vx_catch (own := RX10) (name := "java/lang/IllegalStateException") (E := "java/lang/IllegalStateException") hown [⟨16, 22, 23, 281⟩] ⟨16, 22, 29, 291⟩ [⟨16, 22, 38, 314⟩] hTab (fun w hw => by rw [List.mem_singleton.mp hw]; exact Or.inr ⟨by decide, _, k281, hE.2.2.2.2.2.2.2.2.1⟩) (by decide) (by decide) k291 (va_Nw.use rfl (hE.1 (.castable "java/lang/IllegalStateException" "java/lang/IllegalStateException") (by decide +kernel))) hce hcv hcl (c29 (if_neg hno) H1 locs1 q9 hP1 hS1 (fun H locs ls hP hS hl kk9 => va_get (D := D) (ci := 4) (v := .int fg) (C := RX4) (T := TX4) (N := 1) hx hb hts (by decide +kernel) hown hK hP j hj rfl 0 (by decide) (hts (.fieldLink RX10 90 RX0 "figure" "I") (by decide +kernel)) (fun _ h9 => h9) rfl dX10_toss_33 kk9))) (fun hno => c20 (if_pos hno))
  · obtain ⟨j, hj⟩ := List.getElem?_of_mem hm
    exact x_fail (own := RX10) (rest := []) hx hb hml hown hts (okX0_fail_1 z e0 l hl0 D T _ fg) (Or.inr ⟨_, _, va_cwU 0 hts gX10_toss_X0_fail_u311X1 rfl rfl rfl rfl (by decide +kernel) ⟨Nat.le_of_ble_eq_true rfl, Nat.le_of_ble_eq_true rfl⟩⟩) hK hA hX hE hP hD hS hm rfl hl.1 (Nat.le_of_ble_eq_true rfl) dX10_toss_17 ⟨Nat.le_of_ble_eq_true rfl, Nat.le_of_ble_eq_true rfl⟩ (fun hno H1 locs1 q9 ce hP1 hS1 hce hcv hcl => vx_catch (own := RX10) (name := "java/lang/IllegalArgumentException") (E := "java/lang/IllegalArgumentException") hown [] ⟨16, 22, 23, 281⟩ [⟨16, 22, 29, 291⟩, ⟨16, 22, 38, 314⟩] hTab (fun w hw => nomatch hw) (by decide) (by decide) k281 (va_Nw.use rfl (hE.1 (.castable "java/lang/IllegalArgumentException" "java/lang/IllegalArgumentException") (by decide +kernel))) hce hcv hcl (c23 (if_neg hno) H1 locs1 q9 hP1 hS1 (fun H locs ls hP hS hl kk9 => va_get (D := D) (ci := 1) (v := .int fg) (C := RX1) (T := TX1) (N := 1) hx hb hts (by decide +kernel) hown hK hP j hj rfl 0 (by decide) (hts (.fieldLink RX10 90 RX0 "figure" "I") (by decide +kernel)) (fun _ h9 => h9) rfl dX10_toss_25 kk9))) (fun hno => c20 (if_pos hno))
  · obtain ⟨j, hj⟩ := List.getElem?_of_mem hm
    exact x_fail (own := RX10) (rest := []) hx hb hml hown hts (okX0_fail_3 z e0 l hl0 D T _ fg) (Or.inr ⟨_, _, va_cwU 0 hts gX10_toss_X0_fail_u311X3 rfl rfl rfl rfl (by decide +kernel) ⟨Nat.le_of_ble_eq_true rfl, Nat.le_of_ble_eq_true rfl⟩⟩) hK hA hX hE hP hD hS hm rfl hl.1 (Nat.le_of_ble_eq_true rfl) dX10_toss_17 ⟨Nat.le_of_ble_eq_true rfl, Nat.le_of_ble_eq_true rfl⟩ (fun hno H1 locs1 q9 ce hP1 hS1 hce hcv hcl => vx_catch (own := RX10) (name := "java/lang/IllegalArgumentException") (E := "java/lang/IllegalArgumentException") hown [] ⟨16, 22, 23, 281⟩ [⟨16, 22, 29, 291⟩, ⟨16, 22, 38, 314⟩] hTab (fun w hw => nomatch hw) (by decide) (by decide) k281 (va_Nw.use rfl (hE.1 (.castable "java/lang/IllegalArgumentException" "java/lang/IllegalArgumentException") (by decide +kernel))) hce hcv hcl (c23 (if_neg hno) H1 locs1 q9 hP1 hS1 (fun H locs ls hP hS hl kk9 => va_get (D := D) (ci := 3) (v := .int fg) (C := RX3) (T := TX3) (N := 1) hx hb hts (by decide +kernel) hown hK hP j hj rfl 0 (by decide) (hts (.fieldLink RX10 90 RX0 "figure" "I") (by decide +kernel)) (fun _ h9 => h9) rfl dX10_toss_25 kk9))) (fun hno => c20 (if_pos hno))
  · obtain ⟨j, hj⟩ := List.getElem?_of_mem hm
    exact x_fail (own := RX10) (rest := []) hx hb hml hown hts (okX5_fail_5 z e0 l hl0 D T _ fg) (Or.inr ⟨_, _, va_cwO 0 hts gX10_toss_X5_fail_u311X5 rfl rfl rfl (b0 := cX0_fail) (m0 := 1) (r0 := none) (by decide +kernel) (by decide +kernel) ⟨Nat.le_of_ble_eq_true rfl, Nat.le_of_ble_eq_true rfl⟩⟩) hK hA hX hE hP hD hS hm rfl hl.1 (Nat.le_of_ble_eq_true rfl) dX10_toss_17 ⟨Nat.le_of_ble_eq_true rfl, Nat.le_of_ble_eq_true rfl⟩ (fun hno H1 locs1 q9 ce hP1 hS1 hce hcv hcl => vx_catch (own := RX10) (name := "java/lang/UnsupportedOperationException") (E := "java/lang/UnsupportedOperationException") hown [⟨16, 22, 23, 281⟩, ⟨16, 22, 29, 291⟩] ⟨16, 22, 38, 314⟩ [] hTab (fun w hw => by
        rcases List.mem_cons.mp hw with h | h
        · rw [h]; exact Or.inr ⟨by decide, _, k281, hE.2.2.2.2.2.2.2.2.2.1⟩
        · rw [List.mem_singleton.mp h]; exact Or.inr ⟨by decide, _, k291, hE.2.2.2.2.2.2.2.2.2.2⟩) (by decide) (by decide) k314 (va_Nw.use rfl (hE.1 (.castable "java/lang/UnsupportedOperationException" "java/lang/UnsupportedOperationException") (by decide +kernel))) hce hcv hcl (c38 (if_neg hno) H1 locs1 q9 hP1 hS1 (fun H locs ls hP hS hl kk9 => x_brick (own := RX10) (rest := [.int 200]) hx hb hml hown hts (okX5_price_5 z l D T _ fg) (Or.inr ⟨_, _, va_cwO 0 hts gX10_toss_X5_price_u308X5 rfl rfl rfl (b0 := cX0_price) (m0 := 1) (r0 := some .int) (by decide +kernel) (by decide +kernel) ⟨Nat.le_of_ble_eq_true rfl, Nat.le_of_ble_eq_true rfl⟩⟩) hK hA hX hP hD hS hm rfl hl.1 (Nat.le_of_ble_eq_true rfl) dX10_toss_43 ⟨Nat.le_of_ble_eq_true rfl, Nat.le_of_ble_eq_true rfl⟩ kk9))) (fun hno => c20 (if_pos hno))
  · obtain ⟨j, hj⟩ := List.getElem?_of_mem hm
    exact x_fail (own := RX10) (rest := []) hx hb hml hown hts (okX0_fail_9 z e0 l hl0 D T _ fg) (Or.inr ⟨_, _, va_cwU 0 hts gX10_toss_X0_fail_u311X9 rfl rfl rfl rfl (by decide +kernel) ⟨Nat.le_of_ble_eq_true rfl, Nat.le_of_ble_eq_true rfl⟩⟩) hK hA hX hE hP hD hS hm rfl hl.1 (Nat.le_of_ble_eq_true rfl) dX10_toss_17 ⟨Nat.le_of_ble_eq_true rfl, Nat.le_of_ble_eq_true rfl⟩ (fun hno H1 locs1 q9 ce hP1 hS1 hce hcv hcl => vx_catch (own := RX10) (name := "java/lang/IllegalArgumentException") (E := "java/lang/IllegalArgumentException") hown [] ⟨16, 22, 23, 281⟩ [⟨16, 22, 29, 291⟩, ⟨16, 22, 38, 314⟩] hTab (fun w hw => nomatch hw) (by decide) (by decide) k281 (va_Nw.use rfl (hE.1 (.castable "java/lang/IllegalArgumentException" "java/lang/IllegalArgumentException") (by decide +kernel))) hce hcv hcl (c23 (if_neg hno) H1 locs1 q9 hP1 hS1 (fun H locs ls hP hS hl kk9 => va_get (D := D) (ci := 9) (v := .int fg) (C := RX9) (T := TX9) (N := 1) hx hb hts (by decide +kernel) hown hK hP j hj rfl 0 (by decide) (hts (.fieldLink RX10 90 RX0 "figure" "I") (by decide +kernel)) (fun _ h9 => h9) rfl dX10_toss_25 kk9))) (fun hno => c20 (if_pos hno))
