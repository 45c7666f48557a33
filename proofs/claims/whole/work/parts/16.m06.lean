set_option maxRecDepth 20000 in
theorem ggX11_winds_X11_in : GoodIn wsX11_winds wsX11_in := goodIn_r _ [7] (by decide +kernel) (by decide +kernel)
set_option maxRecDepth 20000 in
theorem gX11_winds_X11_in : GoodIn wsX11_winds (va_wsS RX11 81 yX11_in wsX11_in) := goodIn_app (goodIn_of _ (by decide +kernel)) ggX11_winds_X11_in
set_option maxRecDepth 20000 in
theorem ggX11_winds_X11_open : GoodIn wsX11_winds wsX11_open := goodIn_r _ [11, 12, 13, 14, 15, 6, 16, 17, 18, 19, 20, 21, 2, 22, 3, 23, 24, 25, 26, 27, 28, 29, 30, 84, 85, 86, 87, 88, 89, 90, 91, 92, 93, 94, 95, 96, 97, 98, 99, 100, 101, 102, 103, 104, 105, 106, 107, 108, 109, 110, 111, 112, 113, 114, 115, 116, 117, 118, 119, 120] (by decide +kernel) (by decide +kernel)
set_option maxRecDepth 20000 in
theorem gX11_winds_X11_open : GoodIn wsX11_winds (wsV RX11 238 RX11 yX11_open wsX11_open) := goodIn_app (goodIn_of _ (by decide +kernel)) ggX11_winds_X11_open
set_option maxRecDepth 20000 in
theorem ggX11_winds_X11_goesToLane : GoodIn wsX11_winds wsX11_goesToLane := goodIn_r _ [34, 35, 3, 36, 37, 38, 6, 39, 20, 40, 21, 41, 42, 43, 44, 45, 46, 47, 48, 49, 50, 51, 52, 53, 54, 55, 56, 57, 58, 59, 60, 61, 62, 63, 64, 65, 66, 67, 68, 69, 70, 71, 72, 73, 74, 75, 24, 23, 76, 77, 78, 79, 80, 81, 82, 83, 12, 13, 14, 15, 16, 17, 18, 19, 2, 22, 25, 26, 27, 28, 29, 30, 84, 85, 86, 87, 88, 89, 90, 91, 92, 93, 94, 95, 96, 97, 98, 99, 100, 101, 102, 103, 104, 105, 106, 107, 108, 109, 110, 111, 112, 113, 114, 115, 116, 117, 118, 119, 120] (by decide +kernel) (by decide +kernel)
set_option maxRecDepth 20000 in
theorem gX11_winds_X11_goesToLane : GoodIn wsX11_winds (wsV RX11 264 RX11 yX11_goesToLane wsX11_goesToLane) := goodIn_app (goodIn_of _ (by decide +kernel)) ggX11_winds_X11_goesToLane
theorem dX11_winds_0 : decode cX11_winds 0 = .ok (.aload_n 0, 1) := by decide +kernel
theorem dX11_winds_1 : decode cX11_winds 1 = .ok (.iconst 0, 1) := by decide +kernel
theorem dX11_winds_2 : decode cX11_winds 2 = .ok (.putfield 75, 3) := by decide +kernel
theorem dX11_winds_5 : decode cX11_winds 5 = .ok (.iload_n 1, 1) := by decide +kernel
theorem dX11_winds_6 : decode cX11_winds 6 = .ok (.i2l, 1) := by decide +kernel
theorem dX11_winds_7 : decode cX11_winds 7 = .ok (.lconst 0, 1) := by decide +kernel
theorem dX11_winds_8 : decode cX11_winds 8 = .ok (.lconst 1, 1) := by decide +kernel
theorem dX11_winds_9 : decode cX11_winds 9 = .ok (.invokestatic 81, 3) := by decide +kernel
theorem dX11_winds_12 : decode cX11_winds 12 = .ok (.ifCond .ne 5, 3) := by decide +kernel
theorem dX11_winds_15 : decode cX11_winds 15 = .ok (.iconst (-1), 1) := by decide +kernel
theorem dX11_winds_16 : decode cX11_winds 16 = .ok (.ireturn, 1) := by decide +kernel
theorem dX11_winds_17 : decode cX11_winds 17 = .ok (.aload_n 0, 1) := by decide +kernel
theorem dX11_winds_18 : decode cX11_winds 18 = .ok (.getfield 122, 3) := by decide +kernel
theorem dX11_winds_21 : decode cX11_winds 21 = .ok (.ifCond .eq 6, 3) := by decide +kernel
theorem dX11_winds_24 : decode cX11_winds 24 = .ok (.bipush (-3), 2) := by decide +kernel
theorem dX11_winds_26 : decode cX11_winds 26 = .ok (.ireturn, 1) := by decide +kernel
theorem dX11_winds_27 : decode cX11_winds 27 = .ok (.iconst 0, 1) := by decide +kernel
theorem dX11_winds_28 : decode cX11_winds 28 = .ok (.istore_n 2, 1) := by decide +kernel
theorem dX11_winds_29 : decode cX11_winds 29 = .ok (.bipush (-4), 2) := by decide +kernel
theorem dX11_winds_31 : decode cX11_winds 31 = .ok (.istore_n 3, 1) := by decide +kernel
theorem dX11_winds_32 : decode cX11_winds 32 = .ok (.aload_n 0, 1) := by decide +kernel
theorem dX11_winds_33 : decode cX11_winds 33 = .ok (.invokevirtual 238, 3) := by decide +kernel
theorem dX11_winds_36 : decode cX11_winds 36 = .ok (.iconst 0, 1) := by decide +kernel
theorem dX11_winds_37 : decode cX11_winds 37 = .ok (.istore 4, 2) := by decide +kernel
theorem dX11_winds_39 : decode cX11_winds 39 = .ok (.iload 4, 2) := by decide +kernel
theorem dX11_winds_41 : decode cX11_winds 41 = .ok (.bipush 20, 2) := by decide +kernel
theorem dX11_winds_43 : decode cX11_winds 43 = .ok (.if_icmp .gt 48, 3) := by decide +kernel
theorem dX11_winds_46 : decode cX11_winds 46 = .ok (.aload_n 0, 1) := by decide +kernel
theorem dX11_winds_47 : decode cX11_winds 47 = .ok (.getfield 22, 3) := by decide +kernel
theorem dX11_winds_50 : decode cX11_winds 50 = .ok (.iconst 3, 1) := by decide +kernel
theorem dX11_winds_51 : decode cX11_winds 51 = .ok (.iload 4, 2) := by decide +kernel
theorem dX11_winds_53 : decode cX11_winds 53 = .ok (.iastore, 1) := by decide +kernel
theorem dX11_winds_54 : decode cX11_winds 54 = .ok (.aload_n 0, 1) := by decide +kernel
theorem dX11_winds_55 : decode cX11_winds 55 = .ok (.invokevirtual 264, 3) := by decide +kernel
theorem dX11_winds_58 : decode cX11_winds 58 = .ok (.istore 5, 2) := by decide +kernel
theorem dX11_winds_60 : decode cX11_winds 60 = .ok (.iload_n 2, 1) := by decide +kernel
theorem dX11_winds_61 : decode cX11_winds 61 = .ok (.iload 5, 2) := by decide +kernel
theorem dX11_winds_63 : decode cX11_winds 63 = .ok (.ifCond .eq 7, 3) := by decide +kernel
theorem dX11_winds_66 : decode cX11_winds 66 = .ok (.iconst 1, 1) := by decide +kernel
theorem dX11_winds_67 : decode cX11_winds 67 = .ok (.goto 4, 3) := by decide +kernel
theorem dX11_winds_70 : decode cX11_winds 70 = .ok (.iconst 0, 1) := by decide +kernel
theorem dX11_winds_71 : decode cX11_winds 71 = .ok (.iadd, 1) := by decide +kernel
theorem dX11_winds_72 : decode cX11_winds 72 = .ok (.istore_n 2, 1) := by decide +kernel
theorem dX11_winds_73 : decode cX11_winds 73 = .ok (.iload 5, 2) := by decide +kernel
theorem dX11_winds_75 : decode cX11_winds 75 = .ok (.ifCond .eq 8, 3) := by decide +kernel
theorem dX11_winds_78 : decode cX11_winds 78 = .ok (.iload 4, 2) := by decide +kernel
theorem dX11_winds_80 : decode cX11_winds 80 = .ok (.goto 4, 3) := by decide +kernel
theorem dX11_winds_83 : decode cX11_winds 83 = .ok (.iload_n 3, 1) := by decide +kernel
theorem dX11_winds_84 : decode cX11_winds 84 = .ok (.istore_n 3, 1) := by decide +kernel
theorem dX11_winds_85 : decode cX11_winds 85 = .ok (.iinc 4 1, 3) := by decide +kernel
theorem dX11_winds_88 : decode cX11_winds 88 = .ok (.goto (-49), 3) := by decide +kernel
theorem dX11_winds_91 : decode cX11_winds 91 = .ok (.iload_n 1, 1) := by decide +kernel
theorem dX11_winds_92 : decode cX11_winds 92 = .ok (.ifCond .ne 7, 3) := by decide +kernel
theorem dX11_winds_95 : decode cX11_winds 95 = .ok (.iload_n 2, 1) := by decide +kernel
theorem dX11_winds_96 : decode cX11_winds 96 = .ok (.goto 4, 3) := by decide +kernel
theorem dX11_winds_99 : decode cX11_winds 99 = .ok (.iload_n 3, 1) := by decide +kernel
theorem dX11_winds_100 : decode cX11_winds 100 = .ok (.ireturn, 1) := by decide +kernel
/-! winds -/
def X11_winds_p84 (k39 : MS → Int32 → Int32 → Int32 → Int32 → Option (Int32 × MS)) (st : MS) (v1 : Int32) (v2 : Int32) (v4 : Int32) (t0 : Int32) : Option (Int32 × MS) :=
    nm (v4 + (1 : Int32)) fun x_1 =>
    k39 st v1 v2 t0 x_1
def X11_winds_p71 (k39 : MS → Int32 → Int32 → Int32 → Int32 → Option (Int32 × MS)) (st : MS) (v1 : Int32) (v3 : Int32) (v4 : Int32) (v5 : Int32) (t0 : Int32) (t1 : Int32) : Option (Int32 × MS) :=
    nm ((t0 + t1)) fun x_2 =>
    if v5 = 0 then
      (X11_winds_p84 k39 st v1 x_2 v4 v3)
    else
    X11_winds_p84 k39 st v1 x_2 v4 v4
def X11_winds_p100 (st : MS) (t0 : Int32) : Option (Int32 × MS) :=
    some (t0, st)
def X11_winds_p91 (st : MS) (v1 : Int32) (v2 : Int32) (v3 : Int32) : Option (Int32 × MS) :=
    if v1 = 0 then
      (X11_winds_p100 st v2)
    else
    X11_winds_p100 st v3
def X11_winds_p39 : Nat → MS → Int32 → Int32 → Int32 → Int32 → Option (Int32 × MS)
  | 0, _, _, _, _, _ => none
  | n + 1, st, v1, v2, v3, v4 =>
    if (20 : Int32) < v4 then
      (X11_winds_p91 st v1 v2 v3)
    else
    inr (3 : Int32) 7 <|
    nm (sA st 4 (3 : Int32).toNatClampNeg v4) fun st_7 =>
    bnd (X11_goesToLane st_7) fun y_9 st_8 =>
    if y_9 = 0 then
      (X11_winds_p71 (fun st v1 v2 v3 v4 => X11_winds_p39  n st v1 v2 v3 v4) st_8 v1 v3 v4 y_9 v2 (0 : Int32))
    else
    X11_winds_p71 (fun st v1 v2 v3 v4 => X11_winds_p39  n st v1 v2 v3 v4) st_8 v1 v3 v4 y_9 v2 (1 : Int32)
theorem X11_winds_p39_s (n : Nat) (st : MS) (v1 : Int32) (v2 : Int32) (v3 : Int32) (v4 : Int32) : X11_winds_p39  (n + 1) st v1 v2 v3 v4 =
    (if (20 : Int32) < v4 then
      (X11_winds_p91 st v1 v2 v3)
    else
    inr (3 : Int32) 7 <|
    nm (sA st 4 (3 : Int32).toNatClampNeg v4) fun st_7 =>
    bnd (X11_goesToLane st_7) fun y_9 st_8 =>
    if y_9 = 0 then
      (X11_winds_p71 (fun st v1 v2 v3 v4 => X11_winds_p39  n st v1 v2 v3 v4) st_8 v1 v3 v4 y_9 v2 (0 : Int32))
    else
    X11_winds_p71 (fun st v1 v2 v3 v4 => X11_winds_p39  n st v1 v2 v3 v4) st_8 v1 v3 v4 y_9 v2 (1 : Int32)) := rfl
def X11_winds (st : MS) (v1 : Int32) : Option (Int32 × MS) :=
    nm (sF st 17 (0 : Int32)) fun st_12 =>
    bd1 (X11_in (v1.toInt64) (0 : Int64) (1 : Int64)) fun y_13 =>
    if y_13 = 0 then
      (some ((-1 : Int32), st_12))
    else
    if (gF st_12 7) = 0 then
      (bnd (X11_open st_12) fun _ st_17 =>
      X11_winds_p39 22 st_17 v1 (0 : Int32) (-4 : Int32) (0 : Int32))
    else
    some ((-3 : Int32), st_12)
abbrev rmX11_winds : Room := { frames := 8, cells := 0, slots := 0, locals := 173 }
theorem hdX11_winds : yX11_winds.cls = RX11 ∧ yX11_winds.cls ≠ "java/lang/invoke/MethodHandle" ∧ yX11_winds.cls ≠ "java/lang/invoke/VarHandle" ∧ (parseMethodDescriptor yX11_winds.desc).map (fun d => d.parameters.length) = some 1 := by decide +kernel
set_option maxRecDepth 100000 in
set_option maxHeartbeats 4000000 in
theorem okX11_winds (l : Launch) (D : va_G) (a : Nat → Nat) (T : mT3) {st : MS} {v1 : Int32} {r : Int32} {st' : MS} (heq : X11_winds st v1 = some (r, st')) : gCi l D (mT T) yX11_winds wsX11_winds rmX11_winds [.ref (a 0), .int v1] (mW a T st) r (mW a T st') := by
  refine g_body_i (by decide) rfl (Nat.le_of_ble_eq_true rfl) (fun p e s m args below meth c A Q hx hb hml hown hts hK hA hret ls hP hD hS hl => ?_)
  have hl : lv_has ls 6 [(0, .ref (a 0)), (1, .int v1)] := hl
  have hin : ∀ w ∈ wsX110, w ∈ wsX11_winds := fun w h => List.mem_cons_of_mem _ (List.mem_append_right _ h)
  have f22 : (Cond.fieldLink RX11 22 RX11 (TX11 4).2.1 (TX11 4).2.2.1).before args s = true := hts (.fieldLink RX11 22 "LaidDownTheLaneModel" "settings" "[I") (by decide +kernel)
  have f75 : (Cond.fieldLink RX11 75 RX11 (TX11 17).2.1 (TX11 17).2.2.1).before args s = true := hts (.fieldLink RX11 75 "LaidDownTheLaneModel" "thrown" "I") (by decide +kernel)
  have f122 : (Cond.fieldLink RX11 122 RX11 (TX11 7).2.1 (TX11 7).2.2.1).before args s = true := hts (.fieldLink RX11 122 "LaidDownTheLaneModel" "isDown" "Z") (by decide +kernel)
  have b84 : ∀ (k39 : MS → Int32 → Int32 → Int32 → Int32 → Option (Int32 × MS)) (hk39 : ∀ (st : MS) (v1 : Int32) (v2 : Int32) (v3 : Int32) (v4 : Int32) (H : Heap) (locs : List Loc) (ls : Array Slot), va_P D vwCl (mW a T st) H → va_D A (mW a T st) → va_S A s.heap H locs → lv_has ls 6 [(0, .ref (a 0)), (1, .int v1), (2, .int v2), (3, .int v3), (4, .int v4)] → k39 st v1 v2 v3 v4 = some (r, st') → W p l e rmX11_winds s m args below meth c H locs 0 0 Q (F0 m 39 ls [])), ∀ (st : MS) (v1 : Int32) (v2 : Int32) (v4 : Int32) (t0 : Int32) (H : Heap) (locs : List Loc) (ls : Array Slot), va_P D vwCl (mW a T st) H → va_D A (mW a T st) → va_S A s.heap H locs → lv_has ls 6 [(0, .ref (a 0)), (1, .int v1), (2, .int v2), (4, .int v4)] → X11_winds_p84 k39 st v1 v2 v4 t0 = some (r, st') → W p l e rmX11_winds s m args below meth c H locs 0 0 Q (F0 m 84 ls [.int t0]) := by
    intro k39 hk39 st v1 v2 v4 t0 H locs ls hP hD hS hl heq
    unfold X11_winds_p84 at heq
    refine lv_istore_n (lv' := [(3, .int t0), (0, .ref (a 0)), (1, .int v1), (2, .int v2), (4, .int v4)]) hx hb dX11_winds_84 rfl hl (by decide) rfl (fun ls hl => ?_)
    obtain ⟨x_1, ex_1⟩ : ∃ y : Int32, y = v4 + (1 : Int32) := ⟨_, rfl⟩
    have heq := nm_h ex_1 heq
    refine lv_iinc (v := x_1) (lv' := [(4, .int x_1), (3, .int t0), (0, .ref (a 0)), (1, .int v1), (2, .int v2)]) hx hb dX11_winds_85 hl (k := 4) rfl (by rw [ex_1]; rfl) (by decide) rfl (fun ls hl => ?_)
    refine lv_goto (tgt := 39) hx hb dX11_winds_88 (by decide) ?_
    exact hk39 st v1 v2 t0 x_1 H locs ls hP hD hS (lv_sub hl [2, 3, 4, 1, 0] rfl) heq
  have b71 : ∀ (k39 : MS → Int32 → Int32 → Int32 → Int32 → Option (Int32 × MS)) (hk39 : ∀ (st : MS) (v1 : Int32) (v2 : Int32) (v3 : Int32) (v4 : Int32) (H : Heap) (locs : List Loc) (ls : Array Slot), va_P D vwCl (mW a T st) H → va_D A (mW a T st) → va_S A s.heap H locs → lv_has ls 6 [(0, .ref (a 0)), (1, .int v1), (2, .int v2), (3, .int v3), (4, .int v4)] → k39 st v1 v2 v3 v4 = some (r, st') → W p l e rmX11_winds s m args below meth c H locs 0 0 Q (F0 m 39 ls [])), ∀ (st : MS) (v1 : Int32) (v3 : Int32) (v4 : Int32) (v5 : Int32) (t0 : Int32) (t1 : Int32) (H : Heap) (locs : List Loc) (ls : Array Slot), va_P D vwCl (mW a T st) H → va_D A (mW a T st) → va_S A s.heap H locs → lv_has ls 6 [(0, .ref (a 0)), (1, .int v1), (3, .int v3), (4, .int v4), (5, .int v5)] → X11_winds_p71 k39 st v1 v3 v4 v5 t0 t1 = some (r, st') → W p l e rmX11_winds s m args below meth c H locs 0 0 Q (F0 m 71 ls [.int t1, .int t0]) := by
    intro k39 hk39 st v1 v3 v4 v5 t0 t1 H locs ls hP hD hS hl heq
    unfold X11_winds_p71 at heq
    refine lv_iadd hx hb dX11_winds_71 ?_
    refine lv_topi (fun x_2 ex_2 => ?_)
    have heq := nm_h ex_2 heq
    refine lv_istore_n (lv' := [(2, .int x_2), (0, .ref (a 0)), (1, .int v1), (3, .int v3), (4, .int v4), (5, .int v5)]) hx hb dX11_winds_72 rfl hl (by decide) rfl (fun ls hl => ?_)
    refine lv_iload hx hb dX11_winds_73 (lv_at hl 5 rfl) ?_
    refine lv_if_eq (tgt := 83) hx hb dX11_winds_75 (by decide) (fun c_3 => ?_) (fun c_3 => ?_)
    · have heq := it_t c_3 heq
      refine lv_iload_n hx hb dX11_winds_83 rfl (lv_at hl 3 rfl) ?_
      exact b84 k39 hk39 st v1 x_2 v4 v3 H locs ls hP hD hS (lv_sub hl [1, 2, 0, 4] rfl) heq
    have heq := it_f c_3 heq
    refine lv_iload hx hb dX11_winds_78 (lv_at hl 4 rfl) ?_
    refine lv_goto (tgt := 84) hx hb dX11_winds_80 (by decide) ?_
    exact b84 k39 hk39 st v1 x_2 v4 v4 H locs ls hP hD hS (lv_sub hl [1, 2, 0, 4] rfl) heq
  have b100 : ∀ (st : MS) (t0 : Int32) (H : Heap) (locs : List Loc) (ls : Array Slot), va_P D vwCl (mW a T st) H → va_D A (mW a T st) → va_S A s.heap H locs → lv_has ls 6 [] → X11_winds_p100  st t0 = some (r, st') → W p l e rmX11_winds s m args below meth c H locs 0 0 Q (F0 m 100 ls [.int t0]) := by
    intro st t0 H locs ls hP hD hS hl heq
    unfold X11_winds_p100 at heq
    obtain ⟨heq, heq2⟩ := ret_h heq
    subst heq
    subst heq2
    exact hret 100 H locs ls hP hD hS rfl dX11_winds_100
  have b91 : ∀ (st : MS) (v1 : Int32) (v2 : Int32) (v3 : Int32) (H : Heap) (locs : List Loc) (ls : Array Slot), va_P D vwCl (mW a T st) H → va_D A (mW a T st) → va_S A s.heap H locs → lv_has ls 6 [(1, .int v1), (2, .int v2), (3, .int v3)] → X11_winds_p91  st v1 v2 v3 = some (r, st') → W p l e rmX11_winds s m args below meth c H locs 0 0 Q (F0 m 91 ls []) := by
    intro st v1 v2 v3 H locs ls hP hD hS hl heq
    unfold X11_winds_p91 at heq
    refine lv_iload_n hx hb dX11_winds_91 rfl (lv_at hl 0 rfl) ?_
    refine lv_if_ne (tgt := 99) hx hb dX11_winds_92 (by decide) (fun c_4 => ?_) (fun c_4 => ?_)
    · have heq := it_f c_4 heq
      refine lv_iload_n hx hb dX11_winds_99 rfl (lv_at hl 2 rfl) ?_
      exact b100 st v3 H locs ls hP hD hS (lv_sub hl [] rfl) heq
    have heq := it_t c_4 heq
    refine lv_iload_n hx hb dX11_winds_95 rfl (lv_at hl 1 rfl) ?_
    refine lv_goto (tgt := 100) hx hb dX11_winds_96 (by decide) ?_
    exact b100 st v2 H locs ls hP hD hS (lv_sub hl [] rfl) heq
  have b39 : ∀ (n : Nat), ∀ (st : MS) (v1 : Int32) (v2 : Int32) (v3 : Int32) (v4 : Int32) (H : Heap) (locs : List Loc) (ls : Array Slot), va_P D vwCl (mW a T st) H → va_D A (mW a T st) → va_S A s.heap H locs → lv_has ls 6 [(0, .ref (a 0)), (1, .int v1), (2, .int v2), (3, .int v3), (4, .int v4)] → X11_winds_p39  n st v1 v2 v3 v4 = some (r, st') → W p l e rmX11_winds s m args below meth c H locs 0 0 Q (F0 m 39 ls []) := by
    intro n
    induction n with
    | zero => intro st v1 v2 v3 v4 H locs ls hP hD hS hl heq; cases heq
    | succ n ih =>
      intro st v1 v2 v3 v4 H locs ls hP hD hS hl heq
      rw [X11_winds_p39_s] at heq
      refine lv_iload hx hb dX11_winds_39 (lv_at hl 4 rfl) ?_
      refine lv_bipush (v := (20 : Int32)) hx hb dX11_winds_41 (by decide) ?_
      refine lv_icmp_gt (tgt := 91) hx hb dX11_winds_43 (by decide) (fun c_5 => ?_) (fun c_5 => ?_)
      · have heq := it_t c_5 heq
        exact b91 st v1 v2 v3 H locs ls hP hD hS (lv_sub hl [1, 2, 3] rfl) heq
      have heq := it_f c_5 heq
      refine lv_aload_n hx hb dX11_winds_46 rfl (lv_at hl 0 rfl) ?_
      refine mg (k := 4) (v := .ref (a 5)) hx hb hts hin hown hK hP (by decide) f22 rfl dX11_winds_47 rfl ?_
      refine lv_iconst (v := (3 : Int32)) hx hb dX11_winds_50 (by decide) ?_
      refine lv_iload hx hb dX11_winds_51 (lv_at hl 4 rfl) ?_
      obtain ⟨n_6, heq⟩ := inr_h heq
      refine mas (k := 4) (q := 5) (n := 7) hx hb hK hP hD hS rfl (maset_4 ..) n_6 dX11_winds_53 (fun H locs hP hD hS => ?_)
      obtain ⟨st_7, est_7⟩ : ∃ z, z = sA st 4 (3 : Int32).toNatClampNeg v4 := ⟨_, rfl⟩
      rw [← est_7] at hP hD
      have heq := nm_h est_7 heq
      refine lv_aload_n hx hb dX11_winds_54 rfl (lv_at hl 0 rfl) ?_
      obtain ⟨y_9, st_8, h_10, heq⟩ := bnd_h heq
      refine g_vi (own := RX11) (As := []) (rest := []) hx hb hml hown hts (okX11_goesToLane l D a T h_10) (cwV 0 hts gX11_winds_X11_goesToLane rfl rfl rfl hdX11_goesToLane ⟨Nat.le_of_ble_eq_true rfl, Nat.le_of_ble_eq_true rfl⟩) hK hA hP hD hS (ci := 11) (q0 := 0) rfl rfl rfl hl.1 rfl (Nat.le_of_ble_eq_true rfl) dX11_winds_55 ⟨Nat.le_of_ble_eq_true rfl, Nat.le_of_ble_eq_true rfl⟩ (fun H locs hP hD hS => ?_)
      refine lv_istore (lv' := [(5, .int y_9), (0, .ref (a 0)), (1, .int v1), (2, .int v2), (3, .int v3), (4, .int v4)]) hx hb dX11_winds_58 hl (by decide) rfl (fun ls hl => ?_)
      refine lv_iload_n hx hb dX11_winds_60 rfl (lv_at hl 3 rfl) ?_
      refine lv_iload hx hb dX11_winds_61 (lv_at hl 0 rfl) ?_
      refine lv_if_eq (tgt := 70) hx hb dX11_winds_63 (by decide) (fun c_11 => ?_) (fun c_11 => ?_)
      · have heq := it_t c_11 heq
        refine lv_iconst (v := (0 : Int32)) hx hb dX11_winds_70 (by decide) ?_
        exact b71 (fun st v1 v2 v3 v4 => X11_winds_p39  n st v1 v2 v3 v4) ih st_8 v1 v3 v4 y_9 v2 (0 : Int32) H locs ls hP hD hS (lv_sub hl [1, 2, 4, 5, 0] rfl) heq
      have heq := it_f c_11 heq
      refine lv_iconst (v := (1 : Int32)) hx hb dX11_winds_66 (by decide) ?_
      refine lv_goto (tgt := 71) hx hb dX11_winds_67 (by decide) ?_
      exact b71 (fun st v1 v2 v3 v4 => X11_winds_p39  n st v1 v2 v3 v4) ih st_8 v1 v3 v4 y_9 v2 (1 : Int32) H locs ls hP hD hS (lv_sub hl [1, 2, 4, 5, 0] rfl) heq
  obtain ⟨H, hH⟩ : ∃ H, H = s.heap := ⟨_, rfl⟩
  obtain ⟨locs, hlocs⟩ : ∃ z : List Loc, z = [] := ⟨_, rfl⟩
  have hS : va_S A s.heap H locs := by rw [hH, hlocs]; exact hS
  have hP : va_P D vwCl (mW a T st) H := by rw [hH]; exact hP
  suffices h9 : W p l e rmX11_winds s m args below meth c H locs 0 0 Q (F0 m 0 ls []) by rw [hH, hlocs] at h9; exact h9
  clear hH hlocs
  unfold X11_winds at heq
  refine lv_aload_n hx hb dX11_winds_0 rfl (lv_at hl 0 rfl) ?_
  refine lv_iconst (v := (0 : Int32)) hx hb dX11_winds_1 (by decide) ?_
  refine mp (k := 17) hx hb hts hin hown hK hP hD hS (by decide) f75 dX11_winds_2 rfl rfl rfl rfl (mset_17 ..) (fun H locs hP hD hS => ?_)
  obtain ⟨st_12, est_12⟩ : ∃ z, z = sF st 17 (0 : Int32) := ⟨_, rfl⟩
  rw [← est_12] at hP hD
  have heq := nm_h est_12 heq
  refine lv_iload_n hx hb dX11_winds_5 rfl (lv_at hl 1 rfl) ?_
  refine lv_i2l hx hb dX11_winds_6 rfl ?_
  refine lv_lconst (v := (0 : Int64)) hx hb dX11_winds_7 (by decide) ?_
  refine lv_lconst (v := (1 : Int64)) hx hb dX11_winds_8 (by decide) ?_
  obtain ⟨y_13, h_14, heq⟩ := bd1_h heq
  refine g_si (own := RX11) (D := D) (As := [.long (v1.toInt64), .long (0 : Int64), .long (1 : Int64)]) (rest := []) hx hb hml hown hts (okX11_in l D h_14) (cwS 3 hts gX11_winds_X11_in rfl rfl rfl hdX11_in ⟨Nat.le_of_ble_eq_true rfl, Nat.le_of_ble_eq_true rfl⟩) hK hA hP hS rfl hl.1 rfl (Nat.le_of_ble_eq_true rfl) dX11_winds_9 ⟨Nat.le_of_ble_eq_true rfl, Nat.le_of_ble_eq_true rfl⟩ (fun H locs hP hS => ?_)
  refine lv_if_ne (tgt := 17) hx hb dX11_winds_12 (by decide) (fun c_15 => ?_) (fun c_15 => ?_)
  · have heq := it_f c_15 heq
    refine lv_aload_n hx hb dX11_winds_17 rfl (lv_at hl 0 rfl) ?_
    refine mg (k := 7) (v := .int (gF st_12 7)) hx hb hts hin hown hK hP (by decide) f122 rfl dX11_winds_18 rfl ?_
    refine lv_if_eq (tgt := 27) hx hb dX11_winds_21 (by decide) (fun c_16 => ?_) (fun c_16 => ?_)
    · have heq := it_t c_16 heq
      refine lv_iconst (v := (0 : Int32)) hx hb dX11_winds_27 (by decide) ?_
      refine lv_istore_n (lv' := [(2, .int (0 : Int32)), (0, .ref (a 0)), (1, .int v1)]) hx hb dX11_winds_28 rfl hl (by decide) rfl (fun ls hl => ?_)
      refine lv_bipush (v := (-4 : Int32)) hx hb dX11_winds_29 (by decide) ?_
      refine lv_istore_n (lv' := [(3, .int (-4 : Int32)), (2, .int (0 : Int32)), (0, .ref (a 0)), (1, .int v1)]) hx hb dX11_winds_31 rfl hl (by decide) rfl (fun ls hl => ?_)
      refine lv_aload_n hx hb dX11_winds_32 rfl (lv_at hl 2 rfl) ?_
      obtain ⟨⟨⟩, st_17, h_18, heq⟩ := bnd_h heq
      refine g_vv (own := RX11) (As := []) (rest := []) hx hb hml hown hts (okX11_open l D a T h_18) (cwV 0 hts gX11_winds_X11_open rfl rfl rfl hdX11_open ⟨Nat.le_of_ble_eq_true rfl, Nat.le_of_ble_eq_true rfl⟩) hK hA hP hD hS (ci := 11) (q0 := 0) rfl rfl rfl hl.1 rfl (Nat.le_of_ble_eq_true rfl) dX11_winds_33 ⟨Nat.le_of_ble_eq_true rfl, Nat.le_of_ble_eq_true rfl⟩ (fun H locs hP hD hS => ?_)
      refine lv_iconst (v := (0 : Int32)) hx hb dX11_winds_36 (by decide) ?_
      refine lv_istore (lv' := [(4, .int (0 : Int32)), (3, .int (-4 : Int32)), (2, .int (0 : Int32)), (0, .ref (a 0)), (1, .int v1)]) hx hb dX11_winds_37 hl (by decide) rfl (fun ls hl => ?_)
      exact b39 22 st_17 v1 (0 : Int32) (-4 : Int32) (0 : Int32) H locs ls hP hD hS (lv_sub hl [3, 4, 2, 1, 0] rfl) heq
    have heq := it_f c_16 heq
    refine lv_bipush (v := (-3 : Int32)) hx hb dX11_winds_24 (by decide) ?_
    obtain ⟨heq, heq2⟩ := ret_h heq
    subst heq
    subst heq2
    exact hret 26 H locs ls hP hD hS rfl dX11_winds_26
  have heq := it_t c_15 heq
  refine lv_iconst (v := (-1 : Int32)) hx hb dX11_winds_15 (by decide) ?_
  obtain ⟨heq, heq2⟩ := ret_h heq
  subst heq
  subst heq2
  exact hret 16 H locs ls hP hD hS rfl dX11_winds_16
theorem dX11_divisor_0 : decode cX11_divisor 0 = .ok (.lload_n 0, 1) := by decide +kernel
theorem dX11_divisor_1 : decode cX11_divisor 1 = .ok (.lstore 4, 2) := by decide +kernel
theorem dX11_divisor_3 : decode cX11_divisor 3 = .ok (.lload_n 2, 1) := by decide +kernel
theorem dX11_divisor_4 : decode cX11_divisor 4 = .ok (.lstore 6, 2) := by decide +kernel
theorem dX11_divisor_6 : decode cX11_divisor 6 = .ok (.lload 6, 2) := by decide +kernel
theorem dX11_divisor_8 : decode cX11_divisor 8 = .ok (.lconst 0, 1) := by decide +kernel
theorem dX11_divisor_9 : decode cX11_divisor 9 = .ok (.lcmp, 1) := by decide +kernel
theorem dX11_divisor_10 : decode cX11_divisor 10 = .ok (.ifCond .eq 21, 3) := by decide +kernel
theorem dX11_divisor_13 : decode cX11_divisor 13 = .ok (.lload 4, 2) := by decide +kernel
theorem dX11_divisor_15 : decode cX11_divisor 15 = .ok (.lload 6, 2) := by decide +kernel
theorem dX11_divisor_17 : decode cX11_divisor 17 = .ok (.lrem, 1) := by decide +kernel
theorem dX11_divisor_18 : decode cX11_divisor 18 = .ok (.lstore 8, 2) := by decide +kernel
theorem dX11_divisor_20 : decode cX11_divisor 20 = .ok (.lload 6, 2) := by decide +kernel
theorem dX11_divisor_22 : decode cX11_divisor 22 = .ok (.lstore 4, 2) := by decide +kernel
theorem dX11_divisor_24 : decode cX11_divisor 24 = .ok (.lload 8, 2) := by decide +kernel
theorem dX11_divisor_26 : decode cX11_divisor 26 = .ok (.lstore 6, 2) := by decide +kernel
theorem dX11_divisor_28 : decode cX11_divisor 28 = .ok (.goto (-22), 3) := by decide +kernel
theorem dX11_divisor_31 : decode cX11_divisor 31 = .ok (.lload 4, 2) := by decide +kernel
theorem dX11_divisor_33 : decode cX11_divisor 33 = .ok (.lreturn, 1) := by decide +kernel
/-! divisor -/
def X11_divisor_p31 (v4 : Int64) : Option Int64 :=
    some v4
def X11_divisor_p6 : Nat → Int64 → Int64 → Option Int64
  | 0, _, _ => none
  | n + 1, v4, v6 =>
    if (lg_cmp v6 (0 : Int64)) = 0 then
      (X11_divisor_p31 v4)
    else
    dvl v6 <|
    nm ((v4 - v4 / v6 * v6)) fun x_3 =>
    X11_divisor_p6  n v6 x_3
theorem X11_divisor_p6_s (n : Nat) (v4 : Int64) (v6 : Int64) : X11_divisor_p6  (n + 1) v4 v6 =
    (if (lg_cmp v6 (0 : Int64)) = 0 then
      (X11_divisor_p31 v4)
    else
    dvl v6 <|
    nm ((v4 - v4 / v6 * v6)) fun x_3 =>
    X11_divisor_p6  n v6 x_3) := rfl
def X11_divisor (v0 : Int64) (v2 : Int64) : Option Int64 :=
    X11_divisor_p6 5000 v0 v2
abbrev rmX11_divisor : Room := { frames := 0, cells := 0, slots := 0, locals := 0 }
theorem hdX11_divisor : yX11_divisor.cls = RX11 ∧ yX11_divisor.cls ≠ "java/lang/invoke/MethodHandle" ∧ yX11_divisor.cls ≠ "java/lang/invoke/VarHandle" ∧ (parseMethodDescriptor yX11_divisor.desc).map (fun d => d.parameters.length) = some 2 := by decide +kernel
set_option maxRecDepth 100000 in
set_option maxHeartbeats 4000000 in
theorem okX11_divisor (l : Launch) (D : va_G) {v0 : Int64} {v2 : Int64} {r : Int64} (heq : X11_divisor v0 v2 = some r) : gCl l D [] yX11_divisor wsX11_divisor rmX11_divisor [.long v0, .long v2] [] r [] := by
  refine g_body_l (by decide) rfl (Nat.le_of_ble_eq_true rfl) (fun p e s m args below meth c A Q hx hb hml hown hts hK hA hret ls hP hD hS hl => ?_)
  have hl : lv_has ls 10 [(0, .long v0), (2, .long v2)] := hl
  have b31 : ∀ (v4 : Int64) (H : Heap) (locs : List Loc) (ls : Array Slot), va_P D vwCl [] H → va_D A [] → va_S A s.heap H locs → lv_has ls 10 [(4, .long v4)] → X11_divisor_p31  v4 = some r → W p l e rmX11_divisor s m args below meth c H locs 0 0 Q (F0 m 31 ls []) := by
    intro v4 H locs ls hP hD hS hl heq
    unfold X11_divisor_p31 at heq
    refine lv_lload hx hb dX11_divisor_31 (lv_at hl 0 rfl) ?_
    have heq := Option.some.inj heq
    subst heq
    exact hret 33 H locs ls hP hD hS dX11_divisor_33
  have b6 : ∀ (n : Nat), ∀ (v4 : Int64) (v6 : Int64) (H : Heap) (locs : List Loc) (ls : Array Slot), va_P D vwCl [] H → va_D A [] → va_S A s.heap H locs → lv_has ls 10 [(4, .long v4), (6, .long v6)] → X11_divisor_p6  n v4 v6 = some r → W p l e rmX11_divisor s m args below meth c H locs 0 0 Q (F0 m 6 ls []) := by
    intro n
    induction n with
    | zero => intro v4 v6 H locs ls hP hD hS hl heq; cases heq
    | succ n ih =>
      intro v4 v6 H locs ls hP hD hS hl heq
      rw [X11_divisor_p6_s] at heq
      refine lv_lload hx hb dX11_divisor_6 (lv_at hl 1 rfl) ?_
      refine lv_lconst (v := (0 : Int64)) hx hb dX11_divisor_8 (by decide) ?_
      refine W.lcmp hx hb dX11_divisor_9 ?_
      refine lv_if_eq (tgt := 31) hx hb dX11_divisor_10 (by decide) (fun c_1 => ?_) (fun c_1 => ?_)
      · have heq := it_t c_1 heq
        exact b31 v4 H locs ls hP hD hS (lv_sub hl [0] rfl) heq
      have heq := it_f c_1 heq
      refine lv_lload hx hb dX11_divisor_13 (lv_at hl 0 rfl) ?_
      refine lv_lload hx hb dX11_divisor_15 (lv_at hl 1 rfl) ?_
      obtain ⟨n_2, heq⟩ := dvl_h heq
      refine lv_lrem hx hb dX11_divisor_17 n_2 ?_
      refine lv_topl (fun x_3 ex_3 => ?_)
      have heq := nm_h ex_3 heq
      refine lv_lstore (lv' := [(8, .long x_3), (4, .long v4), (6, .long v6)]) hx hb dX11_divisor_18 hl (by decide) rfl (fun ls hl => ?_)
      refine lv_lload hx hb dX11_divisor_20 (lv_at hl 2 rfl) ?_
      refine lv_lstore (lv' := [(4, .long v6), (8, .long x_3), (6, .long v6)]) hx hb dX11_divisor_22 hl (by decide) rfl (fun ls hl => ?_)
      refine lv_lload hx hb dX11_divisor_24 (lv_at hl 1 rfl) ?_
      refine lv_lstore (lv' := [(6, .long x_3), (4, .long v6), (8, .long x_3)]) hx hb dX11_divisor_26 hl (by decide) rfl (fun ls hl => ?_)
      refine lv_goto (tgt := 6) hx hb dX11_divisor_28 (by decide) ?_
      exact ih v6 x_3 H locs ls hP hD hS (lv_sub hl [1, 0] rfl) heq
  obtain ⟨H, hH⟩ : ∃ H, H = s.heap := ⟨_, rfl⟩
  obtain ⟨locs, hlocs⟩ : ∃ z : List Loc, z = [] := ⟨_, rfl⟩
  have hS : va_S A s.heap H locs := by rw [hH, hlocs]; exact hS
  have hP : va_P D vwCl [] H := by rw [hH]; exact hP
  suffices h9 : W p l e rmX11_divisor s m args below meth c H locs 0 0 Q (F0 m 0 ls []) by rw [hH, hlocs] at h9; exact h9
  clear hH hlocs
  unfold X11_divisor at heq
  refine lv_lload_n hx hb dX11_divisor_0 rfl (lv_at hl 0 rfl) ?_
  refine lv_lstore (lv' := [(4, .long v0), (0, .long v0), (2, .long v2)]) hx hb dX11_divisor_1 hl (by decide) rfl (fun ls hl => ?_)
  refine lv_lload_n hx hb dX11_divisor_3 rfl (lv_at hl 2 rfl) ?_
  refine lv_lstore (lv' := [(6, .long v2), (4, .long v0), (0, .long v0), (2, .long v2)]) hx hb dX11_divisor_4 hl (by decide) rfl (fun ls hl => ?_)
  exact b6 5000 v0 v2 H locs ls hP hD hS (lv_sub hl [1, 0] rfl) heq
set_option maxRecDepth 20000 in
theorem ggX11_partOf_X11_divisor : GoodIn wsX11_partOf wsX11_divisor := goodIn_r _ [4] (by decide +kernel) (by decide +kernel)
set_option maxRecDepth 20000 in
theorem gX11_partOf_X11_divisor : GoodIn wsX11_partOf (va_wsS RX11 267 yX11_divisor wsX11_divisor) := goodIn_app (goodIn_of _ (by decide +kernel)) ggX11_partOf_X11_divisor
theorem dX11_partOf_0 : decode cX11_partOf 0 = .ok (.lload_n 0, 1) := by decide +kernel
theorem dX11_partOf_1 : decode cX11_partOf 1 = .ok (.lconst 0, 1) := by decide +kernel
theorem dX11_partOf_2 : decode cX11_partOf 2 = .ok (.lcmp, 1) := by decide +kernel
theorem dX11_partOf_3 : decode cX11_partOf 3 = .ok (.ifCond .ne 7, 3) := by decide +kernel
theorem dX11_partOf_6 : decode cX11_partOf 6 = .ok (.iload 4, 2) := by decide +kernel
theorem dX11_partOf_8 : decode cX11_partOf 8 = .ok (.i2l, 1) := by decide +kernel
theorem dX11_partOf_9 : decode cX11_partOf 9 = .ok (.lreturn, 1) := by decide +kernel
theorem dX11_partOf_10 : decode cX11_partOf 10 = .ok (.lload_n 0, 1) := by decide +kernel
theorem dX11_partOf_11 : decode cX11_partOf 11 = .ok (.lload_n 2, 1) := by decide +kernel
theorem dX11_partOf_12 : decode cX11_partOf 12 = .ok (.invokestatic 267, 3) := by decide +kernel
theorem dX11_partOf_15 : decode cX11_partOf 15 = .ok (.lstore 5, 2) := by decide +kernel
theorem dX11_partOf_17 : decode cX11_partOf 17 = .ok (.iload 4, 2) := by decide +kernel
theorem dX11_partOf_19 : decode cX11_partOf 19 = .ok (.ifCond .ne 10, 3) := by decide +kernel
theorem dX11_partOf_22 : decode cX11_partOf 22 = .ok (.lload_n 0, 1) := by decide +kernel
theorem dX11_partOf_23 : decode cX11_partOf 23 = .ok (.lload 5, 2) := by decide +kernel
theorem dX11_partOf_25 : decode cX11_partOf 25 = .ok (.ldiv, 1) := by decide +kernel
theorem dX11_partOf_26 : decode cX11_partOf 26 = .ok (.goto 7, 3) := by decide +kernel
theorem dX11_partOf_29 : decode cX11_partOf 29 = .ok (.lload_n 2, 1) := by decide +kernel
theorem dX11_partOf_30 : decode cX11_partOf 30 = .ok (.lload 5, 2) := by decide +kernel
theorem dX11_partOf_32 : decode cX11_partOf 32 = .ok (.ldiv, 1) := by decide +kernel
theorem dX11_partOf_33 : decode cX11_partOf 33 = .ok (.lreturn, 1) := by decide +kernel
/-! partOf -/
def X11_partOf_p33 (t0 : Int64) : Option Int64 :=
    some t0
def X11_partOf (v0 : Int64) (v2 : Int64) (v4 : Int32) : Option Int64 :=
    if (lg_cmp v0 (0 : Int64)) = 0 then
      (some (v4.toInt64))
    else
    bd1 (X11_divisor v0 v2) fun y_2 =>
    if v4 = 0 then
      (dvl y_2 <|
      X11_partOf_p33 (v0 / y_2))
    else
    dvl y_2 <|
    X11_partOf_p33 (v2 / y_2)
abbrev rmX11_partOf : Room := { frames := 1, cells := 0, slots := 0, locals := 29 }
theorem hdX11_partOf : yX11_partOf.cls = RX11 ∧ yX11_partOf.cls ≠ "java/lang/invoke/MethodHandle" ∧ yX11_partOf.cls ≠ "java/lang/invoke/VarHandle" ∧ (parseMethodDescriptor yX11_partOf.desc).map (fun d => d.parameters.length) = some 3 := by decide +kernel
set_option maxRecDepth 100000 in
set_option maxHeartbeats 4000000 in
theorem okX11_partOf (l : Launch) (D : va_G) {v0 : Int64} {v2 : Int64} {v4 : Int32} {r : Int64} (heq : X11_partOf v0 v2 v4 = some r) : gCl l D [] yX11_partOf wsX11_partOf rmX11_partOf [.long v0, .long v2, .int v4] [] r [] := by
  refine g_body_l (by decide) rfl (Nat.le_of_ble_eq_true rfl) (fun p e s m args below meth c A Q hx hb hml hown hts hK hA hret ls hP hD hS hl => ?_)
  have hl : lv_has ls 7 [(0, .long v0), (2, .long v2), (4, .int v4)] := hl
  have b33 : ∀ (t0 : Int64) (H : Heap) (locs : List Loc) (ls : Array Slot), va_P D vwCl [] H → va_D A [] → va_S A s.heap H locs → lv_has ls 7 [] → X11_partOf_p33  t0 = some r → W p l e rmX11_partOf s m args below meth c H locs 0 0 Q (F0 m 33 ls [.long t0]) := by
    intro t0 H locs ls hP hD hS hl heq
    unfold X11_partOf_p33 at heq
    have heq := Option.some.inj heq
    subst heq
    exact hret 33 H locs ls hP hD hS dX11_partOf_33
  obtain ⟨H, hH⟩ : ∃ H, H = s.heap := ⟨_, rfl⟩
  obtain ⟨locs, hlocs⟩ : ∃ z : List Loc, z = [] := ⟨_, rfl⟩
  have hS : va_S A s.heap H locs := by rw [hH, hlocs]; exact hS
  have hP : va_P D vwCl [] H := by rw [hH]; exact hP
  suffices h9 : W p l e rmX11_partOf s m args below meth c H locs 0 0 Q (F0 m 0 ls []) by rw [hH, hlocs] at h9; exact h9
  clear hH hlocs
  unfold X11_partOf at heq
  refine lv_lload_n hx hb dX11_partOf_0 rfl (lv_at hl 0 rfl) ?_
  refine lv_lconst (v := (0 : Int64)) hx hb dX11_partOf_1 (by decide) ?_
  refine W.lcmp hx hb dX11_partOf_2 ?_
  refine lv_if_ne (tgt := 10) hx hb dX11_partOf_3 (by decide) (fun c_1 => ?_) (fun c_1 => ?_)
  · have heq := it_f c_1 heq
    refine lv_lload_n hx hb dX11_partOf_10 rfl (lv_at hl 0 rfl) ?_
    refine lv_lload_n hx hb dX11_partOf_11 rfl (lv_at hl 1 rfl) ?_
    obtain ⟨y_2, h_3, heq⟩ := bd1_h heq
    refine g_sl (own := RX11) (D := D) (As := [.long v0, .long v2]) (rest := []) hx hb hml hown hts (okX11_divisor l D h_3) (cwS 2 hts gX11_partOf_X11_divisor rfl rfl rfl hdX11_divisor ⟨Nat.le_of_ble_eq_true rfl, Nat.le_of_ble_eq_true rfl⟩) hK hA hP hS rfl hl.1 rfl (Nat.le_of_ble_eq_true rfl) dX11_partOf_12 ⟨Nat.le_of_ble_eq_true rfl, Nat.le_of_ble_eq_true rfl⟩ (fun H locs hP hS => ?_)
    refine lv_lstore (lv' := [(5, .long y_2), (0, .long v0), (2, .long v2), (4, .int v4)]) hx hb dX11_partOf_15 hl (by decide) rfl (fun ls hl => ?_)
    refine lv_iload hx hb dX11_partOf_17 (lv_at hl 3 rfl) ?_
    refine lv_if_ne (tgt := 29) hx hb dX11_partOf_19 (by decide) (fun c_4 => ?_) (fun c_4 => ?_)
    · have heq := it_f c_4 heq
      refine lv_lload_n hx hb dX11_partOf_29 rfl (lv_at hl 2 rfl) ?_
      refine lv_lload hx hb dX11_partOf_30 (lv_at hl 0 rfl) ?_
      obtain ⟨n_5, heq⟩ := dvl_h heq
      refine lv_ldiv hx hb dX11_partOf_32 n_5 ?_
      exact b33 (v2 / y_2) H locs ls hP hD hS (lv_sub hl [] rfl) heq
    have heq := it_t c_4 heq
    refine lv_lload_n hx hb dX11_partOf_22 rfl (lv_at hl 1 rfl) ?_
    refine lv_lload hx hb dX11_partOf_23 (lv_at hl 0 rfl) ?_
    obtain ⟨n_6, heq⟩ := dvl_h heq
    refine lv_ldiv hx hb dX11_partOf_25 n_6 ?_
    refine lv_goto (tgt := 33) hx hb dX11_partOf_26 (by decide) ?_
    exact b33 (v0 / y_2) H locs ls hP hD hS (lv_sub hl [] rfl) heq
  have heq := it_t c_1 heq
  refine lv_iload hx hb dX11_partOf_6 (lv_at hl 2 rfl) ?_
  refine lv_i2l hx hb dX11_partOf_8 rfl ?_
  have heq := Option.some.inj heq
  subst heq
  exact hret 9 H locs ls hP hD hS dX11_partOf_9
set_option maxRecDepth 20000 in
theorem ggX11_anyWind_X11_in : GoodIn wsX11_anyWind wsX11_in := goodIn_r _ [10] (by decide +kernel) (by decide +kernel)
set_option maxRecDepth 20000 in
theorem gX11_anyWind_X11_in : GoodIn wsX11_anyWind (va_wsS RX11 81 yX11_in wsX11_in) := goodIn_app (goodIn_of _ (by decide +kernel)) ggX11_anyWind_X11_in
set_option maxRecDepth 20000 in
theorem ggX11_anyWind_X11_open : GoodIn wsX11_anyWind wsX11_open := goodIn_r _ [14, 15, 16, 17, 18, 9, 19, 20, 21, 22, 23, 24, 3, 25, 5, 26, 27, 28, 29, 30, 31, 32, 33, 93, 94, 95, 96, 97, 98, 99, 100, 101, 102, 103, 104, 105, 106, 107, 108, 109, 110, 111, 112, 113, 114, 115, 116, 117, 118, 119, 120, 121, 122, 123, 124, 125, 126, 127, 128, 129] (by decide +kernel) (by decide +kernel)
set_option maxRecDepth 20000 in
theorem gX11_anyWind_X11_open : GoodIn wsX11_anyWind (wsV RX11 238 RX11 yX11_open wsX11_open) := goodIn_app (goodIn_of _ (by decide +kernel)) ggX11_anyWind_X11_open
set_option maxRecDepth 20000 in
theorem ggX11_anyWind_X11_goesToLane : GoodIn wsX11_anyWind wsX11_goesToLane := goodIn_r _ [37, 38, 5, 39, 40, 41, 9, 42, 23, 43, 24, 44, 45, 46, 47, 48, 49, 50, 51, 52, 53, 54, 55, 56, 57, 58, 59, 60, 61, 62, 63, 64, 65, 66, 67, 68, 69, 70, 71, 72, 73, 74, 75, 76, 77, 78, 27, 26, 79, 80, 81, 82, 83, 84, 85, 86, 15, 16, 17, 18, 19, 20, 21, 22, 3, 25, 28, 29, 30, 31, 32, 33, 93, 94, 95, 96, 97, 98, 99, 100, 101, 102, 103, 104, 105, 106, 107, 108, 109, 110, 111, 112, 113, 114, 115, 116, 117, 118, 119, 120, 121, 122, 123, 124, 125, 126, 127, 128, 129] (by decide +kernel) (by decide +kernel)
set_option maxRecDepth 20000 in
theorem gX11_anyWind_X11_goesToLane : GoodIn wsX11_anyWind (wsV RX11 264 RX11 yX11_goesToLane wsX11_goesToLane) := goodIn_app (goodIn_of _ (by decide +kernel)) ggX11_anyWind_X11_goesToLane
set_option maxRecDepth 20000 in
theorem ggX11_anyWind_X11_partOf : GoodIn wsX11_anyWind wsX11_partOf := goodIn_r _ [89, 90, 91, 9, 92] (by decide +kernel) (by decide +kernel)
set_option maxRecDepth 20000 in
theorem gX11_anyWind_X11_partOf : GoodIn wsX11_anyWind (va_wsS RX11 277 yX11_partOf wsX11_partOf) := goodIn_app (goodIn_of _ (by decide +kernel)) ggX11_anyWind_X11_partOf
theorem dX11_anyWind_0 : decode cX11_anyWind 0 = .ok (.aload_n 0, 1) := by decide +kernel
theorem dX11_anyWind_1 : decode cX11_anyWind 1 = .ok (.iconst 0, 1) := by decide +kernel
theorem dX11_anyWind_2 : decode cX11_anyWind 2 = .ok (.putfield 75, 3) := by decide +kernel
theorem dX11_anyWind_5 : decode cX11_anyWind 5 = .ok (.iload_n 1, 1) := by decide +kernel
theorem dX11_anyWind_6 : decode cX11_anyWind 6 = .ok (.i2l, 1) := by decide +kernel
theorem dX11_anyWind_7 : decode cX11_anyWind 7 = .ok (.lconst 0, 1) := by decide +kernel
theorem dX11_anyWind_8 : decode cX11_anyWind 8 = .ok (.lconst 1, 1) := by decide +kernel
theorem dX11_anyWind_9 : decode cX11_anyWind 9 = .ok (.invokestatic 81, 3) := by decide +kernel
theorem dX11_anyWind_12 : decode cX11_anyWind 12 = .ok (.ifCond .ne 7, 3) := by decide +kernel
theorem dX11_anyWind_15 : decode cX11_anyWind 15 = .ok (.ldc2_w 271, 3) := by decide +kernel
theorem dX11_anyWind_18 : decode cX11_anyWind 18 = .ok (.lreturn, 1) := by decide +kernel
theorem dX11_anyWind_19 : decode cX11_anyWind 19 = .ok (.aload_n 0, 1) := by decide +kernel
theorem dX11_anyWind_20 : decode cX11_anyWind 20 = .ok (.getfield 122, 3) := by decide +kernel
theorem dX11_anyWind_23 : decode cX11_anyWind 23 = .ok (.ifCond .eq 7, 3) := by decide +kernel
theorem dX11_anyWind_26 : decode cX11_anyWind 26 = .ok (.ldc2_w 273, 3) := by decide +kernel
theorem dX11_anyWind_29 : decode cX11_anyWind 29 = .ok (.lreturn, 1) := by decide +kernel
theorem dX11_anyWind_30 : decode cX11_anyWind 30 = .ok (.iconst 0, 1) := by decide +kernel
theorem dX11_anyWind_31 : decode cX11_anyWind 31 = .ok (.istore_n 2, 1) := by decide +kernel
theorem dX11_anyWind_32 : decode cX11_anyWind 32 = .ok (.aload_n 0, 1) := by decide +kernel
theorem dX11_anyWind_33 : decode cX11_anyWind 33 = .ok (.invokevirtual 238, 3) := by decide +kernel
theorem dX11_anyWind_36 : decode cX11_anyWind 36 = .ok (.iconst 0, 1) := by decide +kernel
theorem dX11_anyWind_37 : decode cX11_anyWind 37 = .ok (.istore_n 3, 1) := by decide +kernel
theorem dX11_anyWind_38 : decode cX11_anyWind 38 = .ok (.iload_n 3, 1) := by decide +kernel
theorem dX11_anyWind_39 : decode cX11_anyWind 39 = .ok (.bipush 12, 2) := by decide +kernel
theorem dX11_anyWind_41 : decode cX11_anyWind 41 = .ok (.if_icmp .ge 31, 3) := by decide +kernel
theorem dX11_anyWind_44 : decode cX11_anyWind 44 = .ok (.aload_n 0, 1) := by decide +kernel
theorem dX11_anyWind_45 : decode cX11_anyWind 45 = .ok (.getfield 22, 3) := by decide +kernel
theorem dX11_anyWind_48 : decode cX11_anyWind 48 = .ok (.iconst 2, 1) := by decide +kernel
theorem dX11_anyWind_49 : decode cX11_anyWind 49 = .ok (.iload_n 3, 1) := by decide +kernel
theorem dX11_anyWind_50 : decode cX11_anyWind 50 = .ok (.iastore, 1) := by decide +kernel
theorem dX11_anyWind_51 : decode cX11_anyWind 51 = .ok (.iload_n 2, 1) := by decide +kernel
theorem dX11_anyWind_52 : decode cX11_anyWind 52 = .ok (.aload_n 0, 1) := by decide +kernel
theorem dX11_anyWind_53 : decode cX11_anyWind 53 = .ok (.invokevirtual 264, 3) := by decide +kernel
theorem dX11_anyWind_56 : decode cX11_anyWind 56 = .ok (.ifCond .eq 7, 3) := by decide +kernel
theorem dX11_anyWind_59 : decode cX11_anyWind 59 = .ok (.iconst 1, 1) := by decide +kernel
theorem dX11_anyWind_60 : decode cX11_anyWind 60 = .ok (.goto 4, 3) := by decide +kernel
theorem dX11_anyWind_63 : decode cX11_anyWind 63 = .ok (.iconst 0, 1) := by decide +kernel
theorem dX11_anyWind_64 : decode cX11_anyWind 64 = .ok (.iadd, 1) := by decide +kernel
theorem dX11_anyWind_65 : decode cX11_anyWind 65 = .ok (.istore_n 2, 1) := by decide +kernel
theorem dX11_anyWind_66 : decode cX11_anyWind 66 = .ok (.iinc 3 1, 3) := by decide +kernel
theorem dX11_anyWind_69 : decode cX11_anyWind 69 = .ok (.goto (-31), 3) := by decide +kernel
theorem dX11_anyWind_72 : decode cX11_anyWind 72 = .ok (.iload_n 2, 1) := by decide +kernel
theorem dX11_anyWind_73 : decode cX11_anyWind 73 = .ok (.i2l, 1) := by decide +kernel
theorem dX11_anyWind_74 : decode cX11_anyWind 74 = .ok (.ldc2_w 275, 3) := by decide +kernel
theorem dX11_anyWind_77 : decode cX11_anyWind 77 = .ok (.iload_n 1, 1) := by decide +kernel
theorem dX11_anyWind_78 : decode cX11_anyWind 78 = .ok (.invokestatic 277, 3) := by decide +kernel
theorem dX11_anyWind_81 : decode cX11_anyWind 81 = .ok (.lreturn, 1) := by decide +kernel
/-! anyWind -/
def X11_anyWind_p64 (k38 : MS → Int32 → Int32 → Int32 → Option (Int64 × MS)) (st : MS) (v1 : Int32) (v3 : Int32) (t0 : Int32) (t1 : Int32) : Option (Int64 × MS) :=
    nm ((t0 + t1)) fun x_1 =>
    nm (v3 + (1 : Int32)) fun x_2 =>
    k38 st v1 x_1 x_2
def X11_anyWind_p72 (st : MS) (v1 : Int32) (v2 : Int32) : Option (Int64 × MS) :=
    bd1 (X11_partOf (v2.toInt64) (12 : Int64) v1) fun y_3 =>
    some (y_3, st)
def X11_anyWind_p38 : Nat → MS → Int32 → Int32 → Int32 → Option (Int64 × MS)
  | 0, _, _, _, _ => none
  | n + 1, st, v1, v2, v3 =>
    if (12 : Int32) ≤ v3 then
      (X11_anyWind_p72 st v1 v2)
    else
    inr (2 : Int32) 7 <|
    nm (sA st 4 (2 : Int32).toNatClampNeg v3) fun st_7 =>
    bnd (X11_goesToLane st_7) fun y_9 st_8 =>
    if y_9 = 0 then
      (X11_anyWind_p64 (fun st v1 v2 v3 => X11_anyWind_p38  n st v1 v2 v3) st_8 v1 v3 v2 (0 : Int32))
    else
    X11_anyWind_p64 (fun st v1 v2 v3 => X11_anyWind_p38  n st v1 v2 v3) st_8 v1 v3 v2 (1 : Int32)
theorem X11_anyWind_p38_s (n : Nat) (st : MS) (v1 : Int32) (v2 : Int32) (v3 : Int32) : X11_anyWind_p38  (n + 1) st v1 v2 v3 =
    (if (12 : Int32) ≤ v3 then
      (X11_anyWind_p72 st v1 v2)
    else
    inr (2 : Int32) 7 <|
    nm (sA st 4 (2 : Int32).toNatClampNeg v3) fun st_7 =>
    bnd (X11_goesToLane st_7) fun y_9 st_8 =>
    if y_9 = 0 then
      (X11_anyWind_p64 (fun st v1 v2 v3 => X11_anyWind_p38  n st v1 v2 v3) st_8 v1 v3 v2 (0 : Int32))
    else
    X11_anyWind_p64 (fun st v1 v2 v3 => X11_anyWind_p38  n st v1 v2 v3) st_8 v1 v3 v2 (1 : Int32)) := rfl
def X11_anyWind (st : MS) (v1 : Int32) : Option (Int64 × MS) :=
    nm (sF st 17 (0 : Int32)) fun st_12 =>
    bd1 (X11_in (v1.toInt64) (0 : Int64) (1 : Int64)) fun y_13 =>
    if y_13 = 0 then
      (some ((-1000000001 : Int64), st_12))
    else
    if (gF st_12 7) = 0 then
      (bnd (X11_open st_12) fun _ st_17 =>
      X11_anyWind_p38 13 st_17 v1 (0 : Int32) (0 : Int32))
    else
    some ((-1000000003 : Int64), st_12)
abbrev rmX11_anyWind : Room := { frames := 8, cells := 0, slots := 0, locals := 173 }
theorem hdX11_anyWind : yX11_anyWind.cls = RX11 ∧ yX11_anyWind.cls ≠ "java/lang/invoke/MethodHandle" ∧ yX11_anyWind.cls ≠ "java/lang/invoke/VarHandle" ∧ (parseMethodDescriptor yX11_anyWind.desc).map (fun d => d.parameters.length) = some 1 := by decide +kernel
set_option maxRecDepth 100000 in
set_option maxHeartbeats 4000000 in
theorem okX11_anyWind (l : Launch) (D : va_G) (a : Nat → Nat) (T : mT3) {st : MS} {v1 : Int32} {r : Int64} {st' : MS} (heq : X11_anyWind st v1 = some (r, st')) : gCl l D (mT T) yX11_anyWind wsX11_anyWind rmX11_anyWind [.ref (a 0), .int v1] (mW a T st) r (mW a T st') := by
  refine g_body_l (by decide) rfl (Nat.le_of_ble_eq_true rfl) (fun p e s m args below meth c A Q hx hb hml hown hts hK hA hret ls hP hD hS hl => ?_)
  have hl : lv_has ls 4 [(0, .ref (a 0)), (1, .int v1)] := hl
  have hin : ∀ w ∈ wsX110, w ∈ wsX11_anyWind := fun w h => List.mem_cons_of_mem _ (List.mem_append_right _ h)
  have f22 : (Cond.fieldLink RX11 22 RX11 (TX11 4).2.1 (TX11 4).2.2.1).before args s = true := hts (.fieldLink RX11 22 "LaidDownTheLaneModel" "settings" "[I") (by decide +kernel)
  have f75 : (Cond.fieldLink RX11 75 RX11 (TX11 17).2.1 (TX11 17).2.2.1).before args s = true := hts (.fieldLink RX11 75 "LaidDownTheLaneModel" "thrown" "I") (by decide +kernel)
  have f122 : (Cond.fieldLink RX11 122 RX11 (TX11 7).2.1 (TX11 7).2.2.1).before args s = true := hts (.fieldLink RX11 122 "LaidDownTheLaneModel" "isDown" "Z") (by decide +kernel)
  have c271 := hts (.constantLong RX11 271 (-1000000001)) (by decide +kernel)
  have c273 := hts (.constantLong RX11 273 (-1000000003)) (by decide +kernel)
  have c275 := hts (.constantLong RX11 275 (12)) (by decide +kernel)
  have b64 : ∀ (k38 : MS → Int32 → Int32 → Int32 → Option (Int64 × MS)) (hk38 : ∀ (st : MS) (v1 : Int32) (v2 : Int32) (v3 : Int32) (H : Heap) (locs : List Loc) (ls : Array Slot), va_P D vwCl (mW a T st) H → va_D A (mW a T st) → va_S A s.heap H locs → lv_has ls 4 [(0, .ref (a 0)), (1, .int v1), (2, .int v2), (3, .int v3)] → k38 st v1 v2 v3 = some (r, st') → W p l e rmX11_anyWind s m args below meth c H locs 0 0 Q (F0 m 38 ls [])), ∀ (st : MS) (v1 : Int32) (v3 : Int32) (t0 : Int32) (t1 : Int32) (H : Heap) (locs : List Loc) (ls : Array Slot), va_P D vwCl (mW a T st) H → va_D A (mW a T st) → va_S A s.heap H locs → lv_has ls 4 [(0, .ref (a 0)), (1, .int v1), (3, .int v3)] → X11_anyWind_p64 k38 st v1 v3 t0 t1 = some (r, st') → W p l e rmX11_anyWind s m args below meth c H locs 0 0 Q (F0 m 64 ls [.int t1, .int t0]) := by
    intro k38 hk38 st v1 v3 t0 t1 H locs ls hP hD hS hl heq
    unfold X11_anyWind_p64 at heq
    refine lv_iadd hx hb dX11_anyWind_64 ?_
    refine lv_topi (fun x_1 ex_1 => ?_)
    have heq := nm_h ex_1 heq
    refine lv_istore_n (lv' := [(2, .int x_1), (0, .ref (a 0)), (1, .int v1), (3, .int v3)]) hx hb dX11_anyWind_65 rfl hl (by decide) rfl (fun ls hl => ?_)
    obtain ⟨x_2, ex_2⟩ : ∃ y : Int32, y = v3 + (1 : Int32) := ⟨_, rfl⟩
    have heq := nm_h ex_2 heq
    refine lv_iinc (v := x_2) (lv' := [(3, .int x_2), (2, .int x_1), (0, .ref (a 0)), (1, .int v1)]) hx hb dX11_anyWind_66 hl (k := 3) rfl (by rw [ex_2]; rfl) (by decide) rfl (fun ls hl => ?_)
    refine lv_goto (tgt := 38) hx hb dX11_anyWind_69 (by decide) ?_
    exact hk38 st v1 x_1 x_2 H locs ls hP hD hS (lv_sub hl [2, 3, 1, 0] rfl) heq
  have b72 : ∀ (st : MS) (v1 : Int32) (v2 : Int32) (H : Heap) (locs : List Loc) (ls : Array Slot), va_P D vwCl (mW a T st) H → va_D A (mW a T st) → va_S A s.heap H locs → lv_has ls 4 [(1, .int v1), (2, .int v2)] → X11_anyWind_p72  st v1 v2 = some (r, st') → W p l e rmX11_anyWind s m args below meth c H locs 0 0 Q (F0 m 72 ls []) := by
    intro st v1 v2 H locs ls hP hD hS hl heq
    unfold X11_anyWind_p72 at heq
    refine lv_iload_n hx hb dX11_anyWind_72 rfl (lv_at hl 1 rfl) ?_
    refine lv_i2l hx hb dX11_anyWind_73 rfl ?_
    refine lv_ldc2 (v := (12 : Int64)) hx hb hown c275 dX11_anyWind_74 ?_
    refine lv_iload_n hx hb dX11_anyWind_77 rfl (lv_at hl 0 rfl) ?_
    obtain ⟨y_3, h_4, heq⟩ := bd1_h heq
    refine g_sl (own := RX11) (D := D) (As := [.long (v2.toInt64), .long (12 : Int64), .int v1]) (rest := []) hx hb hml hown hts (okX11_partOf l D h_4) (cwS 3 hts gX11_anyWind_X11_partOf rfl rfl rfl hdX11_partOf ⟨Nat.le_of_ble_eq_true rfl, Nat.le_of_ble_eq_true rfl⟩) hK hA hP hS rfl hl.1 rfl (Nat.le_of_ble_eq_true rfl) dX11_anyWind_78 ⟨Nat.le_of_ble_eq_true rfl, Nat.le_of_ble_eq_true rfl⟩ (fun H locs hP hS => ?_)
    obtain ⟨heq, heq2⟩ := ret_h heq
    subst heq
    subst heq2
    exact hret 81 H locs ls hP hD hS dX11_anyWind_81
  have b38 : ∀ (n : Nat), ∀ (st : MS) (v1 : Int32) (v2 : Int32) (v3 : Int32) (H : Heap) (locs : List Loc) (ls : Array Slot), va_P D vwCl (mW a T st) H → va_D A (mW a T st) → va_S A s.heap H locs → lv_has ls 4 [(0, .ref (a 0)), (1, .int v1), (2, .int v2), (3, .int v3)] → X11_anyWind_p38  n st v1 v2 v3 = some (r, st') → W p l e rmX11_anyWind s m args below meth c H locs 0 0 Q (F0 m 38 ls []) := by
    intro n
    induction n with
    | zero => intro st v1 v2 v3 H locs ls hP hD hS hl heq; cases heq
    | succ n ih =>
      intro st v1 v2 v3 H locs ls hP hD hS hl heq
      rw [X11_anyWind_p38_s] at heq
      refine lv_iload_n hx hb dX11_anyWind_38 rfl (lv_at hl 3 rfl) ?_
      refine lv_bipush (v := (12 : Int32)) hx hb dX11_anyWind_39 (by decide) ?_
      refine lv_icmp_ge (tgt := 72) hx hb dX11_anyWind_41 (by decide) (fun c_5 => ?_) (fun c_5 => ?_)
      · have heq := it_t c_5 heq
        exact b72 st v1 v2 H locs ls hP hD hS (lv_sub hl [1, 2] rfl) heq
      have heq := it_f c_5 heq
      refine lv_aload_n hx hb dX11_anyWind_44 rfl (lv_at hl 0 rfl) ?_
      refine mg (k := 4) (v := .ref (a 5)) hx hb hts hin hown hK hP (by decide) f22 rfl dX11_anyWind_45 rfl ?_
      refine lv_iconst (v := (2 : Int32)) hx hb dX11_anyWind_48 (by decide) ?_
      refine lv_iload_n hx hb dX11_anyWind_49 rfl (lv_at hl 3 rfl) ?_
      obtain ⟨n_6, heq⟩ := inr_h heq
      refine mas (k := 4) (q := 5) (n := 7) hx hb hK hP hD hS rfl (maset_4 ..) n_6 dX11_anyWind_50 (fun H locs hP hD hS => ?_)
      obtain ⟨st_7, est_7⟩ : ∃ z, z = sA st 4 (2 : Int32).toNatClampNeg v3 := ⟨_, rfl⟩
      rw [← est_7] at hP hD
      have heq := nm_h est_7 heq
      refine lv_iload_n hx hb dX11_anyWind_51 rfl (lv_at hl 2 rfl) ?_
      refine lv_aload_n hx hb dX11_anyWind_52 rfl (lv_at hl 0 rfl) ?_
      obtain ⟨y_9, st_8, h_10, heq⟩ := bnd_h heq
      refine g_vi (own := RX11) (As := []) (rest := [.int v2]) hx hb hml hown hts (okX11_goesToLane l D a T h_10) (cwV 0 hts gX11_anyWind_X11_goesToLane rfl rfl rfl hdX11_goesToLane ⟨Nat.le_of_ble_eq_true rfl, Nat.le_of_ble_eq_true rfl⟩) hK hA hP hD hS (ci := 11) (q0 := 0) rfl rfl rfl hl.1 rfl (Nat.le_of_ble_eq_true rfl) dX11_anyWind_53 ⟨Nat.le_of_ble_eq_true rfl, Nat.le_of_ble_eq_true rfl⟩ (fun H locs hP hD hS => ?_)
      refine lv_if_eq (tgt := 63) hx hb dX11_anyWind_56 (by decide) (fun c_11 => ?_) (fun c_11 => ?_)
      · have heq := it_t c_11 heq
        refine lv_iconst (v := (0 : Int32)) hx hb dX11_anyWind_63 (by decide) ?_
        exact b64 (fun st v1 v2 v3 => X11_anyWind_p38  n st v1 v2 v3) ih st_8 v1 v3 v2 (0 : Int32) H locs ls hP hD hS (lv_sub hl [0, 1, 3] rfl) heq
      have heq := it_f c_11 heq
      refine lv_iconst (v := (1 : Int32)) hx hb dX11_anyWind_59 (by decide) ?_
      refine lv_goto (tgt := 64) hx hb dX11_anyWind_60 (by decide) ?_
      exact b64 (fun st v1 v2 v3 => X11_anyWind_p38  n st v1 v2 v3) ih st_8 v1 v3 v2 (1 : Int32) H locs ls hP hD hS (lv_sub hl [0, 1, 3] rfl) heq
  obtain ⟨H, hH⟩ : ∃ H, H = s.heap := ⟨_, rfl⟩
  obtain ⟨locs, hlocs⟩ : ∃ z : List Loc, z = [] := ⟨_, rfl⟩
  have hS : va_S A s.heap H locs := by rw [hH, hlocs]; exact hS
  have hP : va_P D vwCl (mW a T st) H := by rw [hH]; exact hP
  suffices h9 : W p l e rmX11_anyWind s m args below meth c H locs 0 0 Q (F0 m 0 ls []) by rw [hH, hlocs] at h9; exact h9
  clear hH hlocs
  unfold X11_anyWind at heq
  refine lv_aload_n hx hb dX11_anyWind_0 rfl (lv_at hl 0 rfl) ?_
  refine lv_iconst (v := (0 : Int32)) hx hb dX11_anyWind_1 (by decide) ?_
  refine mp (k := 17) hx hb hts hin hown hK hP hD hS (by decide) f75 dX11_anyWind_2 rfl rfl rfl rfl (mset_17 ..) (fun H locs hP hD hS => ?_)
  obtain ⟨st_12, est_12⟩ : ∃ z, z = sF st 17 (0 : Int32) := ⟨_, rfl⟩
  rw [← est_12] at hP hD
  have heq := nm_h est_12 heq
  refine lv_iload_n hx hb dX11_anyWind_5 rfl (lv_at hl 1 rfl) ?_
  refine lv_i2l hx hb dX11_anyWind_6 rfl ?_
  refine lv_lconst (v := (0 : Int64)) hx hb dX11_anyWind_7 (by decide) ?_
  refine lv_lconst (v := (1 : Int64)) hx hb dX11_anyWind_8 (by decide) ?_
  obtain ⟨y_13, h_14, heq⟩ := bd1_h heq
  refine g_si (own := RX11) (D := D) (As := [.long (v1.toInt64), .long (0 : Int64), .long (1 : Int64)]) (rest := []) hx hb hml hown hts (okX11_in l D h_14) (cwS 3 hts gX11_anyWind_X11_in rfl rfl rfl hdX11_in ⟨Nat.le_of_ble_eq_true rfl, Nat.le_of_ble_eq_true rfl⟩) hK hA hP hS rfl hl.1 rfl (Nat.le_of_ble_eq_true rfl) dX11_anyWind_9 ⟨Nat.le_of_ble_eq_true rfl, Nat.le_of_ble_eq_true rfl⟩ (fun H locs hP hS => ?_)
  refine lv_if_ne (tgt := 19) hx hb dX11_anyWind_12 (by decide) (fun c_15 => ?_) (fun c_15 => ?_)
  · have heq := it_f c_15 heq
    refine lv_aload_n hx hb dX11_anyWind_19 rfl (lv_at hl 0 rfl) ?_
    refine mg (k := 7) (v := .int (gF st_12 7)) hx hb hts hin hown hK hP (by decide) f122 rfl dX11_anyWind_20 rfl ?_
    refine lv_if_eq (tgt := 30) hx hb dX11_anyWind_23 (by decide) (fun c_16 => ?_) (fun c_16 => ?_)
    · have heq := it_t c_16 heq
      refine lv_iconst (v := (0 : Int32)) hx hb dX11_anyWind_30 (by decide) ?_
      refine lv_istore_n (lv' := [(2, .int (0 : Int32)), (0, .ref (a 0)), (1, .int v1)]) hx hb dX11_anyWind_31 rfl hl (by decide) rfl (fun ls hl => ?_)
      refine lv_aload_n hx hb dX11_anyWind_32 rfl (lv_at hl 1 rfl) ?_
      obtain ⟨⟨⟩, st_17, h_18, heq⟩ := bnd_h heq
      refine g_vv (own := RX11) (As := []) (rest := []) hx hb hml hown hts (okX11_open l D a T h_18) (cwV 0 hts gX11_anyWind_X11_open rfl rfl rfl hdX11_open ⟨Nat.le_of_ble_eq_true rfl, Nat.le_of_ble_eq_true rfl⟩) hK hA hP hD hS (ci := 11) (q0 := 0) rfl rfl rfl hl.1 rfl (Nat.le_of_ble_eq_true rfl) dX11_anyWind_33 ⟨Nat.le_of_ble_eq_true rfl, Nat.le_of_ble_eq_true rfl⟩ (fun H locs hP hD hS => ?_)
      refine lv_iconst (v := (0 : Int32)) hx hb dX11_anyWind_36 (by decide) ?_
      refine lv_istore_n (lv' := [(3, .int (0 : Int32)), (2, .int (0 : Int32)), (0, .ref (a 0)), (1, .int v1)]) hx hb dX11_anyWind_37 rfl hl (by decide) rfl (fun ls hl => ?_)
      exact b38 13 st_17 v1 (0 : Int32) (0 : Int32) H locs ls hP hD hS (lv_sub hl [2, 3, 1, 0] rfl) heq
    have heq := it_f c_16 heq
    refine lv_ldc2 (v := (-1000000003 : Int64)) hx hb hown c273 dX11_anyWind_26 ?_
    obtain ⟨heq, heq2⟩ := ret_h heq
    subst heq
    subst heq2
    exact hret 29 H locs ls hP hD hS dX11_anyWind_29
  have heq := it_t c_15 heq
  refine lv_ldc2 (v := (-1000000001 : Int64)) hx hb hown c271 dX11_anyWind_15 ?_
  obtain ⟨heq, heq2⟩ := ret_h heq
  subst heq
  subst heq2
  exact hret 18 H locs ls hP hD hS dX11_anyWind_18
set_option maxRecDepth 20000 in
theorem ggX11_unlike_X11_in : GoodIn wsX11_unlike wsX11_in := goodIn_r _ [9] (by decide +kernel) (by decide +kernel)
set_option maxRecDepth 20000 in
theorem gX11_unlike_X11_in : GoodIn wsX11_unlike (va_wsS RX11 81 yX11_in wsX11_in) := goodIn_app (goodIn_of _ (by decide +kernel)) ggX11_unlike_X11_in
set_option maxRecDepth 20000 in
theorem ggX11_unlike_X11_burnsOf : GoodIn wsX11_unlike wsX11_burnsOf := goodIn_r _ [13, 14, 15, 92, 93, 94, 95, 96, 97, 98, 99, 100, 101, 102, 103, 104, 105, 106, 107, 108, 109, 110, 111, 112, 113, 114, 115, 116, 117, 118, 119, 120, 121, 122, 123, 124, 125, 126, 127, 128] (by decide +kernel) (by decide +kernel)
set_option maxRecDepth 20000 in
theorem gX11_unlike_X11_burnsOf : GoodIn wsX11_unlike (wsV RX11 85 RX11 yX11_burnsOf wsX11_burnsOf) := goodIn_app (goodIn_of _ (by decide +kernel)) ggX11_unlike_X11_burnsOf
set_option maxRecDepth 20000 in
theorem ggX11_unlike_X11_open : GoodIn wsX11_unlike wsX11_open := goodIn_r _ [19, 20, 21, 22, 23, 8, 24, 25, 26, 27, 28, 29, 3, 30, 31, 15, 14, 32, 33, 34, 35, 36, 37, 92, 93, 94, 95, 96, 97, 98, 99, 100, 101, 102, 103, 104, 105, 106, 107, 108, 109, 110, 111, 112, 113, 114, 115, 116, 117, 118, 119, 120, 121, 122, 123, 124, 125, 126, 127, 128] (by decide +kernel) (by decide +kernel)
set_option maxRecDepth 20000 in
theorem gX11_unlike_X11_open : GoodIn wsX11_unlike (wsV RX11 238 RX11 yX11_open wsX11_open) := goodIn_app (goodIn_of _ (by decide +kernel)) ggX11_unlike_X11_open
set_option maxRecDepth 20000 in
theorem ggX11_unlike_X11_goesToLane : GoodIn wsX11_unlike wsX11_goesToLane := goodIn_r _ [41, 42, 31, 43, 44, 45, 8, 46, 28, 47, 29, 48, 49, 50, 51, 52, 53, 54, 55, 56, 57, 58, 59, 60, 61, 62, 63, 64, 65, 66, 67, 68, 69, 70, 71, 72, 73, 74, 75, 76, 77, 5, 10, 11, 12, 13, 14, 15, 78, 79, 80, 81, 82, 83, 84, 85, 20, 21, 22, 23, 24, 25, 26, 27, 3, 30, 32, 33, 34, 35, 36, 37, 92, 93, 94, 95, 96, 97, 98, 99, 100, 101, 102, 103, 104, 105, 106, 107, 108, 109, 110, 111, 112, 113, 114, 115, 116, 117, 118, 119, 120, 121, 122, 123, 124, 125, 126, 127, 128] (by decide +kernel) (by decide +kernel)
set_option maxRecDepth 20000 in
theorem gX11_unlike_X11_goesToLane : GoodIn wsX11_unlike (wsV RX11 264 RX11 yX11_goesToLane wsX11_goesToLane) := goodIn_app (goodIn_of _ (by decide +kernel)) ggX11_unlike_X11_goesToLane
set_option maxRecDepth 20000 in
theorem ggX11_unlike_X11_partOf : GoodIn wsX11_unlike wsX11_partOf := goodIn_r _ [88, 89, 90, 8, 91] (by decide +kernel) (by decide +kernel)
set_option maxRecDepth 20000 in
theorem gX11_unlike_X11_partOf : GoodIn wsX11_unlike (va_wsS RX11 277 yX11_partOf wsX11_partOf) := goodIn_app (goodIn_of _ (by decide +kernel)) ggX11_unlike_X11_partOf
theorem dX11_unlike_0 : decode cX11_unlike 0 = .ok (.aload_n 0, 1) := by decide +kernel
theorem dX11_unlike_1 : decode cX11_unlike 1 = .ok (.iconst 0, 1) := by decide +kernel
theorem dX11_unlike_2 : decode cX11_unlike 2 = .ok (.putfield 75, 3) := by decide +kernel
theorem dX11_unlike_5 : decode cX11_unlike 5 = .ok (.iload_n 1, 1) := by decide +kernel
theorem dX11_unlike_6 : decode cX11_unlike 6 = .ok (.i2l, 1) := by decide +kernel
theorem dX11_unlike_7 : decode cX11_unlike 7 = .ok (.lconst 0, 1) := by decide +kernel
theorem dX11_unlike_8 : decode cX11_unlike 8 = .ok (.lconst 1, 1) := by decide +kernel
theorem dX11_unlike_9 : decode cX11_unlike 9 = .ok (.invokestatic 81, 3) := by decide +kernel
theorem dX11_unlike_12 : decode cX11_unlike 12 = .ok (.ifCond .ne 7, 3) := by decide +kernel
theorem dX11_unlike_15 : decode cX11_unlike 15 = .ok (.ldc2_w 271, 3) := by decide +kernel
theorem dX11_unlike_18 : decode cX11_unlike 18 = .ok (.lreturn, 1) := by decide +kernel
theorem dX11_unlike_19 : decode cX11_unlike 19 = .ok (.iconst 0, 1) := by decide +kernel
theorem dX11_unlike_20 : decode cX11_unlike 20 = .ok (.istore_n 2, 1) := by decide +kernel
theorem dX11_unlike_21 : decode cX11_unlike 21 = .ok (.iconst 1, 1) := by decide +kernel
theorem dX11_unlike_22 : decode cX11_unlike 22 = .ok (.istore_n 3, 1) := by decide +kernel
theorem dX11_unlike_23 : decode cX11_unlike 23 = .ok (.iconst 0, 1) := by decide +kernel
theorem dX11_unlike_24 : decode cX11_unlike 24 = .ok (.istore 4, 2) := by decide +kernel
theorem dX11_unlike_26 : decode cX11_unlike 26 = .ok (.iload 4, 2) := by decide +kernel
theorem dX11_unlike_28 : decode cX11_unlike 28 = .ok (.bipush 12, 2) := by decide +kernel
theorem dX11_unlike_30 : decode cX11_unlike 30 = .ok (.if_icmp .ge 49, 3) := by decide +kernel
theorem dX11_unlike_33 : decode cX11_unlike 33 = .ok (.iload_n 2, 1) := by decide +kernel
theorem dX11_unlike_34 : decode cX11_unlike 34 = .ok (.aload_n 0, 1) := by decide +kernel
theorem dX11_unlike_35 : decode cX11_unlike 35 = .ok (.iload 4, 2) := by decide +kernel
theorem dX11_unlike_37 : decode cX11_unlike 37 = .ok (.invokevirtual 85, 3) := by decide +kernel
theorem dX11_unlike_40 : decode cX11_unlike 40 = .ok (.ifCond .ge 7, 3) := by decide +kernel
theorem dX11_unlike_43 : decode cX11_unlike 43 = .ok (.iconst 0, 1) := by decide +kernel
theorem dX11_unlike_44 : decode cX11_unlike 44 = .ok (.goto 4, 3) := by decide +kernel
theorem dX11_unlike_47 : decode cX11_unlike 47 = .ok (.iconst 1, 1) := by decide +kernel
theorem dX11_unlike_48 : decode cX11_unlike 48 = .ok (.iadd, 1) := by decide +kernel
theorem dX11_unlike_49 : decode cX11_unlike 49 = .ok (.istore_n 2, 1) := by decide +kernel
theorem dX11_unlike_50 : decode cX11_unlike 50 = .ok (.iload_n 3, 1) := by decide +kernel
theorem dX11_unlike_51 : decode cX11_unlike 51 = .ok (.aload_n 0, 1) := by decide +kernel
theorem dX11_unlike_52 : decode cX11_unlike 52 = .ok (.iload 4, 2) := by decide +kernel
theorem dX11_unlike_54 : decode cX11_unlike 54 = .ok (.invokevirtual 85, 3) := by decide +kernel
theorem dX11_unlike_57 : decode cX11_unlike 57 = .ok (.ifCond .lt 9, 3) := by decide +kernel
theorem dX11_unlike_60 : decode cX11_unlike 60 = .ok (.iload_n 2, 1) := by decide +kernel
theorem dX11_unlike_61 : decode cX11_unlike 61 = .ok (.bipush 6, 2) := by decide +kernel
theorem dX11_unlike_63 : decode cX11_unlike 63 = .ok (.if_icmp .le 7, 3) := by decide +kernel
theorem dX11_unlike_66 : decode cX11_unlike 66 = .ok (.iconst 1, 1) := by decide +kernel
theorem dX11_unlike_67 : decode cX11_unlike 67 = .ok (.goto 4, 3) := by decide +kernel
theorem dX11_unlike_70 : decode cX11_unlike 70 = .ok (.iconst 3, 1) := by decide +kernel
theorem dX11_unlike_71 : decode cX11_unlike 71 = .ok (.imul, 1) := by decide +kernel
theorem dX11_unlike_72 : decode cX11_unlike 72 = .ok (.istore_n 3, 1) := by decide +kernel
theorem dX11_unlike_73 : decode cX11_unlike 73 = .ok (.iinc 4 1, 3) := by decide +kernel
theorem dX11_unlike_76 : decode cX11_unlike 76 = .ok (.goto (-50), 3) := by decide +kernel
theorem dX11_unlike_79 : decode cX11_unlike 79 = .ok (.aload_n 0, 1) := by decide +kernel
theorem dX11_unlike_80 : decode cX11_unlike 80 = .ok (.getfield 122, 3) := by decide +kernel
theorem dX11_unlike_83 : decode cX11_unlike 83 = .ok (.ifCond .ne 9, 3) := by decide +kernel
theorem dX11_unlike_86 : decode cX11_unlike 86 = .ok (.iload_n 2, 1) := by decide +kernel
theorem dX11_unlike_87 : decode cX11_unlike 87 = .ok (.bipush 6, 2) := by decide +kernel
theorem dX11_unlike_89 : decode cX11_unlike 89 = .ok (.if_icmp .le 7, 3) := by decide +kernel
theorem dX11_unlike_92 : decode cX11_unlike 92 = .ok (.ldc2_w 273, 3) := by decide +kernel
theorem dX11_unlike_95 : decode cX11_unlike 95 = .ok (.lreturn, 1) := by decide +kernel
theorem dX11_unlike_96 : decode cX11_unlike 96 = .ok (.iconst 0, 1) := by decide +kernel
theorem dX11_unlike_97 : decode cX11_unlike 97 = .ok (.istore 4, 2) := by decide +kernel
theorem dX11_unlike_99 : decode cX11_unlike 99 = .ok (.aload_n 0, 1) := by decide +kernel
theorem dX11_unlike_100 : decode cX11_unlike 100 = .ok (.invokevirtual 238, 3) := by decide +kernel
theorem dX11_unlike_103 : decode cX11_unlike 103 = .ok (.iconst 0, 1) := by decide +kernel
theorem dX11_unlike_104 : decode cX11_unlike 104 = .ok (.istore 5, 2) := by decide +kernel
theorem dX11_unlike_106 : decode cX11_unlike 106 = .ok (.iload 5, 2) := by decide +kernel
theorem dX11_unlike_108 : decode cX11_unlike 108 = .ok (.iload_n 3, 1) := by decide +kernel
theorem dX11_unlike_109 : decode cX11_unlike 109 = .ok (.if_icmp .ge 74, 3) := by decide +kernel
theorem dX11_unlike_112 : decode cX11_unlike 112 = .ok (.iload 5, 2) := by decide +kernel
theorem dX11_unlike_114 : decode cX11_unlike 114 = .ok (.istore 6, 2) := by decide +kernel
theorem dX11_unlike_116 : decode cX11_unlike 116 = .ok (.iconst 0, 1) := by decide +kernel
theorem dX11_unlike_117 : decode cX11_unlike 117 = .ok (.istore 7, 2) := by decide +kernel
theorem dX11_unlike_119 : decode cX11_unlike 119 = .ok (.iload 7, 2) := by decide +kernel
theorem dX11_unlike_121 : decode cX11_unlike 121 = .ok (.bipush 12, 2) := by decide +kernel
theorem dX11_unlike_123 : decode cX11_unlike 123 = .ok (.if_icmp .ge 37, 3) := by decide +kernel
theorem dX11_unlike_126 : decode cX11_unlike 126 = .ok (.aload_n 0, 1) := by decide +kernel
theorem dX11_unlike_127 : decode cX11_unlike 127 = .ok (.iload 7, 2) := by decide +kernel
theorem dX11_unlike_129 : decode cX11_unlike 129 = .ok (.invokevirtual 85, 3) := by decide +kernel
theorem dX11_unlike_132 : decode cX11_unlike 132 = .ok (.ifCond .lt 22, 3) := by decide +kernel
theorem dX11_unlike_135 : decode cX11_unlike 135 = .ok (.aload_n 0, 1) := by decide +kernel
theorem dX11_unlike_136 : decode cX11_unlike 136 = .ok (.getfield 50, 3) := by decide +kernel
theorem dX11_unlike_139 : decode cX11_unlike 139 = .ok (.iload 7, 2) := by decide +kernel
theorem dX11_unlike_141 : decode cX11_unlike 141 = .ok (.iload 6, 2) := by decide +kernel
theorem dX11_unlike_143 : decode cX11_unlike 143 = .ok (.iconst 3, 1) := by decide +kernel
theorem dX11_unlike_144 : decode cX11_unlike 144 = .ok (.irem, 1) := by decide +kernel
theorem dX11_unlike_145 : decode cX11_unlike 145 = .ok (.iconst 1, 1) := by decide +kernel
theorem dX11_unlike_146 : decode cX11_unlike 146 = .ok (.isub, 1) := by decide +kernel
theorem dX11_unlike_147 : decode cX11_unlike 147 = .ok (.iastore, 1) := by decide +kernel
theorem dX11_unlike_148 : decode cX11_unlike 148 = .ok (.iload 6, 2) := by decide +kernel
theorem dX11_unlike_150 : decode cX11_unlike 150 = .ok (.iconst 3, 1) := by decide +kernel
theorem dX11_unlike_151 : decode cX11_unlike 151 = .ok (.idiv, 1) := by decide +kernel
theorem dX11_unlike_152 : decode cX11_unlike 152 = .ok (.istore 6, 2) := by decide +kernel
theorem dX11_unlike_154 : decode cX11_unlike 154 = .ok (.iinc 7 1, 3) := by decide +kernel
theorem dX11_unlike_157 : decode cX11_unlike 157 = .ok (.goto (-38), 3) := by decide +kernel
theorem dX11_unlike_160 : decode cX11_unlike 160 = .ok (.iload 4, 2) := by decide +kernel
theorem dX11_unlike_162 : decode cX11_unlike 162 = .ok (.aload_n 0, 1) := by decide +kernel
theorem dX11_unlike_163 : decode cX11_unlike 163 = .ok (.invokevirtual 264, 3) := by decide +kernel
theorem dX11_unlike_166 : decode cX11_unlike 166 = .ok (.ifCond .eq 7, 3) := by decide +kernel
theorem dX11_unlike_169 : decode cX11_unlike 169 = .ok (.iconst 1, 1) := by decide +kernel
theorem dX11_unlike_170 : decode cX11_unlike 170 = .ok (.goto 4, 3) := by decide +kernel
theorem dX11_unlike_173 : decode cX11_unlike 173 = .ok (.iconst 0, 1) := by decide +kernel
theorem dX11_unlike_174 : decode cX11_unlike 174 = .ok (.iadd, 1) := by decide +kernel
theorem dX11_unlike_175 : decode cX11_unlike 175 = .ok (.istore 4, 2) := by decide +kernel
theorem dX11_unlike_177 : decode cX11_unlike 177 = .ok (.iinc 5 1, 3) := by decide +kernel
theorem dX11_unlike_180 : decode cX11_unlike 180 = .ok (.goto (-74), 3) := by decide +kernel
theorem dX11_unlike_183 : decode cX11_unlike 183 = .ok (.iconst 0, 1) := by decide +kernel
theorem dX11_unlike_184 : decode cX11_unlike 184 = .ok (.istore 5, 2) := by decide +kernel
theorem dX11_unlike_186 : decode cX11_unlike 186 = .ok (.iload 5, 2) := by decide +kernel
theorem dX11_unlike_188 : decode cX11_unlike 188 = .ok (.bipush 12, 2) := by decide +kernel
theorem dX11_unlike_190 : decode cX11_unlike 190 = .ok (.if_icmp .ge 17, 3) := by decide +kernel
theorem dX11_unlike_193 : decode cX11_unlike 193 = .ok (.aload_n 0, 1) := by decide +kernel
theorem dX11_unlike_194 : decode cX11_unlike 194 = .ok (.getfield 50, 3) := by decide +kernel
theorem dX11_unlike_197 : decode cX11_unlike 197 = .ok (.iload 5, 2) := by decide +kernel
theorem dX11_unlike_199 : decode cX11_unlike 199 = .ok (.iconst 0, 1) := by decide +kernel
theorem dX11_unlike_200 : decode cX11_unlike 200 = .ok (.iastore, 1) := by decide +kernel
theorem dX11_unlike_201 : decode cX11_unlike 201 = .ok (.iinc 5 1, 3) := by decide +kernel
theorem dX11_unlike_204 : decode cX11_unlike 204 = .ok (.goto (-18), 3) := by decide +kernel
theorem dX11_unlike_207 : decode cX11_unlike 207 = .ok (.iload 4, 2) := by decide +kernel
theorem dX11_unlike_209 : decode cX11_unlike 209 = .ok (.i2l, 1) := by decide +kernel
theorem dX11_unlike_210 : decode cX11_unlike 210 = .ok (.iload_n 3, 1) := by decide +kernel
theorem dX11_unlike_211 : decode cX11_unlike 211 = .ok (.i2l, 1) := by decide +kernel
theorem dX11_unlike_212 : decode cX11_unlike 212 = .ok (.iload_n 1, 1) := by decide +kernel
theorem dX11_unlike_213 : decode cX11_unlike 213 = .ok (.invokestatic 277, 3) := by decide +kernel
theorem dX11_unlike_216 : decode cX11_unlike 216 = .ok (.lreturn, 1) := by decide +kernel
/-! unlike -/
def X11_unlike_p71 (k26 : MS → Int32 → Int32 → Int32 → Int32 → Option (Int64 × MS)) (st : MS) (v1 : Int32) (v2 : Int32) (v4 : Int32) (t0 : Int32) (t1 : Int32) : Option (Int64 × MS) :=
    nm ((t0 * t1)) fun x_1 =>
    nm (v4 + (1 : Int32)) fun x_2 =>
    k26 st v1 v2 x_1 x_2
def X11_unlike_p66 (k26 : MS → Int32 → Int32 → Int32 → Int32 → Option (Int64 × MS)) (st : MS) (v1 : Int32) (v2 : Int32) (v4 : Int32) (t0 : Int32) : Option (Int64 × MS) :=
    X11_unlike_p71 k26 st v1 v2 v4 t0 (1 : Int32)
def X11_unlike_p48 (k26 : MS → Int32 → Int32 → Int32 → Int32 → Option (Int64 × MS)) (st : MS) (v1 : Int32) (v3 : Int32) (v4 : Int32) (t0 : Int32) (t1 : Int32) : Option (Int64 × MS) :=
    nm ((t0 + t1)) fun x_3 =>
    bnd (X11_burnsOf st v4) fun y_5 st_4 =>
    if y_5 < 0 then
      (X11_unlike_p66 k26 st_4 v1 x_3 v4 v3)
    else
    if x_3 ≤ (6 : Int32) then
      (X11_unlike_p71 k26 st_4 v1 x_3 v4 v3 (3 : Int32))
    else
    X11_unlike_p66 k26 st_4 v1 x_3 v4 v3
def X11_unlike_p92 (st : MS) : Option (Int64 × MS) :=
    some ((-1000000003 : Int64), st)
def X11_unlike_p154 (k106 : MS → Int32 → Int32 → Int32 → Int32 → Option (Int64 × MS)) (k119 : MS → Int32 → Int32 → Int32 → Int32 → Int32 → Int32 → Option (Int64 × MS)) (st : MS) (v1 : Int32) (v3 : Int32) (v4 : Int32) (v5 : Int32) (v6 : Int32) (v7 : Int32) : Option (Int64 × MS) :=
    nm (v7 + (1 : Int32)) fun x_9 =>
    k119 st v1 v3 v4 v5 v6 x_9
def X11_unlike_p174 (k106 : MS → Int32 → Int32 → Int32 → Int32 → Option (Int64 × MS)) (st : MS) (v1 : Int32) (v3 : Int32) (v5 : Int32) (t0 : Int32) (t1 : Int32) : Option (Int64 × MS) :=
    nm ((t0 + t1)) fun x_10 =>
    nm (v5 + (1 : Int32)) fun x_11 =>
    k106 st v1 v3 x_10 x_11
def X11_unlike_p160 (k106 : MS → Int32 → Int32 → Int32 → Int32 → Option (Int64 × MS)) (st : MS) (v1 : Int32) (v3 : Int32) (v4 : Int32) (v5 : Int32) : Option (Int64 × MS) :=
    bnd (X11_goesToLane st) fun y_13 st_12 =>
    if y_13 = 0 then
      (X11_unlike_p174 k106 st_12 v1 v3 v5 v4 (0 : Int32))
    else
    X11_unlike_p174 k106 st_12 v1 v3 v5 v4 (1 : Int32)
def X11_unlike_p119 (k106 : MS → Int32 → Int32 → Int32 → Int32 → Option (Int64 × MS)) : Nat → MS → Int32 → Int32 → Int32 → Int32 → Int32 → Int32 → Option (Int64 × MS)
  | 0, _, _, _, _, _, _, _ => none
  | n + 1, st, v1, v3, v4, v5, v6, v7 =>
    if (12 : Int32) ≤ v7 then
      (X11_unlike_p160 k106 st v1 v3 v4 v5)
    else
    bnd (X11_burnsOf st v7) fun y_18 st_17 =>
    if y_18 < 0 then
      (X11_unlike_p154 k106 (fun st v1 v3 v4 v5 v6 v7 => X11_unlike_p119 k106 n st v1 v3 v4 v5 v6 v7) st_17 v1 v3 v4 v5 v6 v7)
    else
    dvi (3 : Int32) <|
    inr v7 12 <|
    nm (sA st_17 18 v7.toNatClampNeg ((v6 - v6 / (3 : Int32) * (3 : Int32)) - (1 : Int32))) fun st_23 =>
    dvi (3 : Int32) <|
    nm ((v6 / (3 : Int32))) fun x_25 =>
    X11_unlike_p154 k106 (fun st v1 v3 v4 v5 v6 v7 => X11_unlike_p119 k106 n st v1 v3 v4 v5 v6 v7) st_23 v1 v3 v4 v5 x_25 v7
theorem X11_unlike_p119_s (k106 : MS → Int32 → Int32 → Int32 → Int32 → Option (Int64 × MS)) (n : Nat) (st : MS) (v1 : Int32) (v3 : Int32) (v4 : Int32) (v5 : Int32) (v6 : Int32) (v7 : Int32) : X11_unlike_p119 k106 (n + 1) st v1 v3 v4 v5 v6 v7 =
    (if (12 : Int32) ≤ v7 then
      (X11_unlike_p160 k106 st v1 v3 v4 v5)
    else
    bnd (X11_burnsOf st v7) fun y_18 st_17 =>
    if y_18 < 0 then
      (X11_unlike_p154 k106 (fun st v1 v3 v4 v5 v6 v7 => X11_unlike_p119 k106 n st v1 v3 v4 v5 v6 v7) st_17 v1 v3 v4 v5 v6 v7)
    else
    dvi (3 : Int32) <|
    inr v7 12 <|
    nm (sA st_17 18 v7.toNatClampNeg ((v6 - v6 / (3 : Int32) * (3 : Int32)) - (1 : Int32))) fun st_23 =>
    dvi (3 : Int32) <|
    nm ((v6 / (3 : Int32))) fun x_25 =>
    X11_unlike_p154 k106 (fun st v1 v3 v4 v5 v6 v7 => X11_unlike_p119 k106 n st v1 v3 v4 v5 v6 v7) st_23 v1 v3 v4 v5 x_25 v7) := rfl
def X11_unlike_p207 (st : MS) (v1 : Int32) (v3 : Int32) (v4 : Int32) : Option (Int64 × MS) :=
    bd1 (X11_partOf (v4.toInt64) (v3.toInt64) v1) fun y_26 =>
    some (y_26, st)
def X11_unlike_p186 : Nat → MS → Int32 → Int32 → Int32 → Int32 → Option (Int64 × MS)
  | 0, _, _, _, _, _ => none
  | n + 1, st, v1, v3, v4, v5 =>
    if (12 : Int32) ≤ v5 then
      (X11_unlike_p207 st v1 v3 v4)
    else
    inr v5 12 <|
    nm (sA st 18 v5.toNatClampNeg (0 : Int32)) fun st_30 =>
    nm (v5 + (1 : Int32)) fun x_31 =>
    X11_unlike_p186  n st_30 v1 v3 v4 x_31
theorem X11_unlike_p186_s (n : Nat) (st : MS) (v1 : Int32) (v3 : Int32) (v4 : Int32) (v5 : Int32) : X11_unlike_p186  (n + 1) st v1 v3 v4 v5 =
    (if (12 : Int32) ≤ v5 then
      (X11_unlike_p207 st v1 v3 v4)
    else
    inr v5 12 <|
    nm (sA st 18 v5.toNatClampNeg (0 : Int32)) fun st_30 =>
    nm (v5 + (1 : Int32)) fun x_31 =>
    X11_unlike_p186  n st_30 v1 v3 v4 x_31) := rfl
def X11_unlike_p183 (st : MS) (v1 : Int32) (v3 : Int32) (v4 : Int32) : Option (Int64 × MS) :=
    X11_unlike_p186 13 st v1 v3 v4 (0 : Int32)
def X11_unlike_p106 : Nat → MS → Int32 → Int32 → Int32 → Int32 → Option (Int64 × MS)
  | 0, _, _, _, _, _ => none
  | n + 1, st, v1, v3, v4, v5 =>
    if v3 ≤ v5 then
      (X11_unlike_p183 st v1 v3 v4)
    else
    X11_unlike_p119 (fun st v1 v3 v4 v5 => X11_unlike_p106  n st v1 v3 v4 v5) 13 st v1 v3 v4 v5 v5 (0 : Int32)
theorem X11_unlike_p106_s (n : Nat) (st : MS) (v1 : Int32) (v3 : Int32) (v4 : Int32) (v5 : Int32) : X11_unlike_p106  (n + 1) st v1 v3 v4 v5 =
    (if v3 ≤ v5 then
      (X11_unlike_p183 st v1 v3 v4)
    else
    X11_unlike_p119 (fun st v1 v3 v4 v5 => X11_unlike_p106  n st v1 v3 v4 v5) 13 st v1 v3 v4 v5 v5 (0 : Int32)) := rfl
def X11_unlike_p79 (st : MS) (v1 : Int32) (v2 : Int32) (v3 : Int32) : Option (Int64 × MS) :=
    if (gF st 7) = 0 then
      (if v2 ≤ (6 : Int32) then
        (bnd (X11_open st) fun _ st_35 =>
        X11_unlike_p106 5000 st_35 v1 v3 (0 : Int32) (0 : Int32))
      else
      X11_unlike_p92 st)
    else
    X11_unlike_p92 st
def X11_unlike_p26 : Nat → MS → Int32 → Int32 → Int32 → Int32 → Option (Int64 × MS)
  | 0, _, _, _, _, _ => none
  | n + 1, st, v1, v2, v3, v4 =>
    if (12 : Int32) ≤ v4 then
      (X11_unlike_p79 st v1 v2 v3)
    else
    bnd (X11_burnsOf st v4) fun y_39 st_38 =>
    if 0 ≤ y_39 then
      (X11_unlike_p48 (fun st v1 v2 v3 v4 => X11_unlike_p26  n st v1 v2 v3 v4) st_38 v1 v3 v4 v2 (1 : Int32))
    else
    X11_unlike_p48 (fun st v1 v2 v3 v4 => X11_unlike_p26  n st v1 v2 v3 v4) st_38 v1 v3 v4 v2 (0 : Int32)
theorem X11_unlike_p26_s (n : Nat) (st : MS) (v1 : Int32) (v2 : Int32) (v3 : Int32) (v4 : Int32) : X11_unlike_p26  (n + 1) st v1 v2 v3 v4 =
    (if (12 : Int32) ≤ v4 then
      (X11_unlike_p79 st v1 v2 v3)
    else
    bnd (X11_burnsOf st v4) fun y_39 st_38 =>
    if 0 ≤ y_39 then
      (X11_unlike_p48 (fun st v1 v2 v3 v4 => X11_unlike_p26  n st v1 v2 v3 v4) st_38 v1 v3 v4 v2 (1 : Int32))
    else
    X11_unlike_p48 (fun st v1 v2 v3 v4 => X11_unlike_p26  n st v1 v2 v3 v4) st_38 v1 v3 v4 v2 (0 : Int32)) := rfl
def X11_unlike (st : MS) (v1 : Int32) : Option (Int64 × MS) :=
    nm (sF st 17 (0 : Int32)) fun st_42 =>
    bd1 (X11_in (v1.toInt64) (0 : Int64) (1 : Int64)) fun y_43 =>
    if y_43 = 0 then
      (some ((-1000000001 : Int64), st_42))
    else
    X11_unlike_p26 13 st_42 v1 (0 : Int32) (1 : Int32) (0 : Int32)
abbrev rmX11_unlike : Room := { frames := 8, cells := 0, slots := 0, locals := 173 }
theorem hdX11_unlike : yX11_unlike.cls = RX11 ∧ yX11_unlike.cls ≠ "java/lang/invoke/MethodHandle" ∧ yX11_unlike.cls ≠ "java/lang/invoke/VarHandle" ∧ (parseMethodDescriptor yX11_unlike.desc).map (fun d => d.parameters.length) = some 1 := by decide +kernel
set_option maxRecDepth 100000 in
set_option maxHeartbeats 4000000 in
theorem okX11_unlike (l : Launch) (D : va_G) (a : Nat → Nat) (T : mT3) {st : MS} {v1 : Int32} {r : Int64} {st' : MS} (heq : X11_unlike st v1 = some (r, st')) : gCl l D (mT T) yX11_unlike wsX11_unlike rmX11_unlike [.ref (a 0), .int v1] (mW a T st) r (mW a T st') := by
  refine g_body_l (by decide) rfl (Nat.le_of_ble_eq_true rfl) (fun p e s m args below meth c A Q hx hb hml hown hts hK hA hret ls hP hD hS hl => ?_)
  have hl : lv_has ls 8 [(0, .ref (a 0)), (1, .int v1)] := hl
  have hin : ∀ w ∈ wsX110, w ∈ wsX11_unlike := fun w h => List.mem_cons_of_mem _ (List.mem_append_right _ h)
  have f50 : (Cond.fieldLink RX11 50 RX11 (TX11 18).2.1 (TX11 18).2.2.1).before args s = true := hts (.fieldLink RX11 50 "LaidDownTheLaneModel" "shifts" "[I") (by decide +kernel)
  have f75 : (Cond.fieldLink RX11 75 RX11 (TX11 17).2.1 (TX11 17).2.2.1).before args s = true := hts (.fieldLink RX11 75 "LaidDownTheLaneModel" "thrown" "I") (by decide +kernel)
  have f122 : (Cond.fieldLink RX11 122 RX11 (TX11 7).2.1 (TX11 7).2.2.1).before args s = true := hts (.fieldLink RX11 122 "LaidDownTheLaneModel" "isDown" "Z") (by decide +kernel)
  have c271 := hts (.constantLong RX11 271 (-1000000001)) (by decide +kernel)
  have c273 := hts (.constantLong RX11 273 (-1000000003)) (by decide +kernel)
  have b71 : ∀ (k26 : MS → Int32 → Int32 → Int32 → Int32 → Option (Int64 × MS)) (hk26 : ∀ (st : MS) (v1 : Int32) (v2 : Int32) (v3 : Int32) (v4 : Int32) (H : Heap) (locs : List Loc) (ls : Array Slot), va_P D vwCl (mW a T st) H → va_D A (mW a T st) → va_S A s.heap H locs → lv_has ls 8 [(0, .ref (a 0)), (1, .int v1), (2, .int v2), (3, .int v3), (4, .int v4)] → k26 st v1 v2 v3 v4 = some (r, st') → W p l e rmX11_unlike s m args below meth c H locs 0 0 Q (F0 m 26 ls [])), ∀ (st : MS) (v1 : Int32) (v2 : Int32) (v4 : Int32) (t0 : Int32) (t1 : Int32) (H : Heap) (locs : List Loc) (ls : Array Slot), va_P D vwCl (mW a T st) H → va_D A (mW a T st) → va_S A s.heap H locs → lv_has ls 8 [(0, .ref (a 0)), (1, .int v1), (2, .int v2), (4, .int v4)] → X11_unlike_p71 k26 st v1 v2 v4 t0 t1 = some (r, st') → W p l e rmX11_unlike s m args below meth c H locs 0 0 Q (F0 m 71 ls [.int t1, .int t0]) := by
    intro k26 hk26 st v1 v2 v4 t0 t1 H locs ls hP hD hS hl heq
    unfold X11_unlike_p71 at heq
    refine lv_imul hx hb dX11_unlike_71 ?_
    refine lv_topi (fun x_1 ex_1 => ?_)
    have heq := nm_h ex_1 heq
    refine lv_istore_n (lv' := [(3, .int x_1), (0, .ref (a 0)), (1, .int v1), (2, .int v2), (4, .int v4)]) hx hb dX11_unlike_72 rfl hl (by decide) rfl (fun ls hl => ?_)
    obtain ⟨x_2, ex_2⟩ : ∃ y : Int32, y = v4 + (1 : Int32) := ⟨_, rfl⟩
    have heq := nm_h ex_2 heq
    refine lv_iinc (v := x_2) (lv' := [(4, .int x_2), (3, .int x_1), (0, .ref (a 0)), (1, .int v1), (2, .int v2)]) hx hb dX11_unlike_73 hl (k := 4) rfl (by rw [ex_2]; rfl) (by decide) rfl (fun ls hl => ?_)
    refine lv_goto (tgt := 26) hx hb dX11_unlike_76 (by decide) ?_
    exact hk26 st v1 v2 x_1 x_2 H locs ls hP hD hS (lv_sub hl [2, 3, 4, 1, 0] rfl) heq
  have b66 : ∀ (k26 : MS → Int32 → Int32 → Int32 → Int32 → Option (Int64 × MS)) (hk26 : ∀ (st : MS) (v1 : Int32) (v2 : Int32) (v3 : Int32) (v4 : Int32) (H : Heap) (locs : List Loc) (ls : Array Slot), va_P D vwCl (mW a T st) H → va_D A (mW a T st) → va_S A s.heap H locs → lv_has ls 8 [(0, .ref (a 0)), (1, .int v1), (2, .int v2), (3, .int v3), (4, .int v4)] → k26 st v1 v2 v3 v4 = some (r, st') → W p l e rmX11_unlike s m args below meth c H locs 0 0 Q (F0 m 26 ls [])), ∀ (st : MS) (v1 : Int32) (v2 : Int32) (v4 : Int32) (t0 : Int32) (H : Heap) (locs : List Loc) (ls : Array Slot), va_P D vwCl (mW a T st) H → va_D A (mW a T st) → va_S A s.heap H locs → lv_has ls 8 [(0, .ref (a 0)), (1, .int v1), (2, .int v2), (4, .int v4)] → X11_unlike_p66 k26 st v1 v2 v4 t0 = some (r, st') → W p l e rmX11_unlike s m args below meth c H locs 0 0 Q (F0 m 66 ls [.int t0]) := by
    intro k26 hk26 st v1 v2 v4 t0 H locs ls hP hD hS hl heq
    unfold X11_unlike_p66 at heq
    refine lv_iconst (v := (1 : Int32)) hx hb dX11_unlike_66 (by decide) ?_
    refine lv_goto (tgt := 71) hx hb dX11_unlike_67 (by decide) ?_
    exact b71 k26 hk26 st v1 v2 v4 t0 (1 : Int32) H locs ls hP hD hS (lv_sub hl [0, 1, 2, 3] rfl) heq
  have b48 : ∀ (k26 : MS → Int32 → Int32 → Int32 → Int32 → Option (Int64 × MS)) (hk26 : ∀ (st : MS) (v1 : Int32) (v2 : Int32) (v3 : Int32) (v4 : Int32) (H : Heap) (locs : List Loc) (ls : Array Slot), va_P D vwCl (mW a T st) H → va_D A (mW a T st) → va_S A s.heap H locs → lv_has ls 8 [(0, .ref (a 0)), (1, .int v1), (2, .int v2), (3, .int v3), (4, .int v4)] → k26 st v1 v2 v3 v4 = some (r, st') → W p l e rmX11_unlike s m args below meth c H locs 0 0 Q (F0 m 26 ls [])), ∀ (st : MS) (v1 : Int32) (v3 : Int32) (v4 : Int32) (t0 : Int32) (t1 : Int32) (H : Heap) (locs : List Loc) (ls : Array Slot), va_P D vwCl (mW a T st) H → va_D A (mW a T st) → va_S A s.heap H locs → lv_has ls 8 [(0, .ref (a 0)), (1, .int v1), (3, .int v3), (4, .int v4)] → X11_unlike_p48 k26 st v1 v3 v4 t0 t1 = some (r, st') → W p l e rmX11_unlike s m args below meth c H locs 0 0 Q (F0 m 48 ls [.int t1, .int t0]) := by
    intro k26 hk26 st v1 v3 v4 t0 t1 H locs ls hP hD hS hl heq
    unfold X11_unlike_p48 at heq
    refine lv_iadd hx hb dX11_unlike_48 ?_
    refine lv_topi (fun x_3 ex_3 => ?_)
    have heq := nm_h ex_3 heq
    refine lv_istore_n (lv' := [(2, .int x_3), (0, .ref (a 0)), (1, .int v1), (3, .int v3), (4, .int v4)]) hx hb dX11_unlike_49 rfl hl (by decide) rfl (fun ls hl => ?_)
    refine lv_iload_n hx hb dX11_unlike_50 rfl (lv_at hl 3 rfl) ?_
    refine lv_aload_n hx hb dX11_unlike_51 rfl (lv_at hl 1 rfl) ?_
    refine lv_iload hx hb dX11_unlike_52 (lv_at hl 4 rfl) ?_
    obtain ⟨y_5, st_4, h_6, heq⟩ := bnd_h heq
    refine g_vi (own := RX11) (As := [.int v4]) (rest := [.int v3]) hx hb hml hown hts (okX11_burnsOf l D a T h_6) (cwV 1 hts gX11_unlike_X11_burnsOf rfl rfl rfl hdX11_burnsOf ⟨Nat.le_of_ble_eq_true rfl, Nat.le_of_ble_eq_true rfl⟩) hK hA hP hD hS (ci := 11) (q0 := 0) rfl rfl rfl hl.1 rfl (Nat.le_of_ble_eq_true rfl) dX11_unlike_54 ⟨Nat.le_of_ble_eq_true rfl, Nat.le_of_ble_eq_true rfl⟩ (fun H locs hP hD hS => ?_)
    refine lv_if_lt (tgt := 66) hx hb dX11_unlike_57 (by decide) (fun c_7 => ?_) (fun c_7 => ?_)
    · have heq := it_t c_7 heq
      exact b66 k26 hk26 st_4 v1 x_3 v4 v3 H locs ls hP hD hS (lv_sub hl [1, 2, 0, 4] rfl) heq
    have heq := it_f c_7 heq
    refine lv_iload_n hx hb dX11_unlike_60 rfl (lv_at hl 0 rfl) ?_
    refine lv_bipush (v := (6 : Int32)) hx hb dX11_unlike_61 (by decide) ?_
    refine lv_icmp_le (tgt := 70) hx hb dX11_unlike_63 (by decide) (fun c_8 => ?_) (fun c_8 => ?_)
    · have heq := it_t c_8 heq
      refine lv_iconst (v := (3 : Int32)) hx hb dX11_unlike_70 (by decide) ?_
      exact b71 k26 hk26 st_4 v1 x_3 v4 v3 (3 : Int32) H locs ls hP hD hS (lv_sub hl [1, 2, 0, 4] rfl) heq
    have heq := it_f c_8 heq
    exact b66 k26 hk26 st_4 v1 x_3 v4 v3 H locs ls hP hD hS (lv_sub hl [1, 2, 0, 4] rfl) heq
  have b92 : ∀ (st : MS) (H : Heap) (locs : List Loc) (ls : Array Slot), va_P D vwCl (mW a T st) H → va_D A (mW a T st) → va_S A s.heap H locs → lv_has ls 8 [] → X11_unlike_p92  st = some (r, st') → W p l e rmX11_unlike s m args below meth c H locs 0 0 Q (F0 m 92 ls []) := by
    intro st H locs ls hP hD hS hl heq
    unfold X11_unlike_p92 at heq
    refine lv_ldc2 (v := (-1000000003 : Int64)) hx hb hown c273 dX11_unlike_92 ?_
    obtain ⟨heq, heq2⟩ := ret_h heq
    subst heq
    subst heq2
    exact hret 95 H locs ls hP hD hS dX11_unlike_95
  have b154 : ∀ (k106 : MS → Int32 → Int32 → Int32 → Int32 → Option (Int64 × MS)) (hk106 : ∀ (st : MS) (v1 : Int32) (v3 : Int32) (v4 : Int32) (v5 : Int32) (H : Heap) (locs : List Loc) (ls : Array Slot), va_P D vwCl (mW a T st) H → va_D A (mW a T st) → va_S A s.heap H locs → lv_has ls 8 [(0, .ref (a 0)), (1, .int v1), (3, .int v3), (4, .int v4), (5, .int v5)] → k106 st v1 v3 v4 v5 = some (r, st') → W p l e rmX11_unlike s m args below meth c H locs 0 0 Q (F0 m 106 ls [])) (k119 : MS → Int32 → Int32 → Int32 → Int32 → Int32 → Int32 → Option (Int64 × MS)) (hk119 : ∀ (st : MS) (v1 : Int32) (v3 : Int32) (v4 : Int32) (v5 : Int32) (v6 : Int32) (v7 : Int32) (H : Heap) (locs : List Loc) (ls : Array Slot), va_P D vwCl (mW a T st) H → va_D A (mW a T st) → va_S A s.heap H locs → lv_has ls 8 [(0, .ref (a 0)), (1, .int v1), (3, .int v3), (4, .int v4), (5, .int v5), (6, .int v6), (7, .int v7)] → k119 st v1 v3 v4 v5 v6 v7 = some (r, st') → W p l e rmX11_unlike s m args below meth c H locs 0 0 Q (F0 m 119 ls [])), ∀ (st : MS) (v1 : Int32) (v3 : Int32) (v4 : Int32) (v5 : Int32) (v6 : Int32) (v7 : Int32) (H : Heap) (locs : List Loc) (ls : Array Slot), va_P D vwCl (mW a T st) H → va_D A (mW a T st) → va_S A s.heap H locs → lv_has ls 8 [(0, .ref (a 0)), (1, .int v1), (3, .int v3), (4, .int v4), (5, .int v5), (6, .int v6), (7, .int v7)] → X11_unlike_p154 k106 k119 st v1 v3 v4 v5 v6 v7 = some (r, st') → W p l e rmX11_unlike s m args below meth c H locs 0 0 Q (F0 m 154 ls []) := by
    intro k106 hk106 k119 hk119 st v1 v3 v4 v5 v6 v7 H locs ls hP hD hS hl heq
    unfold X11_unlike_p154 at heq
    obtain ⟨x_9, ex_9⟩ : ∃ y : Int32, y = v7 + (1 : Int32) := ⟨_, rfl⟩
    have heq := nm_h ex_9 heq
    refine lv_iinc (v := x_9) (lv' := [(7, .int x_9), (0, .ref (a 0)), (1, .int v1), (3, .int v3), (4, .int v4), (5, .int v5), (6, .int v6)]) hx hb dX11_unlike_154 hl (k := 6) rfl (by rw [ex_9]; rfl) (by decide) rfl (fun ls hl => ?_)
    refine lv_goto (tgt := 119) hx hb dX11_unlike_157 (by decide) ?_
    exact hk119 st v1 v3 v4 v5 v6 x_9 H locs ls hP hD hS (lv_sub hl [1, 2, 3, 4, 5, 6, 0] rfl) heq
  have b174 : ∀ (k106 : MS → Int32 → Int32 → Int32 → Int32 → Option (Int64 × MS)) (hk106 : ∀ (st : MS) (v1 : Int32) (v3 : Int32) (v4 : Int32) (v5 : Int32) (H : Heap) (locs : List Loc) (ls : Array Slot), va_P D vwCl (mW a T st) H → va_D A (mW a T st) → va_S A s.heap H locs → lv_has ls 8 [(0, .ref (a 0)), (1, .int v1), (3, .int v3), (4, .int v4), (5, .int v5)] → k106 st v1 v3 v4 v5 = some (r, st') → W p l e rmX11_unlike s m args below meth c H locs 0 0 Q (F0 m 106 ls [])), ∀ (st : MS) (v1 : Int32) (v3 : Int32) (v5 : Int32) (t0 : Int32) (t1 : Int32) (H : Heap) (locs : List Loc) (ls : Array Slot), va_P D vwCl (mW a T st) H → va_D A (mW a T st) → va_S A s.heap H locs → lv_has ls 8 [(0, .ref (a 0)), (1, .int v1), (3, .int v3), (5, .int v5)] → X11_unlike_p174 k106 st v1 v3 v5 t0 t1 = some (r, st') → W p l e rmX11_unlike s m args below meth c H locs 0 0 Q (F0 m 174 ls [.int t1, .int t0]) := by
    intro k106 hk106 st v1 v3 v5 t0 t1 H locs ls hP hD hS hl heq
    unfold X11_unlike_p174 at heq
    refine lv_iadd hx hb dX11_unlike_174 ?_
    refine lv_topi (fun x_10 ex_10 => ?_)
    have heq := nm_h ex_10 heq
    refine lv_istore (lv' := [(4, .int x_10), (0, .ref (a 0)), (1, .int v1), (3, .int v3), (5, .int v5)]) hx hb dX11_unlike_175 hl (by decide) rfl (fun ls hl => ?_)
    obtain ⟨x_11, ex_11⟩ : ∃ y : Int32, y = v5 + (1 : Int32) := ⟨_, rfl⟩
    have heq := nm_h ex_11 heq
    refine lv_iinc (v := x_11) (lv' := [(5, .int x_11), (4, .int x_10), (0, .ref (a 0)), (1, .int v1), (3, .int v3)]) hx hb dX11_unlike_177 hl (k := 4) rfl (by rw [ex_11]; rfl) (by decide) rfl (fun ls hl => ?_)
    refine lv_goto (tgt := 106) hx hb dX11_unlike_180 (by decide) ?_
    exact hk106 st v1 v3 x_10 x_11 H locs ls hP hD hS (lv_sub hl [2, 3, 4, 1, 0] rfl) heq
  have b160 : ∀ (k106 : MS → Int32 → Int32 → Int32 → Int32 → Option (Int64 × MS)) (hk106 : ∀ (st : MS) (v1 : Int32) (v3 : Int32) (v4 : Int32) (v5 : Int32) (H : Heap) (locs : List Loc) (ls : Array Slot), va_P D vwCl (mW a T st) H → va_D A (mW a T st) → va_S A s.heap H locs → lv_has ls 8 [(0, .ref (a 0)), (1, .int v1), (3, .int v3), (4, .int v4), (5, .int v5)] → k106 st v1 v3 v4 v5 = some (r, st') → W p l e rmX11_unlike s m args below meth c H locs 0 0 Q (F0 m 106 ls [])), ∀ (st : MS) (v1 : Int32) (v3 : Int32) (v4 : Int32) (v5 : Int32) (H : Heap) (locs : List Loc) (ls : Array Slot), va_P D vwCl (mW a T st) H → va_D A (mW a T st) → va_S A s.heap H locs → lv_has ls 8 [(0, .ref (a 0)), (1, .int v1), (3, .int v3), (4, .int v4), (5, .int v5)] → X11_unlike_p160 k106 st v1 v3 v4 v5 = some (r, st') → W p l e rmX11_unlike s m args below meth c H locs 0 0 Q (F0 m 160 ls []) := by
    intro k106 hk106 st v1 v3 v4 v5 H locs ls hP hD hS hl heq
    unfold X11_unlike_p160 at heq
    refine lv_iload hx hb dX11_unlike_160 (lv_at hl 3 rfl) ?_
    refine lv_aload_n hx hb dX11_unlike_162 rfl (lv_at hl 0 rfl) ?_
    obtain ⟨y_13, st_12, h_14, heq⟩ := bnd_h heq
    refine g_vi (own := RX11) (As := []) (rest := [.int v4]) hx hb hml hown hts (okX11_goesToLane l D a T h_14) (cwV 0 hts gX11_unlike_X11_goesToLane rfl rfl rfl hdX11_goesToLane ⟨Nat.le_of_ble_eq_true rfl, Nat.le_of_ble_eq_true rfl⟩) hK hA hP hD hS (ci := 11) (q0 := 0) rfl rfl rfl hl.1 rfl (Nat.le_of_ble_eq_true rfl) dX11_unlike_163 ⟨Nat.le_of_ble_eq_true rfl, Nat.le_of_ble_eq_true rfl⟩ (fun H locs hP hD hS => ?_)
    refine lv_if_eq (tgt := 173) hx hb dX11_unlike_166 (by decide) (fun c_15 => ?_) (fun c_15 => ?_)
    · have heq := it_t c_15 heq
      refine lv_iconst (v := (0 : Int32)) hx hb dX11_unlike_173 (by decide) ?_
      exact b174 k106 hk106 st_12 v1 v3 v5 v4 (0 : Int32) H locs ls hP hD hS (lv_sub hl [0, 1, 2, 4] rfl) heq
    have heq := it_f c_15 heq
    refine lv_iconst (v := (1 : Int32)) hx hb dX11_unlike_169 (by decide) ?_
    refine lv_goto (tgt := 174) hx hb dX11_unlike_170 (by decide) ?_
    exact b174 k106 hk106 st_12 v1 v3 v5 v4 (1 : Int32) H locs ls hP hD hS (lv_sub hl [0, 1, 2, 4] rfl) heq
  have b119 : ∀ (k106 : MS → Int32 → Int32 → Int32 → Int32 → Option (Int64 × MS)) (hk106 : ∀ (st : MS) (v1 : Int32) (v3 : Int32) (v4 : Int32) (v5 : Int32) (H : Heap) (locs : List Loc) (ls : Array Slot), va_P D vwCl (mW a T st) H → va_D A (mW a T st) → va_S A s.heap H locs → lv_has ls 8 [(0, .ref (a 0)), (1, .int v1), (3, .int v3), (4, .int v4), (5, .int v5)] → k106 st v1 v3 v4 v5 = some (r, st') → W p l e rmX11_unlike s m args below meth c H locs 0 0 Q (F0 m 106 ls [])), ∀ (n : Nat), ∀ (st : MS) (v1 : Int32) (v3 : Int32) (v4 : Int32) (v5 : Int32) (v6 : Int32) (v7 : Int32) (H : Heap) (locs : List Loc) (ls : Array Slot), va_P D vwCl (mW a T st) H → va_D A (mW a T st) → va_S A s.heap H locs → lv_has ls 8 [(0, .ref (a 0)), (1, .int v1), (3, .int v3), (4, .int v4), (5, .int v5), (6, .int v6), (7, .int v7)] → X11_unlike_p119 k106 n st v1 v3 v4 v5 v6 v7 = some (r, st') → W p l e rmX11_unlike s m args below meth c H locs 0 0 Q (F0 m 119 ls []) := by
    intro k106 hk106 n
    induction n with
    | zero => intro st v1 v3 v4 v5 v6 v7 H locs ls hP hD hS hl heq; cases heq
    | succ n ih =>
      intro st v1 v3 v4 v5 v6 v7 H locs ls hP hD hS hl heq
      rw [X11_unlike_p119_s] at heq
      refine lv_iload hx hb dX11_unlike_119 (lv_at hl 6 rfl) ?_
      refine lv_bipush (v := (12 : Int32)) hx hb dX11_unlike_121 (by decide) ?_
      refine lv_icmp_ge (tgt := 160) hx hb dX11_unlike_123 (by decide) (fun c_16 => ?_) (fun c_16 => ?_)
      · have heq := it_t c_16 heq
        exact b160 k106 hk106 st v1 v3 v4 v5 H locs ls hP hD hS (lv_sub hl [0, 1, 2, 3, 4] rfl) heq
      have heq := it_f c_16 heq
      refine lv_aload_n hx hb dX11_unlike_126 rfl (lv_at hl 0 rfl) ?_
      refine lv_iload hx hb dX11_unlike_127 (lv_at hl 6 rfl) ?_
      obtain ⟨y_18, st_17, h_19, heq⟩ := bnd_h heq
      refine g_vi (own := RX11) (As := [.int v7]) (rest := []) hx hb hml hown hts (okX11_burnsOf l D a T h_19) (cwV 1 hts gX11_unlike_X11_burnsOf rfl rfl rfl hdX11_burnsOf ⟨Nat.le_of_ble_eq_true rfl, Nat.le_of_ble_eq_true rfl⟩) hK hA hP hD hS (ci := 11) (q0 := 0) rfl rfl rfl hl.1 rfl (Nat.le_of_ble_eq_true rfl) dX11_unlike_129 ⟨Nat.le_of_ble_eq_true rfl, Nat.le_of_ble_eq_true rfl⟩ (fun H locs hP hD hS => ?_)
      refine lv_if_lt (tgt := 154) hx hb dX11_unlike_132 (by decide) (fun c_20 => ?_) (fun c_20 => ?_)
      · have heq := it_t c_20 heq
        exact b154 k106 hk106 (fun st v1 v3 v4 v5 v6 v7 => X11_unlike_p119 k106 n st v1 v3 v4 v5 v6 v7) ih st_17 v1 v3 v4 v5 v6 v7 H locs ls hP hD hS (lv_sub hl [0, 1, 2, 3, 4, 5, 6] rfl) heq
      have heq := it_f c_20 heq
      refine lv_aload_n hx hb dX11_unlike_135 rfl (lv_at hl 0 rfl) ?_
      refine mg (k := 18) (v := .ref (a 14)) hx hb hts hin hown hK hP (by decide) f50 rfl dX11_unlike_136 rfl ?_
      refine lv_iload hx hb dX11_unlike_139 (lv_at hl 6 rfl) ?_
      refine lv_iload hx hb dX11_unlike_141 (lv_at hl 5 rfl) ?_
      refine lv_iconst (v := (3 : Int32)) hx hb dX11_unlike_143 (by decide) ?_
      obtain ⟨n_21, heq⟩ := dvi_h heq
      refine lv_irem hx hb dX11_unlike_144 n_21 ?_
      refine lv_iconst (v := (1 : Int32)) hx hb dX11_unlike_145 (by decide) ?_
      refine lv_isub hx hb dX11_unlike_146 ?_
      obtain ⟨n_22, heq⟩ := inr_h heq
      refine mas (k := 18) (q := 14) (n := 12) hx hb hK hP hD hS rfl (maset_18 ..) n_22 dX11_unlike_147 (fun H locs hP hD hS => ?_)
      obtain ⟨st_23, est_23⟩ : ∃ z, z = sA st_17 18 v7.toNatClampNeg ((v6 - v6 / (3 : Int32) * (3 : Int32)) - (1 : Int32)) := ⟨_, rfl⟩
      rw [← est_23] at hP hD
      have heq := nm_h est_23 heq
      refine lv_iload hx hb dX11_unlike_148 (lv_at hl 5 rfl) ?_
      refine lv_iconst (v := (3 : Int32)) hx hb dX11_unlike_150 (by decide) ?_
      obtain ⟨n_24, heq⟩ := dvi_h heq
      refine lv_idiv hx hb dX11_unlike_151 n_24 ?_
      refine lv_topi (fun x_25 ex_25 => ?_)
      have heq := nm_h ex_25 heq
      refine lv_istore (lv' := [(6, .int x_25), (0, .ref (a 0)), (1, .int v1), (3, .int v3), (4, .int v4), (5, .int v5), (7, .int v7)]) hx hb dX11_unlike_152 hl (by decide) rfl (fun ls hl => ?_)
      exact b154 k106 hk106 (fun st v1 v3 v4 v5 v6 v7 => X11_unlike_p119 k106 n st v1 v3 v4 v5 v6 v7) ih st_23 v1 v3 v4 v5 x_25 v7 H locs ls hP hD hS (lv_sub hl [1, 2, 3, 4, 5, 0, 6] rfl) heq
  have b207 : ∀ (st : MS) (v1 : Int32) (v3 : Int32) (v4 : Int32) (H : Heap) (locs : List Loc) (ls : Array Slot), va_P D vwCl (mW a T st) H → va_D A (mW a T st) → va_S A s.heap H locs → lv_has ls 8 [(1, .int v1), (3, .int v3), (4, .int v4)] → X11_unlike_p207  st v1 v3 v4 = some (r, st') → W p l e rmX11_unlike s m args below meth c H locs 0 0 Q (F0 m 207 ls []) := by
    intro st v1 v3 v4 H locs ls hP hD hS hl heq
    unfold X11_unlike_p207 at heq
    refine lv_iload hx hb dX11_unlike_207 (lv_at hl 2 rfl) ?_
    refine lv_i2l hx hb dX11_unlike_209 rfl ?_
    refine lv_iload_n hx hb dX11_unlike_210 rfl (lv_at hl 1 rfl) ?_
    refine lv_i2l hx hb dX11_unlike_211 rfl ?_
    refine lv_iload_n hx hb dX11_unlike_212 rfl (lv_at hl 0 rfl) ?_
    obtain ⟨y_26, h_27, heq⟩ := bd1_h heq
    refine g_sl (own := RX11) (D := D) (As := [.long (v4.toInt64), .long (v3.toInt64), .int v1]) (rest := []) hx hb hml hown hts (okX11_partOf l D h_27) (cwS 3 hts gX11_unlike_X11_partOf rfl rfl rfl hdX11_partOf ⟨Nat.le_of_ble_eq_true rfl, Nat.le_of_ble_eq_true rfl⟩) hK hA hP hS rfl hl.1 rfl (Nat.le_of_ble_eq_true rfl) dX11_unlike_213 ⟨Nat.le_of_ble_eq_true rfl, Nat.le_of_ble_eq_true rfl⟩ (fun H locs hP hS => ?_)
    obtain ⟨heq, heq2⟩ := ret_h heq
    subst heq
    subst heq2
    exact hret 216 H locs ls hP hD hS dX11_unlike_216
  have b186 : ∀ (n : Nat), ∀ (st : MS) (v1 : Int32) (v3 : Int32) (v4 : Int32) (v5 : Int32) (H : Heap) (locs : List Loc) (ls : Array Slot), va_P D vwCl (mW a T st) H → va_D A (mW a T st) → va_S A s.heap H locs → lv_has ls 8 [(0, .ref (a 0)), (1, .int v1), (3, .int v3), (4, .int v4), (5, .int v5)] → X11_unlike_p186  n st v1 v3 v4 v5 = some (r, st') → W p l e rmX11_unlike s m args below meth c H locs 0 0 Q (F0 m 186 ls []) := by
    intro n
    induction n with
    | zero => intro st v1 v3 v4 v5 H locs ls hP hD hS hl heq; cases heq
    | succ n ih =>
      intro st v1 v3 v4 v5 H locs ls hP hD hS hl heq
      rw [X11_unlike_p186_s] at heq
      refine lv_iload hx hb dX11_unlike_186 (lv_at hl 4 rfl) ?_
      refine lv_bipush (v := (12 : Int32)) hx hb dX11_unlike_188 (by decide) ?_
      refine lv_icmp_ge (tgt := 207) hx hb dX11_unlike_190 (by decide) (fun c_28 => ?_) (fun c_28 => ?_)
      · have heq := it_t c_28 heq
        exact b207 st v1 v3 v4 H locs ls hP hD hS (lv_sub hl [1, 2, 3] rfl) heq
      have heq := it_f c_28 heq
      refine lv_aload_n hx hb dX11_unlike_193 rfl (lv_at hl 0 rfl) ?_
      refine mg (k := 18) (v := .ref (a 14)) hx hb hts hin hown hK hP (by decide) f50 rfl dX11_unlike_194 rfl ?_
      refine lv_iload hx hb dX11_unlike_197 (lv_at hl 4 rfl) ?_
      refine lv_iconst (v := (0 : Int32)) hx hb dX11_unlike_199 (by decide) ?_
      obtain ⟨n_29, heq⟩ := inr_h heq
      refine mas (k := 18) (q := 14) (n := 12) hx hb hK hP hD hS rfl (maset_18 ..) n_29 dX11_unlike_200 (fun H locs hP hD hS => ?_)
      obtain ⟨st_30, est_30⟩ : ∃ z, z = sA st 18 v5.toNatClampNeg (0 : Int32) := ⟨_, rfl⟩
      rw [← est_30] at hP hD
      have heq := nm_h est_30 heq
      obtain ⟨x_31, ex_31⟩ : ∃ y : Int32, y = v5 + (1 : Int32) := ⟨_, rfl⟩
      have heq := nm_h ex_31 heq
      refine lv_iinc (v := x_31) (lv' := [(5, .int x_31), (0, .ref (a 0)), (1, .int v1), (3, .int v3), (4, .int v4)]) hx hb dX11_unlike_201 hl (k := 4) rfl (by rw [ex_31]; rfl) (by decide) rfl (fun ls hl => ?_)
      refine lv_goto (tgt := 186) hx hb dX11_unlike_204 (by decide) ?_
      exact ih st_30 v1 v3 v4 x_31 H locs ls hP hD hS (lv_sub hl [1, 2, 3, 4, 0] rfl) heq
  have b183 : ∀ (st : MS) (v1 : Int32) (v3 : Int32) (v4 : Int32) (H : Heap) (locs : List Loc) (ls : Array Slot), va_P D vwCl (mW a T st) H → va_D A (mW a T st) → va_S A s.heap H locs → lv_has ls 8 [(0, .ref (a 0)), (1, .int v1), (3, .int v3), (4, .int v4)] → X11_unlike_p183  st v1 v3 v4 = some (r, st') → W p l e rmX11_unlike s m args below meth c H locs 0 0 Q (F0 m 183 ls []) := by
    intro st v1 v3 v4 H locs ls hP hD hS hl heq
    unfold X11_unlike_p183 at heq
    refine lv_iconst (v := (0 : Int32)) hx hb dX11_unlike_183 (by decide) ?_
    refine lv_istore (lv' := [(5, .int (0 : Int32)), (0, .ref (a 0)), (1, .int v1), (3, .int v3), (4, .int v4)]) hx hb dX11_unlike_184 hl (by decide) rfl (fun ls hl => ?_)
    exact b186 13 st v1 v3 v4 (0 : Int32) H locs ls hP hD hS (lv_sub hl [1, 2, 3, 4, 0] rfl) heq
  have b106 : ∀ (n : Nat), ∀ (st : MS) (v1 : Int32) (v3 : Int32) (v4 : Int32) (v5 : Int32) (H : Heap) (locs : List Loc) (ls : Array Slot), va_P D vwCl (mW a T st) H → va_D A (mW a T st) → va_S A s.heap H locs → lv_has ls 8 [(0, .ref (a 0)), (1, .int v1), (3, .int v3), (4, .int v4), (5, .int v5)] → X11_unlike_p106  n st v1 v3 v4 v5 = some (r, st') → W p l e rmX11_unlike s m args below meth c H locs 0 0 Q (F0 m 106 ls []) := by
    intro n
    induction n with
    | zero => intro st v1 v3 v4 v5 H locs ls hP hD hS hl heq; cases heq
    | succ n ih =>
      intro st v1 v3 v4 v5 H locs ls hP hD hS hl heq
      rw [X11_unlike_p106_s] at heq
      refine lv_iload hx hb dX11_unlike_106 (lv_at hl 4 rfl) ?_
      refine lv_iload_n hx hb dX11_unlike_108 rfl (lv_at hl 2 rfl) ?_
      refine lv_icmp_ge (tgt := 183) hx hb dX11_unlike_109 (by decide) (fun c_32 => ?_) (fun c_32 => ?_)
      · have heq := it_t c_32 heq
        exact b183 st v1 v3 v4 H locs ls hP hD hS (lv_sub hl [0, 1, 2, 3] rfl) heq
      have heq := it_f c_32 heq
      refine lv_iload hx hb dX11_unlike_112 (lv_at hl 4 rfl) ?_
      refine lv_istore (lv' := [(6, .int v5), (0, .ref (a 0)), (1, .int v1), (3, .int v3), (4, .int v4), (5, .int v5)]) hx hb dX11_unlike_114 hl (by decide) rfl (fun ls hl => ?_)
      refine lv_iconst (v := (0 : Int32)) hx hb dX11_unlike_116 (by decide) ?_
      refine lv_istore (lv' := [(7, .int (0 : Int32)), (6, .int v5), (0, .ref (a 0)), (1, .int v1), (3, .int v3), (4, .int v4), (5, .int v5)]) hx hb dX11_unlike_117 hl (by decide) rfl (fun ls hl => ?_)
      exact b119 (fun st v1 v3 v4 v5 => X11_unlike_p106  n st v1 v3 v4 v5) ih 13 st v1 v3 v4 v5 v5 (0 : Int32) H locs ls hP hD hS (lv_sub hl [2, 3, 4, 5, 6, 1, 0] rfl) heq
  have b79 : ∀ (st : MS) (v1 : Int32) (v2 : Int32) (v3 : Int32) (H : Heap) (locs : List Loc) (ls : Array Slot), va_P D vwCl (mW a T st) H → va_D A (mW a T st) → va_S A s.heap H locs → lv_has ls 8 [(0, .ref (a 0)), (1, .int v1), (2, .int v2), (3, .int v3)] → X11_unlike_p79  st v1 v2 v3 = some (r, st') → W p l e rmX11_unlike s m args below meth c H locs 0 0 Q (F0 m 79 ls []) := by
    intro st v1 v2 v3 H locs ls hP hD hS hl heq
    unfold X11_unlike_p79 at heq
    refine lv_aload_n hx hb dX11_unlike_79 rfl (lv_at hl 0 rfl) ?_
    refine mg (k := 7) (v := .int (gF st 7)) hx hb hts hin hown hK hP (by decide) f122 rfl dX11_unlike_80 rfl ?_
    refine lv_if_ne (tgt := 92) hx hb dX11_unlike_83 (by decide) (fun c_33 => ?_) (fun c_33 => ?_)
    · have heq := it_f c_33 heq
      exact b92 st H locs ls hP hD hS (lv_sub hl [] rfl) heq
    have heq := it_t c_33 heq
    refine lv_iload_n hx hb dX11_unlike_86 rfl (lv_at hl 2 rfl) ?_
    refine lv_bipush (v := (6 : Int32)) hx hb dX11_unlike_87 (by decide) ?_
    refine lv_icmp_le (tgt := 96) hx hb dX11_unlike_89 (by decide) (fun c_34 => ?_) (fun c_34 => ?_)
    · have heq := it_t c_34 heq
      refine lv_iconst (v := (0 : Int32)) hx hb dX11_unlike_96 (by decide) ?_
      refine lv_istore (lv' := [(4, .int (0 : Int32)), (0, .ref (a 0)), (1, .int v1), (2, .int v2), (3, .int v3)]) hx hb dX11_unlike_97 hl (by decide) rfl (fun ls hl => ?_)
      refine lv_aload_n hx hb dX11_unlike_99 rfl (lv_at hl 1 rfl) ?_
      obtain ⟨⟨⟩, st_35, h_36, heq⟩ := bnd_h heq
      refine g_vv (own := RX11) (As := []) (rest := []) hx hb hml hown hts (okX11_open l D a T h_36) (cwV 0 hts gX11_unlike_X11_open rfl rfl rfl hdX11_open ⟨Nat.le_of_ble_eq_true rfl, Nat.le_of_ble_eq_true rfl⟩) hK hA hP hD hS (ci := 11) (q0 := 0) rfl rfl rfl hl.1 rfl (Nat.le_of_ble_eq_true rfl) dX11_unlike_100 ⟨Nat.le_of_ble_eq_true rfl, Nat.le_of_ble_eq_true rfl⟩ (fun H locs hP hD hS => ?_)
      refine lv_iconst (v := (0 : Int32)) hx hb dX11_unlike_103 (by decide) ?_
      refine lv_istore (lv' := [(5, .int (0 : Int32)), (4, .int (0 : Int32)), (0, .ref (a 0)), (1, .int v1), (2, .int v2), (3, .int v3)]) hx hb dX11_unlike_104 hl (by decide) rfl (fun ls hl => ?_)
      exact b106 5000 st_35 v1 v3 (0 : Int32) (0 : Int32) H locs ls hP hD hS (lv_sub hl [2, 3, 5, 1, 0] rfl) heq
    have heq := it_f c_34 heq
    exact b92 st H locs ls hP hD hS (lv_sub hl [] rfl) heq
  have b26 : ∀ (n : Nat), ∀ (st : MS) (v1 : Int32) (v2 : Int32) (v3 : Int32) (v4 : Int32) (H : Heap) (locs : List Loc) (ls : Array Slot), va_P D vwCl (mW a T st) H → va_D A (mW a T st) → va_S A s.heap H locs → lv_has ls 8 [(0, .ref (a 0)), (1, .int v1), (2, .int v2), (3, .int v3), (4, .int v4)] → X11_unlike_p26  n st v1 v2 v3 v4 = some (r, st') → W p l e rmX11_unlike s m args below meth c H locs 0 0 Q (F0 m 26 ls []) := by
    intro n
    induction n with
    | zero => intro st v1 v2 v3 v4 H locs ls hP hD hS hl heq; cases heq
    | succ n ih =>
      intro st v1 v2 v3 v4 H locs ls hP hD hS hl heq
      rw [X11_unlike_p26_s] at heq
      refine lv_iload hx hb dX11_unlike_26 (lv_at hl 4 rfl) ?_
      refine lv_bipush (v := (12 : Int32)) hx hb dX11_unlike_28 (by decide) ?_
      refine lv_icmp_ge (tgt := 79) hx hb dX11_unlike_30 (by decide) (fun c_37 => ?_) (fun c_37 => ?_)
      · have heq := it_t c_37 heq
        exact b79 st v1 v2 v3 H locs ls hP hD hS (lv_sub hl [0, 1, 2, 3] rfl) heq
      have heq := it_f c_37 heq
      refine lv_iload_n hx hb dX11_unlike_33 rfl (lv_at hl 2 rfl) ?_
      refine lv_aload_n hx hb dX11_unlike_34 rfl (lv_at hl 0 rfl) ?_
      refine lv_iload hx hb dX11_unlike_35 (lv_at hl 4 rfl) ?_
      obtain ⟨y_39, st_38, h_40, heq⟩ := bnd_h heq
      refine g_vi (own := RX11) (As := [.int v4]) (rest := [.int v2]) hx hb hml hown hts (okX11_burnsOf l D a T h_40) (cwV 1 hts gX11_unlike_X11_burnsOf rfl rfl rfl hdX11_burnsOf ⟨Nat.le_of_ble_eq_true rfl, Nat.le_of_ble_eq_true rfl⟩) hK hA hP hD hS (ci := 11) (q0 := 0) rfl rfl rfl hl.1 rfl (Nat.le_of_ble_eq_true rfl) dX11_unlike_37 ⟨Nat.le_of_ble_eq_true rfl, Nat.le_of_ble_eq_true rfl⟩ (fun H locs hP hD hS => ?_)
      refine lv_if_ge (tgt := 47) hx hb dX11_unlike_40 (by decide) (fun c_41 => ?_) (fun c_41 => ?_)
      · have heq := it_t c_41 heq
        refine lv_iconst (v := (1 : Int32)) hx hb dX11_unlike_47 (by decide) ?_
        exact b48 (fun st v1 v2 v3 v4 => X11_unlike_p26  n st v1 v2 v3 v4) ih st_38 v1 v3 v4 v2 (1 : Int32) H locs ls hP hD hS (lv_sub hl [0, 1, 3, 4] rfl) heq
      have heq := it_f c_41 heq
      refine lv_iconst (v := (0 : Int32)) hx hb dX11_unlike_43 (by decide) ?_
      refine lv_goto (tgt := 48) hx hb dX11_unlike_44 (by decide) ?_
      exact b48 (fun st v1 v2 v3 v4 => X11_unlike_p26  n st v1 v2 v3 v4) ih st_38 v1 v3 v4 v2 (0 : Int32) H locs ls hP hD hS (lv_sub hl [0, 1, 3, 4] rfl) heq
  obtain ⟨H, hH⟩ : ∃ H, H = s.heap := ⟨_, rfl⟩
  obtain ⟨locs, hlocs⟩ : ∃ z : List Loc, z = [] := ⟨_, rfl⟩
  have hS : va_S A s.heap H locs := by rw [hH, hlocs]; exact hS
  have hP : va_P D vwCl (mW a T st) H := by rw [hH]; exact hP
  suffices h9 : W p l e rmX11_unlike s m args below meth c H locs 0 0 Q (F0 m 0 ls []) by rw [hH, hlocs] at h9; exact h9
  clear hH hlocs
  unfold X11_unlike at heq
  refine lv_aload_n hx hb dX11_unlike_0 rfl (lv_at hl 0 rfl) ?_
  refine lv_iconst (v := (0 : Int32)) hx hb dX11_unlike_1 (by decide) ?_
  refine mp (k := 17) hx hb hts hin hown hK hP hD hS (by decide) f75 dX11_unlike_2 rfl rfl rfl rfl (mset_17 ..) (fun H locs hP hD hS => ?_)
  obtain ⟨st_42, est_42⟩ : ∃ z, z = sF st 17 (0 : Int32) := ⟨_, rfl⟩
  rw [← est_42] at hP hD
  have heq := nm_h est_42 heq
  refine lv_iload_n hx hb dX11_unlike_5 rfl (lv_at hl 1 rfl) ?_
  refine lv_i2l hx hb dX11_unlike_6 rfl ?_
  refine lv_lconst (v := (0 : Int64)) hx hb dX11_unlike_7 (by decide) ?_
  refine lv_lconst (v := (1 : Int64)) hx hb dX11_unlike_8 (by decide) ?_
  obtain ⟨y_43, h_44, heq⟩ := bd1_h heq
  refine g_si (own := RX11) (D := D) (As := [.long (v1.toInt64), .long (0 : Int64), .long (1 : Int64)]) (rest := []) hx hb hml hown hts (okX11_in l D h_44) (cwS 3 hts gX11_unlike_X11_in rfl rfl rfl hdX11_in ⟨Nat.le_of_ble_eq_true rfl, Nat.le_of_ble_eq_true rfl⟩) hK hA hP hS rfl hl.1 rfl (Nat.le_of_ble_eq_true rfl) dX11_unlike_9 ⟨Nat.le_of_ble_eq_true rfl, Nat.le_of_ble_eq_true rfl⟩ (fun H locs hP hS => ?_)
  refine lv_if_ne (tgt := 19) hx hb dX11_unlike_12 (by decide) (fun c_45 => ?_) (fun c_45 => ?_)
  · have heq := it_f c_45 heq
    refine lv_iconst (v := (0 : Int32)) hx hb dX11_unlike_19 (by decide) ?_
    refine lv_istore_n (lv' := [(2, .int (0 : Int32)), (0, .ref (a 0)), (1, .int v1)]) hx hb dX11_unlike_20 rfl hl (by decide) rfl (fun ls hl => ?_)
    refine lv_iconst (v := (1 : Int32)) hx hb dX11_unlike_21 (by decide) ?_
    refine lv_istore_n (lv' := [(3, .int (1 : Int32)), (2, .int (0 : Int32)), (0, .ref (a 0)), (1, .int v1)]) hx hb dX11_unlike_22 rfl hl (by decide) rfl (fun ls hl => ?_)
    refine lv_iconst (v := (0 : Int32)) hx hb dX11_unlike_23 (by decide) ?_
    refine lv_istore (lv' := [(4, .int (0 : Int32)), (3, .int (1 : Int32)), (2, .int (0 : Int32)), (0, .ref (a 0)), (1, .int v1)]) hx hb dX11_unlike_24 hl (by decide) rfl (fun ls hl => ?_)
    exact b26 13 st_42 v1 (0 : Int32) (1 : Int32) (0 : Int32) H locs ls hP hD hS (lv_sub hl [3, 4, 2, 1, 0] rfl) heq
  have heq := it_t c_45 heq
  refine lv_ldc2 (v := (-1000000001 : Int64)) hx hb hown c271 dX11_unlike_15 ?_
  obtain ⟨heq, heq2⟩ := ret_h heq
  subst heq
  subst heq2
  exact hret 18 H locs ls hP hD hS dX11_unlike_18
set_option maxRecDepth 20000 in
theorem ggX11_wedge_X11_weakestSide : GoodIn wsX11_wedge wsX11_weakestSide := goodIn_r _ [9, 10, 11, 12, 8, 13, 14, 15, 16, 17, 18, 19, 20, 21, 22, 23, 24, 25, 26, 27, 28, 29, 30, 31, 32, 33, 34, 35, 36, 37, 38, 39, 4, 3, 40, 41, 42, 43, 67, 68, 69, 70, 71, 72, 73, 74, 75, 76, 77, 78, 79, 80, 81, 82, 83, 84, 85, 86, 87, 88, 89, 90, 91, 92, 93, 94, 95, 96, 97, 98, 99, 100, 101, 102, 103] (by decide +kernel) (by decide +kernel)
set_option maxRecDepth 20000 in
theorem gX11_wedge_X11_weakestSide : GoodIn wsX11_wedge (wsV RX11 115 RX11 yX11_weakestSide wsX11_weakestSide) := goodIn_app (goodIn_of _ (by decide +kernel)) ggX11_wedge_X11_weakestSide
set_option maxRecDepth 20000 in
theorem ggX11_wedge_X11_lacksOn : GoodIn wsX11_wedge wsX11_lacksOn := goodIn_r _ [13, 14, 15, 16, 8, 17, 18, 19, 20, 21, 22, 23, 24, 25, 26, 27, 28, 29, 30, 31, 32, 33, 34, 35, 36, 37, 38, 39, 4, 3, 40, 41, 42, 43, 67, 68, 69, 70, 71, 72, 73, 74, 75, 76, 77, 78, 79, 80, 81, 82, 83, 84, 85, 86, 87, 88, 89, 90, 91, 92, 93, 94, 95, 96, 97, 98, 99, 100, 101, 102, 103] (by decide +kernel) (by decide +kernel)
set_option maxRecDepth 20000 in
theorem gX11_wedge_X11_lacksOn : GoodIn wsX11_wedge (wsV RX11 112 RX11 yX11_lacksOn wsX11_lacksOn) := goodIn_app (goodIn_of _ (by decide +kernel)) ggX11_wedge_X11_lacksOn
set_option maxRecDepth 20000 in
theorem ggX11_wedge_X11_open : GoodIn wsX11_wedge wsX11_open := goodIn_r _ [47, 48, 49, 50, 51, 8, 52, 53, 54, 55, 33, 34, 2, 56, 18, 3, 4, 57, 58, 59, 60, 61, 62, 67, 68, 69, 70, 71, 72, 73, 74, 75, 76, 77, 78, 79, 80, 81, 82, 83, 84, 85, 86, 87, 88, 89, 90, 91, 92, 93, 94, 95, 96, 97, 98, 99, 100, 101, 102, 103] (by decide +kernel) (by decide +kernel)
set_option maxRecDepth 20000 in
theorem gX11_wedge_X11_open : GoodIn wsX11_wedge (wsV RX11 238 RX11 yX11_open wsX11_open) := goodIn_app (goodIn_of _ (by decide +kernel)) ggX11_wedge_X11_open
set_option maxRecDepth 20000 in
theorem ggX11_wedge_X11_close : GoodIn wsX11_wedge wsX11_close := goodIn_r _ [66, 48, 49, 50, 51, 8, 52, 53, 54, 55, 33, 34, 2, 56, 18, 3, 4, 57, 58, 59, 60, 61, 62, 67, 68, 69, 70, 71, 72, 73, 74, 75, 76, 77, 78, 79, 80, 81, 82, 83, 84, 85, 86, 87, 88, 89, 90, 91, 92, 93, 94, 95, 96, 97, 98, 99, 100, 101, 102, 103] (by decide +kernel) (by decide +kernel)
set_option maxRecDepth 20000 in
theorem gX11_wedge_X11_close : GoodIn wsX11_wedge (wsV RX11 241 RX11 yX11_close wsX11_close) := goodIn_app (goodIn_of _ (by decide +kernel)) ggX11_wedge_X11_close
theorem dX11_wedge_0 : decode cX11_wedge 0 = .ok (.aload_n 0, 1) := by decide +kernel
theorem dX11_wedge_1 : decode cX11_wedge 1 = .ok (.iconst 0, 1) := by decide +kernel
theorem dX11_wedge_2 : decode cX11_wedge 2 = .ok (.putfield 75, 3) := by decide +kernel
theorem dX11_wedge_5 : decode cX11_wedge 5 = .ok (.aload_n 0, 1) := by decide +kernel
theorem dX11_wedge_6 : decode cX11_wedge 6 = .ok (.getfield 122, 3) := by decide +kernel
theorem dX11_wedge_9 : decode cX11_wedge 9 = .ok (.ifCond .eq 6, 3) := by decide +kernel
theorem dX11_wedge_12 : decode cX11_wedge 12 = .ok (.bipush (-3), 2) := by decide +kernel
theorem dX11_wedge_14 : decode cX11_wedge 14 = .ok (.ireturn, 1) := by decide +kernel
theorem dX11_wedge_15 : decode cX11_wedge 15 = .ok (.aload_n 0, 1) := by decide +kernel
theorem dX11_wedge_16 : decode cX11_wedge 16 = .ok (.aload_n 0, 1) := by decide +kernel
theorem dX11_wedge_17 : decode cX11_wedge 17 = .ok (.invokevirtual 115, 3) := by decide +kernel
theorem dX11_wedge_20 : decode cX11_wedge 20 = .ok (.invokevirtual 112, 3) := by decide +kernel
theorem dX11_wedge_23 : decode cX11_wedge 23 = .ok (.istore_n 1, 1) := by decide +kernel
theorem dX11_wedge_24 : decode cX11_wedge 24 = .ok (.bipush (-4), 2) := by decide +kernel
theorem dX11_wedge_26 : decode cX11_wedge 26 = .ok (.istore_n 2, 1) := by decide +kernel
theorem dX11_wedge_27 : decode cX11_wedge 27 = .ok (.aload_n 0, 1) := by decide +kernel
theorem dX11_wedge_28 : decode cX11_wedge 28 = .ok (.invokevirtual 238, 3) := by decide +kernel
theorem dX11_wedge_31 : decode cX11_wedge 31 = .ok (.iconst 0, 1) := by decide +kernel
theorem dX11_wedge_32 : decode cX11_wedge 32 = .ok (.istore_n 3, 1) := by decide +kernel
theorem dX11_wedge_33 : decode cX11_wedge 33 = .ok (.iload_n 3, 1) := by decide +kernel
theorem dX11_wedge_34 : decode cX11_wedge 34 = .ok (.bipush 12, 2) := by decide +kernel
theorem dX11_wedge_36 : decode cX11_wedge 36 = .ok (.if_icmp .ge 63, 3) := by decide +kernel
theorem dX11_wedge_39 : decode cX11_wedge 39 = .ok (.aload_n 0, 1) := by decide +kernel
theorem dX11_wedge_40 : decode cX11_wedge 40 = .ok (.getfield 16, 3) := by decide +kernel
theorem dX11_wedge_43 : decode cX11_wedge 43 = .ok (.iload_n 3, 1) := by decide +kernel
theorem dX11_wedge_44 : decode cX11_wedge 44 = .ok (.bipush 7, 2) := by decide +kernel
theorem dX11_wedge_46 : decode cX11_wedge 46 = .ok (.iastore, 1) := by decide +kernel
theorem dX11_wedge_47 : decode cX11_wedge 47 = .ok (.aload_n 0, 1) := by decide +kernel
theorem dX11_wedge_48 : decode cX11_wedge 48 = .ok (.getfield 19, 3) := by decide +kernel
theorem dX11_wedge_51 : decode cX11_wedge 51 = .ok (.iload_n 3, 1) := by decide +kernel
theorem dX11_wedge_52 : decode cX11_wedge 52 = .ok (.iconst 0, 1) := by decide +kernel
theorem dX11_wedge_53 : decode cX11_wedge 53 = .ok (.iastore, 1) := by decide +kernel
theorem dX11_wedge_54 : decode cX11_wedge 54 = .ok (.aload_n 0, 1) := by decide +kernel
theorem dX11_wedge_55 : decode cX11_wedge 55 = .ok (.aload_n 0, 1) := by decide +kernel
theorem dX11_wedge_56 : decode cX11_wedge 56 = .ok (.invokevirtual 115, 3) := by decide +kernel
theorem dX11_wedge_59 : decode cX11_wedge 59 = .ok (.invokevirtual 112, 3) := by decide +kernel
theorem dX11_wedge_62 : decode cX11_wedge 62 = .ok (.istore 4, 2) := by decide +kernel
theorem dX11_wedge_64 : decode cX11_wedge 64 = .ok (.iload 4, 2) := by decide +kernel
theorem dX11_wedge_66 : decode cX11_wedge 66 = .ok (.iload_n 1, 1) := by decide +kernel
theorem dX11_wedge_67 : decode cX11_wedge 67 = .ok (.if_icmp .ge 7, 3) := by decide +kernel
theorem dX11_wedge_70 : decode cX11_wedge 70 = .ok (.iload_n 3, 1) := by decide +kernel
theorem dX11_wedge_71 : decode cX11_wedge 71 = .ok (.goto 4, 3) := by decide +kernel
theorem dX11_wedge_74 : decode cX11_wedge 74 = .ok (.iload_n 2, 1) := by decide +kernel
theorem dX11_wedge_75 : decode cX11_wedge 75 = .ok (.istore_n 2, 1) := by decide +kernel
theorem dX11_wedge_76 : decode cX11_wedge 76 = .ok (.iload 4, 2) := by decide +kernel
theorem dX11_wedge_78 : decode cX11_wedge 78 = .ok (.iload_n 1, 1) := by decide +kernel
theorem dX11_wedge_79 : decode cX11_wedge 79 = .ok (.if_icmp .ge 8, 3) := by decide +kernel
theorem dX11_wedge_82 : decode cX11_wedge 82 = .ok (.iload 4, 2) := by decide +kernel
theorem dX11_wedge_84 : decode cX11_wedge 84 = .ok (.goto 4, 3) := by decide +kernel
theorem dX11_wedge_87 : decode cX11_wedge 87 = .ok (.iload_n 1, 1) := by decide +kernel
theorem dX11_wedge_88 : decode cX11_wedge 88 = .ok (.istore_n 1, 1) := by decide +kernel
theorem dX11_wedge_89 : decode cX11_wedge 89 = .ok (.aload_n 0, 1) := by decide +kernel
theorem dX11_wedge_90 : decode cX11_wedge 90 = .ok (.invokevirtual 241, 3) := by decide +kernel
theorem dX11_wedge_93 : decode cX11_wedge 93 = .ok (.iinc 3 1, 3) := by decide +kernel
theorem dX11_wedge_96 : decode cX11_wedge 96 = .ok (.goto (-63), 3) := by decide +kernel
theorem dX11_wedge_99 : decode cX11_wedge 99 = .ok (.iload_n 2, 1) := by decide +kernel
theorem dX11_wedge_100 : decode cX11_wedge 100 = .ok (.ireturn, 1) := by decide +kernel
/-! wedge -/
def X11_wedge_p88 (k33 : MS → Int32 → Int32 → Int32 → Option (Int32 × MS)) (st : MS) (v2 : Int32) (v3 : Int32) (t0 : Int32) : Option (Int32 × MS) :=
    bnd (X11_close st) fun _ st_1 =>
    nm (v3 + (1 : Int32)) fun x_3 =>
    k33 st_1 t0 v2 x_3
def X11_wedge_p75 (k33 : MS → Int32 → Int32 → Int32 → Option (Int32 × MS)) (st : MS) (v1 : Int32) (v3 : Int32) (v4 : Int32) (t0 : Int32) : Option (Int32 × MS) :=
    if v1 ≤ v4 then
      (X11_wedge_p88 k33 st t0 v3 v1)
    else
    X11_wedge_p88 k33 st t0 v3 v4
def X11_wedge_p99 (st : MS) (v2 : Int32) : Option (Int32 × MS) :=
    some (v2, st)
def X11_wedge_p33 : Nat → MS → Int32 → Int32 → Int32 → Option (Int32 × MS)
  | 0, _, _, _, _ => none
  | n + 1, st, v1, v2, v3 =>
    if (12 : Int32) ≤ v3 then
      (X11_wedge_p99 st v2)
    else
    inr v3 12 <|
    nm (sA st 2 v3.toNatClampNeg (7 : Int32)) fun st_7 =>
    inr v3 12 <|
    nm (sA st_7 3 v3.toNatClampNeg (0 : Int32)) fun st_9 =>
    bnd (X11_weakestSide st_9) fun y_11 st_10 =>
    bnd (X11_lacksOn st_10 y_11) fun y_14 st_13 =>
    if v1 ≤ y_14 then
      (X11_wedge_p75 (fun st v1 v2 v3 => X11_wedge_p33  n st v1 v2 v3) st_13 v1 v3 y_14 v2)
    else
    X11_wedge_p75 (fun st v1 v2 v3 => X11_wedge_p33  n st v1 v2 v3) st_13 v1 v3 y_14 v3
theorem X11_wedge_p33_s (n : Nat) (st : MS) (v1 : Int32) (v2 : Int32) (v3 : Int32) : X11_wedge_p33  (n + 1) st v1 v2 v3 =
    (if (12 : Int32) ≤ v3 then
      (X11_wedge_p99 st v2)
    else
    inr v3 12 <|
    nm (sA st 2 v3.toNatClampNeg (7 : Int32)) fun st_7 =>
    inr v3 12 <|
    nm (sA st_7 3 v3.toNatClampNeg (0 : Int32)) fun st_9 =>
    bnd (X11_weakestSide st_9) fun y_11 st_10 =>
    bnd (X11_lacksOn st_10 y_11) fun y_14 st_13 =>
    if v1 ≤ y_14 then
      (X11_wedge_p75 (fun st v1 v2 v3 => X11_wedge_p33  n st v1 v2 v3) st_13 v1 v3 y_14 v2)
    else
    X11_wedge_p75 (fun st v1 v2 v3 => X11_wedge_p33  n st v1 v2 v3) st_13 v1 v3 y_14 v3) := rfl
def X11_wedge (st : MS) : Option (Int32 × MS) :=
    nm (sF st 17 (0 : Int32)) fun st_17 =>
    if (gF st_17 7) = 0 then
      (bnd (X11_weakestSide st_17) fun y_20 st_19 =>
      bnd (X11_lacksOn st_19 y_20) fun y_23 st_22 =>
      bnd (X11_open st_22) fun _ st_25 =>
      X11_wedge_p33 13 st_25 y_23 (-4 : Int32) (0 : Int32))
    else
    some ((-3 : Int32), st_17)
abbrev rmX11_wedge : Room := { frames := 5, cells := 0, slots := 0, locals := 110 }
theorem hdX11_wedge : yX11_wedge.cls = RX11 ∧ yX11_wedge.cls ≠ "java/lang/invoke/MethodHandle" ∧ yX11_wedge.cls ≠ "java/lang/invoke/VarHandle" ∧ (parseMethodDescriptor yX11_wedge.desc).map (fun d => d.parameters.length) = some 0 := by decide +kernel
set_option maxRecDepth 100000 in
set_option maxHeartbeats 4000000 in
theorem okX11_wedge (l : Launch) (D : va_G) (a : Nat → Nat) (T : mT3) {st : MS} {r : Int32} {st' : MS} (heq : X11_wedge st = some (r, st')) : gCi l D (mT T) yX11_wedge wsX11_wedge rmX11_wedge [.ref (a 0)] (mW a T st) r (mW a T st') := by
  refine g_body_i (by decide) rfl (Nat.le_of_ble_eq_true rfl) (fun p e s m args below meth c A Q hx hb hml hown hts hK hA hret ls hP hD hS hl => ?_)
  have hl : lv_has ls 5 [(0, .ref (a 0))] := hl
  have hin : ∀ w ∈ wsX110, w ∈ wsX11_wedge := fun w h => List.mem_cons_of_mem _ (List.mem_append_right _ h)
  have f16 : (Cond.fieldLink RX11 16 RX11 (TX11 2).2.1 (TX11 2).2.2.1).before args s = true := hts (.fieldLink RX11 16 "LaidDownTheLaneModel" "kinds" "[I") (by decide +kernel)
  have f19 : (Cond.fieldLink RX11 19 RX11 (TX11 3).2.1 (TX11 3).2.2.1).before args s = true := hts (.fieldLink RX11 19 "LaidDownTheLaneModel" "figures" "[I") (by decide +kernel)
  have f75 : (Cond.fieldLink RX11 75 RX11 (TX11 17).2.1 (TX11 17).2.2.1).before args s = true := hts (.fieldLink RX11 75 "LaidDownTheLaneModel" "thrown" "I") (by decide +kernel)
  have f122 : (Cond.fieldLink RX11 122 RX11 (TX11 7).2.1 (TX11 7).2.2.1).before args s = true := hts (.fieldLink RX11 122 "LaidDownTheLaneModel" "isDown" "Z") (by decide +kernel)
  have b88 : ∀ (k33 : MS → Int32 → Int32 → Int32 → Option (Int32 × MS)) (hk33 : ∀ (st : MS) (v1 : Int32) (v2 : Int32) (v3 : Int32) (H : Heap) (locs : List Loc) (ls : Array Slot), va_P D vwCl (mW a T st) H → va_D A (mW a T st) → va_S A s.heap H locs → lv_has ls 5 [(0, .ref (a 0)), (1, .int v1), (2, .int v2), (3, .int v3)] → k33 st v1 v2 v3 = some (r, st') → W p l e rmX11_wedge s m args below meth c H locs 0 0 Q (F0 m 33 ls [])), ∀ (st : MS) (v2 : Int32) (v3 : Int32) (t0 : Int32) (H : Heap) (locs : List Loc) (ls : Array Slot), va_P D vwCl (mW a T st) H → va_D A (mW a T st) → va_S A s.heap H locs → lv_has ls 5 [(0, .ref (a 0)), (2, .int v2), (3, .int v3)] → X11_wedge_p88 k33 st v2 v3 t0 = some (r, st') → W p l e rmX11_wedge s m args below meth c H locs 0 0 Q (F0 m 88 ls [.int t0]) := by
    intro k33 hk33 st v2 v3 t0 H locs ls hP hD hS hl heq
    unfold X11_wedge_p88 at heq
    refine lv_istore_n (lv' := [(1, .int t0), (0, .ref (a 0)), (2, .int v2), (3, .int v3)]) hx hb dX11_wedge_88 rfl hl (by decide) rfl (fun ls hl => ?_)
    refine lv_aload_n hx hb dX11_wedge_89 rfl (lv_at hl 1 rfl) ?_
    obtain ⟨⟨⟩, st_1, h_2, heq⟩ := bnd_h heq
    refine g_vv (own := RX11) (As := []) (rest := []) hx hb hml hown hts (okX11_close l D a T h_2) (cwV 0 hts gX11_wedge_X11_close rfl rfl rfl hdX11_close ⟨Nat.le_of_ble_eq_true rfl, Nat.le_of_ble_eq_true rfl⟩) hK hA hP hD hS (ci := 11) (q0 := 0) rfl rfl rfl hl.1 rfl (Nat.le_of_ble_eq_true rfl) dX11_wedge_90 ⟨Nat.le_of_ble_eq_true rfl, Nat.le_of_ble_eq_true rfl⟩ (fun H locs hP hD hS => ?_)
    obtain ⟨x_3, ex_3⟩ : ∃ y : Int32, y = v3 + (1 : Int32) := ⟨_, rfl⟩
    have heq := nm_h ex_3 heq
    refine lv_iinc (v := x_3) (lv' := [(3, .int x_3), (1, .int t0), (0, .ref (a 0)), (2, .int v2)]) hx hb dX11_wedge_93 hl (k := 3) rfl (by rw [ex_3]; rfl) (by decide) rfl (fun ls hl => ?_)
    refine lv_goto (tgt := 33) hx hb dX11_wedge_96 (by decide) ?_
    exact hk33 st_1 t0 v2 x_3 H locs ls hP hD hS (lv_sub hl [2, 1, 3, 0] rfl) heq
  have b75 : ∀ (k33 : MS → Int32 → Int32 → Int32 → Option (Int32 × MS)) (hk33 : ∀ (st : MS) (v1 : Int32) (v2 : Int32) (v3 : Int32) (H : Heap) (locs : List Loc) (ls : Array Slot), va_P D vwCl (mW a T st) H → va_D A (mW a T st) → va_S A s.heap H locs → lv_has ls 5 [(0, .ref (a 0)), (1, .int v1), (2, .int v2), (3, .int v3)] → k33 st v1 v2 v3 = some (r, st') → W p l e rmX11_wedge s m args below meth c H locs 0 0 Q (F0 m 33 ls [])), ∀ (st : MS) (v1 : Int32) (v3 : Int32) (v4 : Int32) (t0 : Int32) (H : Heap) (locs : List Loc) (ls : Array Slot), va_P D vwCl (mW a T st) H → va_D A (mW a T st) → va_S A s.heap H locs → lv_has ls 5 [(0, .ref (a 0)), (1, .int v1), (3, .int v3), (4, .int v4)] → X11_wedge_p75 k33 st v1 v3 v4 t0 = some (r, st') → W p l e rmX11_wedge s m args below meth c H locs 0 0 Q (F0 m 75 ls [.int t0]) := by
    intro k33 hk33 st v1 v3 v4 t0 H locs ls hP hD hS hl heq
    unfold X11_wedge_p75 at heq
    refine lv_istore_n (lv' := [(2, .int t0), (0, .ref (a 0)), (1, .int v1), (3, .int v3), (4, .int v4)]) hx hb dX11_wedge_75 rfl hl (by decide) rfl (fun ls hl => ?_)
    refine lv_iload hx hb dX11_wedge_76 (lv_at hl 4 rfl) ?_
    refine lv_iload_n hx hb dX11_wedge_78 rfl (lv_at hl 2 rfl) ?_
    refine lv_icmp_ge (tgt := 87) hx hb dX11_wedge_79 (by decide) (fun c_4 => ?_) (fun c_4 => ?_)
    · have heq := it_t c_4 heq
      refine lv_iload_n hx hb dX11_wedge_87 rfl (lv_at hl 2 rfl) ?_
      exact b88 k33 hk33 st t0 v3 v1 H locs ls hP hD hS (lv_sub hl [1, 0, 3] rfl) heq
    have heq := it_f c_4 heq
    refine lv_iload hx hb dX11_wedge_82 (lv_at hl 4 rfl) ?_
    refine lv_goto (tgt := 88) hx hb dX11_wedge_84 (by decide) ?_
    exact b88 k33 hk33 st t0 v3 v4 H locs ls hP hD hS (lv_sub hl [1, 0, 3] rfl) heq
  have b99 : ∀ (st : MS) (v2 : Int32) (H : Heap) (locs : List Loc) (ls : Array Slot), va_P D vwCl (mW a T st) H → va_D A (mW a T st) → va_S A s.heap H locs → lv_has ls 5 [(2, .int v2)] → X11_wedge_p99  st v2 = some (r, st') → W p l e rmX11_wedge s m args below meth c H locs 0 0 Q (F0 m 99 ls []) := by
    intro st v2 H locs ls hP hD hS hl heq
    unfold X11_wedge_p99 at heq
    refine lv_iload_n hx hb dX11_wedge_99 rfl (lv_at hl 0 rfl) ?_
    obtain ⟨heq, heq2⟩ := ret_h heq
    subst heq
    subst heq2
    exact hret 100 H locs ls hP hD hS rfl dX11_wedge_100
  have b33 : ∀ (n : Nat), ∀ (st : MS) (v1 : Int32) (v2 : Int32) (v3 : Int32) (H : Heap) (locs : List Loc) (ls : Array Slot), va_P D vwCl (mW a T st) H → va_D A (mW a T st) → va_S A s.heap H locs → lv_has ls 5 [(0, .ref (a 0)), (1, .int v1), (2, .int v2), (3, .int v3)] → X11_wedge_p33  n st v1 v2 v3 = some (r, st') → W p l e rmX11_wedge s m args below meth c H locs 0 0 Q (F0 m 33 ls []) := by
    intro n
    induction n with
    | zero => intro st v1 v2 v3 H locs ls hP hD hS hl heq; cases heq
    | succ n ih =>
      intro st v1 v2 v3 H locs ls hP hD hS hl heq
      rw [X11_wedge_p33_s] at heq
      refine lv_iload_n hx hb dX11_wedge_33 rfl (lv_at hl 3 rfl) ?_
      refine lv_bipush (v := (12 : Int32)) hx hb dX11_wedge_34 (by decide) ?_
      refine lv_icmp_ge (tgt := 99) hx hb dX11_wedge_36 (by decide) (fun c_5 => ?_) (fun c_5 => ?_)
      · have heq := it_t c_5 heq
        exact b99 st v2 H locs ls hP hD hS (lv_sub hl [2] rfl) heq
      have heq := it_f c_5 heq
      refine lv_aload_n hx hb dX11_wedge_39 rfl (lv_at hl 0 rfl) ?_
      refine mg (k := 2) (v := .ref (a 3)) hx hb hts hin hown hK hP (by decide) f16 rfl dX11_wedge_40 rfl ?_
      refine lv_iload_n hx hb dX11_wedge_43 rfl (lv_at hl 3 rfl) ?_
      refine lv_bipush (v := (7 : Int32)) hx hb dX11_wedge_44 (by decide) ?_
      obtain ⟨n_6, heq⟩ := inr_h heq
      refine mas (k := 2) (q := 3) (n := 12) hx hb hK hP hD hS rfl (maset_2 ..) n_6 dX11_wedge_46 (fun H locs hP hD hS => ?_)
      obtain ⟨st_7, est_7⟩ : ∃ z, z = sA st 2 v3.toNatClampNeg (7 : Int32) := ⟨_, rfl⟩
      rw [← est_7] at hP hD
      have heq := nm_h est_7 heq
      refine lv_aload_n hx hb dX11_wedge_47 rfl (lv_at hl 0 rfl) ?_
      refine mg (k := 3) (v := .ref (a 4)) hx hb hts hin hown hK hP (by decide) f19 rfl dX11_wedge_48 rfl ?_
      refine lv_iload_n hx hb dX11_wedge_51 rfl (lv_at hl 3 rfl) ?_
      refine lv_iconst (v := (0 : Int32)) hx hb dX11_wedge_52 (by decide) ?_
      obtain ⟨n_8, heq⟩ := inr_h heq
      refine mas (k := 3) (q := 4) (n := 12) hx hb hK hP hD hS rfl (maset_3 ..) n_8 dX11_wedge_53 (fun H locs hP hD hS => ?_)
      obtain ⟨st_9, est_9⟩ : ∃ z, z = sA st_7 3 v3.toNatClampNeg (0 : Int32) := ⟨_, rfl⟩
      rw [← est_9] at hP hD
      have heq := nm_h est_9 heq
      refine lv_aload_n hx hb dX11_wedge_54 rfl (lv_at hl 0 rfl) ?_
      refine lv_aload_n hx hb dX11_wedge_55 rfl (lv_at hl 0 rfl) ?_
      obtain ⟨y_11, st_10, h_12, heq⟩ := bnd_h heq
      refine g_vi (own := RX11) (As := []) (rest := [.ref (a 0)]) hx hb hml hown hts (okX11_weakestSide l D a T h_12) (cwV 0 hts gX11_wedge_X11_weakestSide rfl rfl rfl hdX11_weakestSide ⟨Nat.le_of_ble_eq_true rfl, Nat.le_of_ble_eq_true rfl⟩) hK hA hP hD hS (ci := 11) (q0 := 0) rfl rfl rfl hl.1 rfl (Nat.le_of_ble_eq_true rfl) dX11_wedge_56 ⟨Nat.le_of_ble_eq_true rfl, Nat.le_of_ble_eq_true rfl⟩ (fun H locs hP hD hS => ?_)
      obtain ⟨y_14, st_13, h_15, heq⟩ := bnd_h heq
      refine g_vi (own := RX11) (As := [.int y_11]) (rest := []) hx hb hml hown hts (okX11_lacksOn l D a T h_15) (cwV 1 hts gX11_wedge_X11_lacksOn rfl rfl rfl hdX11_lacksOn ⟨Nat.le_of_ble_eq_true rfl, Nat.le_of_ble_eq_true rfl⟩) hK hA hP hD hS (ci := 11) (q0 := 0) rfl rfl rfl hl.1 rfl (Nat.le_of_ble_eq_true rfl) dX11_wedge_59 ⟨Nat.le_of_ble_eq_true rfl, Nat.le_of_ble_eq_true rfl⟩ (fun H locs hP hD hS => ?_)
      refine lv_istore (lv' := [(4, .int y_14), (0, .ref (a 0)), (1, .int v1), (2, .int v2), (3, .int v3)]) hx hb dX11_wedge_62 hl (by decide) rfl (fun ls hl => ?_)
      refine lv_iload hx hb dX11_wedge_64 (lv_at hl 0 rfl) ?_
      refine lv_iload_n hx hb dX11_wedge_66 rfl (lv_at hl 2 rfl) ?_
      refine lv_icmp_ge (tgt := 74) hx hb dX11_wedge_67 (by decide) (fun c_16 => ?_) (fun c_16 => ?_)
      · have heq := it_t c_16 heq
        refine lv_iload_n hx hb dX11_wedge_74 rfl (lv_at hl 3 rfl) ?_
        exact b75 (fun st v1 v2 v3 => X11_wedge_p33  n st v1 v2 v3) ih st_13 v1 v3 y_14 v2 H locs ls hP hD hS (lv_sub hl [1, 2, 4, 0] rfl) heq
      have heq := it_f c_16 heq
      refine lv_iload_n hx hb dX11_wedge_70 rfl (lv_at hl 4 rfl) ?_
      refine lv_goto (tgt := 75) hx hb dX11_wedge_71 (by decide) ?_
      exact b75 (fun st v1 v2 v3 => X11_wedge_p33  n st v1 v2 v3) ih st_13 v1 v3 y_14 v3 H locs ls hP hD hS (lv_sub hl [1, 2, 4, 0] rfl) heq
  obtain ⟨H, hH⟩ : ∃ H, H = s.heap := ⟨_, rfl⟩
  obtain ⟨locs, hlocs⟩ : ∃ z : List Loc, z = [] := ⟨_, rfl⟩
  have hS : va_S A s.heap H locs := by rw [hH, hlocs]; exact hS
  have hP : va_P D vwCl (mW a T st) H := by rw [hH]; exact hP
  suffices h9 : W p l e rmX11_wedge s m args below meth c H locs 0 0 Q (F0 m 0 ls []) by rw [hH, hlocs] at h9; exact h9
  clear hH hlocs
  unfold X11_wedge at heq
  refine lv_aload_n hx hb dX11_wedge_0 rfl (lv_at hl 0 rfl) ?_
  refine lv_iconst (v := (0 : Int32)) hx hb dX11_wedge_1 (by decide) ?_
  refine mp (k := 17) hx hb hts hin hown hK hP hD hS (by decide) f75 dX11_wedge_2 rfl rfl rfl rfl (mset_17 ..) (fun H locs hP hD hS => ?_)
  obtain ⟨st_17, est_17⟩ : ∃ z, z = sF st 17 (0 : Int32) := ⟨_, rfl⟩
  rw [← est_17] at hP hD
  have heq := nm_h est_17 heq
  refine lv_aload_n hx hb dX11_wedge_5 rfl (lv_at hl 0 rfl) ?_
  refine mg (k := 7) (v := .int (gF st_17 7)) hx hb hts hin hown hK hP (by decide) f122 rfl dX11_wedge_6 rfl ?_
  refine lv_if_eq (tgt := 15) hx hb dX11_wedge_9 (by decide) (fun c_18 => ?_) (fun c_18 => ?_)
  · have heq := it_t c_18 heq
    refine lv_aload_n hx hb dX11_wedge_15 rfl (lv_at hl 0 rfl) ?_
    refine lv_aload_n hx hb dX11_wedge_16 rfl (lv_at hl 0 rfl) ?_
    obtain ⟨y_20, st_19, h_21, heq⟩ := bnd_h heq
    refine g_vi (own := RX11) (As := []) (rest := [.ref (a 0)]) hx hb hml hown hts (okX11_weakestSide l D a T h_21) (cwV 0 hts gX11_wedge_X11_weakestSide rfl rfl rfl hdX11_weakestSide ⟨Nat.le_of_ble_eq_true rfl, Nat.le_of_ble_eq_true rfl⟩) hK hA hP hD hS (ci := 11) (q0 := 0) rfl rfl rfl hl.1 rfl (Nat.le_of_ble_eq_true rfl) dX11_wedge_17 ⟨Nat.le_of_ble_eq_true rfl, Nat.le_of_ble_eq_true rfl⟩ (fun H locs hP hD hS => ?_)
    obtain ⟨y_23, st_22, h_24, heq⟩ := bnd_h heq
    refine g_vi (own := RX11) (As := [.int y_20]) (rest := []) hx hb hml hown hts (okX11_lacksOn l D a T h_24) (cwV 1 hts gX11_wedge_X11_lacksOn rfl rfl rfl hdX11_lacksOn ⟨Nat.le_of_ble_eq_true rfl, Nat.le_of_ble_eq_true rfl⟩) hK hA hP hD hS (ci := 11) (q0 := 0) rfl rfl rfl hl.1 rfl (Nat.le_of_ble_eq_true rfl) dX11_wedge_20 ⟨Nat.le_of_ble_eq_true rfl, Nat.le_of_ble_eq_true rfl⟩ (fun H locs hP hD hS => ?_)
    refine lv_istore_n (lv' := [(1, .int y_23), (0, .ref (a 0))]) hx hb dX11_wedge_23 rfl hl (by decide) rfl (fun ls hl => ?_)
    refine lv_bipush (v := (-4 : Int32)) hx hb dX11_wedge_24 (by decide) ?_
    refine lv_istore_n (lv' := [(2, .int (-4 : Int32)), (1, .int y_23), (0, .ref (a 0))]) hx hb dX11_wedge_26 rfl hl (by decide) rfl (fun ls hl => ?_)
    refine lv_aload_n hx hb dX11_wedge_27 rfl (lv_at hl 2 rfl) ?_
    obtain ⟨⟨⟩, st_25, h_26, heq⟩ := bnd_h heq
    refine g_vv (own := RX11) (As := []) (rest := []) hx hb hml hown hts (okX11_open l D a T h_26) (cwV 0 hts gX11_wedge_X11_open rfl rfl rfl hdX11_open ⟨Nat.le_of_ble_eq_true rfl, Nat.le_of_ble_eq_true rfl⟩) hK hA hP hD hS (ci := 11) (q0 := 0) rfl rfl rfl hl.1 rfl (Nat.le_of_ble_eq_true rfl) dX11_wedge_28 ⟨Nat.le_of_ble_eq_true rfl, Nat.le_of_ble_eq_true rfl⟩ (fun H locs hP hD hS => ?_)
    refine lv_iconst (v := (0 : Int32)) hx hb dX11_wedge_31 (by decide) ?_
    refine lv_istore_n (lv' := [(3, .int (0 : Int32)), (2, .int (-4 : Int32)), (1, .int y_23), (0, .ref (a 0))]) hx hb dX11_wedge_32 rfl hl (by decide) rfl (fun ls hl => ?_)
    exact b33 13 st_25 y_23 (-4 : Int32) (0 : Int32) H locs ls hP hD hS (lv_sub hl [3, 2, 1, 0] rfl) heq
  have heq := it_f c_18 heq
  refine lv_bipush (v := (-3 : Int32)) hx hb dX11_wedge_12 (by decide) ?_
  obtain ⟨heq, heq2⟩ := ret_h heq
  subst heq
  subst heq2
  exact hret 14 H locs ls hP hD hS rfl dX11_wedge_14
set_option maxRecDepth 20000 in
theorem ggX11_sits_X11_open : GoodIn wsX11_sits wsX11_open := goodIn_r _ [10, 11, 12, 13, 14, 9, 15, 16, 17, 18, 3, 19, 2, 20, 4, 5, 21, 22, 23, 24, 25, 26, 27, 79, 80, 81, 82, 83, 84, 85, 86, 87, 88, 89, 90, 91, 92, 93, 94, 95, 96, 97, 98, 99, 100, 101, 102, 103, 104, 105, 106, 107, 108, 109, 110, 111, 112, 113, 114, 115] (by decide +kernel) (by decide +kernel)
set_option maxRecDepth 20000 in
theorem gX11_sits_X11_open : GoodIn wsX11_sits (wsV RX11 238 RX11 yX11_open wsX11_open) := goodIn_app (goodIn_of _ (by decide +kernel)) ggX11_sits_X11_open
set_option maxRecDepth 20000 in
theorem ggX11_sits_X11_cut : GoodIn wsX11_sits wsX11_cut := goodIn_r _ [31, 5, 21, 79, 80, 81, 82, 83, 84, 85, 86, 87, 88, 89, 90, 91, 92, 93, 94, 95, 96, 97, 98, 99, 100, 101, 102, 103, 104, 105, 106, 107, 108, 109, 110, 111, 112, 113, 114, 115] (by decide +kernel) (by decide +kernel)
set_option maxRecDepth 20000 in
theorem gX11_sits_X11_cut : GoodIn wsX11_sits (wsV RX11 225 RX11 yX11_cut wsX11_cut) := goodIn_app (goodIn_of _ (by decide +kernel)) ggX11_sits_X11_cut
set_option maxRecDepth 20000 in
theorem ggX11_sits_X11_stands : GoodIn wsX11_sits wsX11_stands := goodIn_r _ [35, 36, 37, 38, 9, 39, 40, 41, 42, 43, 44, 45, 46, 47, 48, 49, 50, 51, 4, 52, 53, 54, 55, 56, 57, 58, 59, 60, 61, 62, 63, 64, 65, 3, 19, 66, 67, 68, 69, 70, 21, 5, 71, 72, 73, 74, 79, 80, 81, 82, 83, 84, 85, 86, 87, 88, 89, 90, 91, 92, 93, 94, 95, 96, 97, 98, 99, 100, 101, 102, 103, 104, 105, 106, 107, 108, 109, 110, 111, 112, 113, 114, 115] (by decide +kernel) (by decide +kernel)
set_option maxRecDepth 20000 in
theorem gX11_sits_X11_stands : GoodIn wsX11_sits (wsV RX11 125 RX11 yX11_stands wsX11_stands) := goodIn_app (goodIn_of _ (by decide +kernel)) ggX11_sits_X11_stands
set_option maxRecDepth 20000 in
theorem ggX11_sits_X11_close : GoodIn wsX11_sits wsX11_close := goodIn_r _ [78, 11, 12, 13, 14, 9, 15, 16, 17, 18, 3, 19, 2, 20, 4, 5, 21, 22, 23, 24, 25, 26, 27, 79, 80, 81, 82, 83, 84, 85, 86, 87, 88, 89, 90, 91, 92, 93, 94, 95, 96, 97, 98, 99, 100, 101, 102, 103, 104, 105, 106, 107, 108, 109, 110, 111, 112, 113, 114, 115] (by decide +kernel) (by decide +kernel)
set_option maxRecDepth 20000 in
theorem gX11_sits_X11_close : GoodIn wsX11_sits (wsV RX11 241 RX11 yX11_close wsX11_close) := goodIn_app (goodIn_of _ (by decide +kernel)) ggX11_sits_X11_close
theorem dX11_sits_0 : decode cX11_sits 0 = .ok (.aload_n 0, 1) := by decide +kernel
theorem dX11_sits_1 : decode cX11_sits 1 = .ok (.iconst 0, 1) := by decide +kernel
theorem dX11_sits_2 : decode cX11_sits 2 = .ok (.putfield 75, 3) := by decide +kernel
theorem dX11_sits_5 : decode cX11_sits 5 = .ok (.aload_n 0, 1) := by decide +kernel
theorem dX11_sits_6 : decode cX11_sits 6 = .ok (.getfield 122, 3) := by decide +kernel
theorem dX11_sits_9 : decode cX11_sits 9 = .ok (.ifCond .ne 10, 3) := by decide +kernel
theorem dX11_sits_12 : decode cX11_sits 12 = .ok (.aload_n 0, 1) := by decide +kernel
theorem dX11_sits_13 : decode cX11_sits 13 = .ok (.getfield 89, 3) := by decide +kernel
theorem dX11_sits_16 : decode cX11_sits 16 = .ok (.ifCond .eq 6, 3) := by decide +kernel
theorem dX11_sits_19 : decode cX11_sits 19 = .ok (.bipush (-3), 2) := by decide +kernel
theorem dX11_sits_21 : decode cX11_sits 21 = .ok (.ireturn, 1) := by decide +kernel
theorem dX11_sits_22 : decode cX11_sits 22 = .ok (.iconst 0, 1) := by decide +kernel
theorem dX11_sits_23 : decode cX11_sits 23 = .ok (.istore_n 1, 1) := by decide +kernel
theorem dX11_sits_24 : decode cX11_sits 24 = .ok (.bipush (-4), 2) := by decide +kernel
theorem dX11_sits_26 : decode cX11_sits 26 = .ok (.istore_n 2, 1) := by decide +kernel
theorem dX11_sits_27 : decode cX11_sits 27 = .ok (.aload_n 0, 1) := by decide +kernel
theorem dX11_sits_28 : decode cX11_sits 28 = .ok (.invokevirtual 238, 3) := by decide +kernel
theorem dX11_sits_31 : decode cX11_sits 31 = .ok (.iconst 0, 1) := by decide +kernel
theorem dX11_sits_32 : decode cX11_sits 32 = .ok (.istore_n 3, 1) := by decide +kernel
theorem dX11_sits_33 : decode cX11_sits 33 = .ok (.iload_n 3, 1) := by decide +kernel
theorem dX11_sits_34 : decode cX11_sits 34 = .ok (.bipush 12, 2) := by decide +kernel
theorem dX11_sits_36 : decode cX11_sits 36 = .ok (.if_icmp .ge 81, 3) := by decide +kernel
theorem dX11_sits_39 : decode cX11_sits 39 = .ok (.iload_n 2, 1) := by decide +kernel
theorem dX11_sits_40 : decode cX11_sits 40 = .ok (.ifCond .ge 77, 3) := by decide +kernel
theorem dX11_sits_43 : decode cX11_sits 43 = .ok (.aload_n 0, 1) := by decide +kernel
theorem dX11_sits_44 : decode cX11_sits 44 = .ok (.getfield 22, 3) := by decide +kernel
theorem dX11_sits_47 : decode cX11_sits 47 = .ok (.bipush 6, 2) := by decide +kernel
theorem dX11_sits_49 : decode cX11_sits 49 = .ok (.iaload, 1) := by decide +kernel
theorem dX11_sits_50 : decode cX11_sits 50 = .ok (.iload_n 3, 1) := by decide +kernel
theorem dX11_sits_51 : decode cX11_sits 51 = .ok (.iconst 2, 1) := by decide +kernel
theorem dX11_sits_52 : decode cX11_sits 52 = .ok (.irem, 1) := by decide +kernel
theorem dX11_sits_53 : decode cX11_sits 53 = .ok (.iconst 1, 1) := by decide +kernel
theorem dX11_sits_54 : decode cX11_sits 54 = .ok (.if_icmp .ne 11, 3) := by decide +kernel
theorem dX11_sits_57 : decode cX11_sits 57 = .ok (.iload_n 3, 1) := by decide +kernel
theorem dX11_sits_58 : decode cX11_sits 58 = .ok (.iconst 1, 1) := by decide +kernel
theorem dX11_sits_59 : decode cX11_sits 59 = .ok (.iadd, 1) := by decide +kernel
theorem dX11_sits_60 : decode cX11_sits 60 = .ok (.iconst 2, 1) := by decide +kernel
theorem dX11_sits_61 : decode cX11_sits 61 = .ok (.idiv, 1) := by decide +kernel
theorem dX11_sits_62 : decode cX11_sits 62 = .ok (.goto 9, 3) := by decide +kernel
theorem dX11_sits_65 : decode cX11_sits 65 = .ok (.bipush 12, 2) := by decide +kernel
theorem dX11_sits_67 : decode cX11_sits 67 = .ok (.iload_n 3, 1) := by decide +kernel
theorem dX11_sits_68 : decode cX11_sits 68 = .ok (.iconst 2, 1) := by decide +kernel
theorem dX11_sits_69 : decode cX11_sits 69 = .ok (.idiv, 1) := by decide +kernel
theorem dX11_sits_70 : decode cX11_sits 70 = .ok (.isub, 1) := by decide +kernel
theorem dX11_sits_71 : decode cX11_sits 71 = .ok (.iadd, 1) := by decide +kernel
theorem dX11_sits_72 : decode cX11_sits 72 = .ok (.bipush 12, 2) := by decide +kernel
theorem dX11_sits_74 : decode cX11_sits 74 = .ok (.irem, 1) := by decide +kernel
theorem dX11_sits_75 : decode cX11_sits 75 = .ok (.istore 4, 2) := by decide +kernel
theorem dX11_sits_77 : decode cX11_sits 77 = .ok (.aload_n 0, 1) := by decide +kernel
theorem dX11_sits_78 : decode cX11_sits 78 = .ok (.getfield 16, 3) := by decide +kernel
theorem dX11_sits_81 : decode cX11_sits 81 = .ok (.iload 4, 2) := by decide +kernel
theorem dX11_sits_83 : decode cX11_sits 83 = .ok (.iaload, 1) := by decide +kernel
theorem dX11_sits_84 : decode cX11_sits 84 = .ok (.iconst 1, 1) := by decide +kernel
theorem dX11_sits_85 : decode cX11_sits 85 = .ok (.if_icmp .eq 26, 3) := by decide +kernel
theorem dX11_sits_88 : decode cX11_sits 88 = .ok (.aload_n 0, 1) := by decide +kernel
theorem dX11_sits_89 : decode cX11_sits 89 = .ok (.iload 4, 2) := by decide +kernel
theorem dX11_sits_91 : decode cX11_sits 91 = .ok (.invokevirtual 225, 3) := by decide +kernel
theorem dX11_sits_94 : decode cX11_sits 94 = .ok (.iinc 1 1, 3) := by decide +kernel
theorem dX11_sits_97 : decode cX11_sits 97 = .ok (.aload_n 0, 1) := by decide +kernel
theorem dX11_sits_98 : decode cX11_sits 98 = .ok (.invokevirtual 125, 3) := by decide +kernel
theorem dX11_sits_101 : decode cX11_sits 101 = .ok (.ifCond .eq 8, 3) := by decide +kernel
theorem dX11_sits_104 : decode cX11_sits 104 = .ok (.bipush (-4), 2) := by decide +kernel
theorem dX11_sits_106 : decode cX11_sits 106 = .ok (.goto 4, 3) := by decide +kernel
theorem dX11_sits_109 : decode cX11_sits 109 = .ok (.iload_n 1, 1) := by decide +kernel
theorem dX11_sits_110 : decode cX11_sits 110 = .ok (.istore_n 2, 1) := by decide +kernel
theorem dX11_sits_111 : decode cX11_sits 111 = .ok (.iinc 3 1, 3) := by decide +kernel
theorem dX11_sits_114 : decode cX11_sits 114 = .ok (.goto (-81), 3) := by decide +kernel
theorem dX11_sits_117 : decode cX11_sits 117 = .ok (.aload_n 0, 1) := by decide +kernel
theorem dX11_sits_118 : decode cX11_sits 118 = .ok (.invokevirtual 241, 3) := by decide +kernel
theorem dX11_sits_121 : decode cX11_sits 121 = .ok (.iload_n 2, 1) := by decide +kernel
theorem dX11_sits_122 : decode cX11_sits 122 = .ok (.ireturn, 1) := by decide +kernel
/-! sits -/
def X11_sits_p111 (k33 : MS → Int32 → Int32 → Int32 → Option (Int32 × MS)) (st : MS) (v1 : Int32) (v2 : Int32) (v3 : Int32) : Option (Int32 × MS) :=
    nm (v3 + (1 : Int32)) fun x_1 =>
    k33 st v1 v2 x_1
def X11_sits_p110 (k33 : MS → Int32 → Int32 → Int32 → Option (Int32 × MS)) (st : MS) (v1 : Int32) (v3 : Int32) (t0 : Int32) : Option (Int32 × MS) :=
    X11_sits_p111 k33 st v1 t0 v3
def X11_sits_p71 (k33 : MS → Int32 → Int32 → Int32 → Option (Int32 × MS)) (st : MS) (v1 : Int32) (v2 : Int32) (v3 : Int32) (t0 : Int32) (t1 : Int32) : Option (Int32 × MS) :=
    dvi (12 : Int32) <|
    nm (((t0 + t1) - (t0 + t1) / (12 : Int32) * (12 : Int32))) fun x_3 =>
    inr x_3 12 <|
    if (gA st 2 x_3.toNatClampNeg) = (1 : Int32) then
      (X11_sits_p111 k33 st v1 v2 v3)
    else
    bnd (X11_cut st x_3) fun _ st_6 =>
    nm (v1 + (1 : Int32)) fun x_8 =>
    bnd (X11_stands st_6) fun y_10 st_9 =>
    if y_10 = 0 then
      (X11_sits_p110 k33 st_9 x_8 v3 x_8)
    else
    X11_sits_p110 k33 st_9 x_8 v3 (-4 : Int32)
def X11_sits_p117 (st : MS) (v2 : Int32) : Option (Int32 × MS) :=
    bnd (X11_close st) fun _ st_13 =>
    some (v2, st_13)
def X11_sits_p33 : Nat → MS → Int32 → Int32 → Int32 → Option (Int32 × MS)
  | 0, _, _, _, _ => none
  | n + 1, st, v1, v2, v3 =>
    if (12 : Int32) ≤ v3 then
      (X11_sits_p117 st v2)
    else
    if 0 ≤ v2 then
      (X11_sits_p117 st v2)
    else
    inr (6 : Int32) 7 <|
    dvi (2 : Int32) <|
    if (v3 - v3 / (2 : Int32) * (2 : Int32)) = (1 : Int32) then
      (dvi (2 : Int32) <|
      X11_sits_p71 (fun st v1 v2 v3 => X11_sits_p33  n st v1 v2 v3) st v1 v2 v3 (gA st 4 (6 : Int32).toNatClampNeg) ((v3 + (1 : Int32)) / (2 : Int32)))
    else
    dvi (2 : Int32) <|
    X11_sits_p71 (fun st v1 v2 v3 => X11_sits_p33  n st v1 v2 v3) st v1 v2 v3 (gA st 4 (6 : Int32).toNatClampNeg) ((12 : Int32) - (v3 / (2 : Int32)))
theorem X11_sits_p33_s (n : Nat) (st : MS) (v1 : Int32) (v2 : Int32) (v3 : Int32) : X11_sits_p33  (n + 1) st v1 v2 v3 =
    (if (12 : Int32) ≤ v3 then
      (X11_sits_p117 st v2)
    else
    if 0 ≤ v2 then
      (X11_sits_p117 st v2)
    else
    inr (6 : Int32) 7 <|
    dvi (2 : Int32) <|
    if (v3 - v3 / (2 : Int32) * (2 : Int32)) = (1 : Int32) then
      (dvi (2 : Int32) <|
      X11_sits_p71 (fun st v1 v2 v3 => X11_sits_p33  n st v1 v2 v3) st v1 v2 v3 (gA st 4 (6 : Int32).toNatClampNeg) ((v3 + (1 : Int32)) / (2 : Int32)))
    else
    dvi (2 : Int32) <|
    X11_sits_p71 (fun st v1 v2 v3 => X11_sits_p33  n st v1 v2 v3) st v1 v2 v3 (gA st 4 (6 : Int32).toNatClampNeg) ((12 : Int32) - (v3 / (2 : Int32)))) := rfl
def X11_sits (st : MS) : Option (Int32 × MS) :=
    nm (sF st 17 (0 : Int32)) fun st_22 =>
    if (gF st_22 7) = 0 then
      (if (gF st_22 5) = 0 then
        (bnd (X11_open st_22) fun _ st_25 =>
        X11_sits_p33 13 st_25 (0 : Int32) (-4 : Int32) (0 : Int32))
      else
      some ((-3 : Int32), st_22))
    else
    some ((-3 : Int32), st_22)
abbrev rmX11_sits : Room := { frames := 7, cells := 0, slots := 0, locals := 151 }
theorem hdX11_sits : yX11_sits.cls = RX11 ∧ yX11_sits.cls ≠ "java/lang/invoke/MethodHandle" ∧ yX11_sits.cls ≠ "java/lang/invoke/VarHandle" ∧ (parseMethodDescriptor yX11_sits.desc).map (fun d => d.parameters.length) = some 0 := by decide +kernel
set_option maxRecDepth 100000 in
set_option maxHeartbeats 4000000 in
theorem okX11_sits (l : Launch) (D : va_G) (a : Nat → Nat) (T : mT3) {st : MS} {r : Int32} {st' : MS} (heq : X11_sits st = some (r, st')) : gCi l D (mT T) yX11_sits wsX11_sits rmX11_sits [.ref (a 0)] (mW a T st) r (mW a T st') := by
  refine g_body_i (by decide) rfl (Nat.le_of_ble_eq_true rfl) (fun p e s m args below meth c A Q hx hb hml hown hts hK hA hret ls hP hD hS hl => ?_)
  have hl : lv_has ls 5 [(0, .ref (a 0))] := hl
  have hin : ∀ w ∈ wsX110, w ∈ wsX11_sits := fun w h => List.mem_cons_of_mem _ (List.mem_append_right _ h)
  have f16 : (Cond.fieldLink RX11 16 RX11 (TX11 2).2.1 (TX11 2).2.2.1).before args s = true := hts (.fieldLink RX11 16 "LaidDownTheLaneModel" "kinds" "[I") (by decide +kernel)
  have f22 : (Cond.fieldLink RX11 22 RX11 (TX11 4).2.1 (TX11 4).2.2.1).before args s = true := hts (.fieldLink RX11 22 "LaidDownTheLaneModel" "settings" "[I") (by decide +kernel)
  have f75 : (Cond.fieldLink RX11 75 RX11 (TX11 17).2.1 (TX11 17).2.2.1).before args s = true := hts (.fieldLink RX11 75 "LaidDownTheLaneModel" "thrown" "I") (by decide +kernel)
  have f89 : (Cond.fieldLink RX11 89 RX11 (TX11 5).2.1 (TX11 5).2.2.1).before args s = true := hts (.fieldLink RX11 89 "LaidDownTheLaneModel" "isLit" "Z") (by decide +kernel)
  have f122 : (Cond.fieldLink RX11 122 RX11 (TX11 7).2.1 (TX11 7).2.2.1).before args s = true := hts (.fieldLink RX11 122 "LaidDownTheLaneModel" "isDown" "Z") (by decide +kernel)
  have b111 : ∀ (k33 : MS → Int32 → Int32 → Int32 → Option (Int32 × MS)) (hk33 : ∀ (st : MS) (v1 : Int32) (v2 : Int32) (v3 : Int32) (H : Heap) (locs : List Loc) (ls : Array Slot), va_P D vwCl (mW a T st) H → va_D A (mW a T st) → va_S A s.heap H locs → lv_has ls 5 [(0, .ref (a 0)), (1, .int v1), (2, .int v2), (3, .int v3)] → k33 st v1 v2 v3 = some (r, st') → W p l e rmX11_sits s m args below meth c H locs 0 0 Q (F0 m 33 ls [])), ∀ (st : MS) (v1 : Int32) (v2 : Int32) (v3 : Int32) (H : Heap) (locs : List Loc) (ls : Array Slot), va_P D vwCl (mW a T st) H → va_D A (mW a T st) → va_S A s.heap H locs → lv_has ls 5 [(0, .ref (a 0)), (1, .int v1), (2, .int v2), (3, .int v3)] → X11_sits_p111 k33 st v1 v2 v3 = some (r, st') → W p l e rmX11_sits s m args below meth c H locs 0 0 Q (F0 m 111 ls []) := by
    intro k33 hk33 st v1 v2 v3 H locs ls hP hD hS hl heq
    unfold X11_sits_p111 at heq
    obtain ⟨x_1, ex_1⟩ : ∃ y : Int32, y = v3 + (1 : Int32) := ⟨_, rfl⟩
    have heq := nm_h ex_1 heq
    refine lv_iinc (v := x_1) (lv' := [(3, .int x_1), (0, .ref (a 0)), (1, .int v1), (2, .int v2)]) hx hb dX11_sits_111 hl (k := 3) rfl (by rw [ex_1]; rfl) (by decide) rfl (fun ls hl => ?_)
    refine lv_goto (tgt := 33) hx hb dX11_sits_114 (by decide) ?_
    exact hk33 st v1 v2 x_1 H locs ls hP hD hS (lv_sub hl [1, 2, 3, 0] rfl) heq
  have b110 : ∀ (k33 : MS → Int32 → Int32 → Int32 → Option (Int32 × MS)) (hk33 : ∀ (st : MS) (v1 : Int32) (v2 : Int32) (v3 : Int32) (H : Heap) (locs : List Loc) (ls : Array Slot), va_P D vwCl (mW a T st) H → va_D A (mW a T st) → va_S A s.heap H locs → lv_has ls 5 [(0, .ref (a 0)), (1, .int v1), (2, .int v2), (3, .int v3)] → k33 st v1 v2 v3 = some (r, st') → W p l e rmX11_sits s m args below meth c H locs 0 0 Q (F0 m 33 ls [])), ∀ (st : MS) (v1 : Int32) (v3 : Int32) (t0 : Int32) (H : Heap) (locs : List Loc) (ls : Array Slot), va_P D vwCl (mW a T st) H → va_D A (mW a T st) → va_S A s.heap H locs → lv_has ls 5 [(0, .ref (a 0)), (1, .int v1), (3, .int v3)] → X11_sits_p110 k33 st v1 v3 t0 = some (r, st') → W p l e rmX11_sits s m args below meth c H locs 0 0 Q (F0 m 110 ls [.int t0]) := by
    intro k33 hk33 st v1 v3 t0 H locs ls hP hD hS hl heq
    unfold X11_sits_p110 at heq
    refine lv_istore_n (lv' := [(2, .int t0), (0, .ref (a 0)), (1, .int v1), (3, .int v3)]) hx hb dX11_sits_110 rfl hl (by decide) rfl (fun ls hl => ?_)
    exact b111 k33 hk33 st v1 t0 v3 H locs ls hP hD hS (lv_sub hl [1, 2, 0, 3] rfl) heq
  have b71 : ∀ (k33 : MS → Int32 → Int32 → Int32 → Option (Int32 × MS)) (hk33 : ∀ (st : MS) (v1 : Int32) (v2 : Int32) (v3 : Int32) (H : Heap) (locs : List Loc) (ls : Array Slot), va_P D vwCl (mW a T st) H → va_D A (mW a T st) → va_S A s.heap H locs → lv_has ls 5 [(0, .ref (a 0)), (1, .int v1), (2, .int v2), (3, .int v3)] → k33 st v1 v2 v3 = some (r, st') → W p l e rmX11_sits s m args below meth c H locs 0 0 Q (F0 m 33 ls [])), ∀ (st : MS) (v1 : Int32) (v2 : Int32) (v3 : Int32) (t0 : Int32) (t1 : Int32) (H : Heap) (locs : List Loc) (ls : Array Slot), va_P D vwCl (mW a T st) H → va_D A (mW a T st) → va_S A s.heap H locs → lv_has ls 5 [(0, .ref (a 0)), (1, .int v1), (2, .int v2), (3, .int v3)] → X11_sits_p71 k33 st v1 v2 v3 t0 t1 = some (r, st') → W p l e rmX11_sits s m args below meth c H locs 0 0 Q (F0 m 71 ls [.int t1, .int t0]) := by
    intro k33 hk33 st v1 v2 v3 t0 t1 H locs ls hP hD hS hl heq
    unfold X11_sits_p71 at heq
    refine lv_iadd hx hb dX11_sits_71 ?_
    refine lv_bipush (v := (12 : Int32)) hx hb dX11_sits_72 (by decide) ?_
    obtain ⟨n_2, heq⟩ := dvi_h heq
    refine lv_irem hx hb dX11_sits_74 n_2 ?_
    refine lv_topi (fun x_3 ex_3 => ?_)
    have heq := nm_h ex_3 heq
    refine lv_istore (lv' := [(4, .int x_3), (0, .ref (a 0)), (1, .int v1), (2, .int v2), (3, .int v3)]) hx hb dX11_sits_75 hl (by decide) rfl (fun ls hl => ?_)
    refine lv_aload_n hx hb dX11_sits_77 rfl (lv_at hl 1 rfl) ?_
    refine mg (k := 2) (v := .ref (a 3)) hx hb hts hin hown hK hP (by decide) f16 rfl dX11_sits_78 rfl ?_
    refine lv_iload hx hb dX11_sits_81 (lv_at hl 0 rfl) ?_
    obtain ⟨n_4, heq⟩ := inr_h heq
    refine mal (k := 2) (q := 3) (n := 12) hx hb hK hP rfl n_4 dX11_sits_83 ?_
    refine lv_iconst (v := (1 : Int32)) hx hb dX11_sits_84 (by decide) ?_
    refine lv_icmp_eq (tgt := 111) hx hb dX11_sits_85 (by decide) (fun c_5 => ?_) (fun c_5 => ?_)
    · have heq := it_t c_5 heq
      exact b111 k33 hk33 st v1 v2 v3 H locs ls hP hD hS (lv_sub hl [1, 2, 3, 4] rfl) heq
    have heq := it_f c_5 heq
    refine lv_aload_n hx hb dX11_sits_88 rfl (lv_at hl 1 rfl) ?_
    refine lv_iload hx hb dX11_sits_89 (lv_at hl 0 rfl) ?_
    obtain ⟨⟨⟩, st_6, h_7, heq⟩ := bnd_h heq
    refine g_vv (own := RX11) (As := [.int x_3]) (rest := []) hx hb hml hown hts (okX11_cut l D a T h_7) (cwV 1 hts gX11_sits_X11_cut rfl rfl rfl hdX11_cut ⟨Nat.le_of_ble_eq_true rfl, Nat.le_of_ble_eq_true rfl⟩) hK hA hP hD hS (ci := 11) (q0 := 0) rfl rfl rfl hl.1 rfl (Nat.le_of_ble_eq_true rfl) dX11_sits_91 ⟨Nat.le_of_ble_eq_true rfl, Nat.le_of_ble_eq_true rfl⟩ (fun H locs hP hD hS => ?_)
    obtain ⟨x_8, ex_8⟩ : ∃ y : Int32, y = v1 + (1 : Int32) := ⟨_, rfl⟩
    have heq := nm_h ex_8 heq
    refine lv_iinc (v := x_8) (lv' := [(1, .int x_8), (4, .int x_3), (0, .ref (a 0)), (2, .int v2), (3, .int v3)]) hx hb dX11_sits_94 hl (k := 2) rfl (by rw [ex_8]; rfl) (by decide) rfl (fun ls hl => ?_)
    refine lv_aload_n hx hb dX11_sits_97 rfl (lv_at hl 2 rfl) ?_
    obtain ⟨y_10, st_9, h_11, heq⟩ := bnd_h heq
    refine g_vi (own := RX11) (As := []) (rest := []) hx hb hml hown hts (okX11_stands l D a T h_11) (cwV 0 hts gX11_sits_X11_stands rfl rfl rfl hdX11_stands ⟨Nat.le_of_ble_eq_true rfl, Nat.le_of_ble_eq_true rfl⟩) hK hA hP hD hS (ci := 11) (q0 := 0) rfl rfl rfl hl.1 rfl (Nat.le_of_ble_eq_true rfl) dX11_sits_98 ⟨Nat.le_of_ble_eq_true rfl, Nat.le_of_ble_eq_true rfl⟩ (fun H locs hP hD hS => ?_)
    refine lv_if_eq (tgt := 109) hx hb dX11_sits_101 (by decide) (fun c_12 => ?_) (fun c_12 => ?_)
    · have heq := it_t c_12 heq
      refine lv_iload_n hx hb dX11_sits_109 rfl (lv_at hl 0 rfl) ?_
      exact b110 k33 hk33 st_9 x_8 v3 x_8 H locs ls hP hD hS (lv_sub hl [2, 0, 4] rfl) heq
    have heq := it_f c_12 heq
    refine lv_bipush (v := (-4 : Int32)) hx hb dX11_sits_104 (by decide) ?_
    refine lv_goto (tgt := 110) hx hb dX11_sits_106 (by decide) ?_
    exact b110 k33 hk33 st_9 x_8 v3 (-4 : Int32) H locs ls hP hD hS (lv_sub hl [2, 0, 4] rfl) heq
  have b117 : ∀ (st : MS) (v2 : Int32) (H : Heap) (locs : List Loc) (ls : Array Slot), va_P D vwCl (mW a T st) H → va_D A (mW a T st) → va_S A s.heap H locs → lv_has ls 5 [(0, .ref (a 0)), (2, .int v2)] → X11_sits_p117  st v2 = some (r, st') → W p l e rmX11_sits s m args below meth c H locs 0 0 Q (F0 m 117 ls []) := by
    intro st v2 H locs ls hP hD hS hl heq
    unfold X11_sits_p117 at heq
    refine lv_aload_n hx hb dX11_sits_117 rfl (lv_at hl 0 rfl) ?_
    obtain ⟨⟨⟩, st_13, h_14, heq⟩ := bnd_h heq
    refine g_vv (own := RX11) (As := []) (rest := []) hx hb hml hown hts (okX11_close l D a T h_14) (cwV 0 hts gX11_sits_X11_close rfl rfl rfl hdX11_close ⟨Nat.le_of_ble_eq_true rfl, Nat.le_of_ble_eq_true rfl⟩) hK hA hP hD hS (ci := 11) (q0 := 0) rfl rfl rfl hl.1 rfl (Nat.le_of_ble_eq_true rfl) dX11_sits_118 ⟨Nat.le_of_ble_eq_true rfl, Nat.le_of_ble_eq_true rfl⟩ (fun H locs hP hD hS => ?_)
    refine lv_iload_n hx hb dX11_sits_121 rfl (lv_at hl 1 rfl) ?_
    obtain ⟨heq, heq2⟩ := ret_h heq
    subst heq
    subst heq2
    exact hret 122 H locs ls hP hD hS rfl dX11_sits_122
  have b33 : ∀ (n : Nat), ∀ (st : MS) (v1 : Int32) (v2 : Int32) (v3 : Int32) (H : Heap) (locs : List Loc) (ls : Array Slot), va_P D vwCl (mW a T st) H → va_D A (mW a T st) → va_S A s.heap H locs → lv_has ls 5 [(0, .ref (a 0)), (1, .int v1), (2, .int v2), (3, .int v3)] → X11_sits_p33  n st v1 v2 v3 = some (r, st') → W p l e rmX11_sits s m args below meth c H locs 0 0 Q (F0 m 33 ls []) := by
    intro n
    induction n with
    | zero => intro st v1 v2 v3 H locs ls hP hD hS hl heq; cases heq
    | succ n ih =>
      intro st v1 v2 v3 H locs ls hP hD hS hl heq
      rw [X11_sits_p33_s] at heq
      refine lv_iload_n hx hb dX11_sits_33 rfl (lv_at hl 3 rfl) ?_
      refine lv_bipush (v := (12 : Int32)) hx hb dX11_sits_34 (by decide) ?_
      refine lv_icmp_ge (tgt := 117) hx hb dX11_sits_36 (by decide) (fun c_15 => ?_) (fun c_15 => ?_)
      · have heq := it_t c_15 heq
        exact b117 st v2 H locs ls hP hD hS (lv_sub hl [0, 2] rfl) heq
      have heq := it_f c_15 heq
      refine lv_iload_n hx hb dX11_sits_39 rfl (lv_at hl 2 rfl) ?_
      refine lv_if_ge (tgt := 117) hx hb dX11_sits_40 (by decide) (fun c_16 => ?_) (fun c_16 => ?_)
      · have heq := it_t c_16 heq
        exact b117 st v2 H locs ls hP hD hS (lv_sub hl [0, 2] rfl) heq
      have heq := it_f c_16 heq
      refine lv_aload_n hx hb dX11_sits_43 rfl (lv_at hl 0 rfl) ?_
      refine mg (k := 4) (v := .ref (a 5)) hx hb hts hin hown hK hP (by decide) f22 rfl dX11_sits_44 rfl ?_
      refine lv_bipush (v := (6 : Int32)) hx hb dX11_sits_47 (by decide) ?_
      obtain ⟨n_17, heq⟩ := inr_h heq
      refine mal (k := 4) (q := 5) (n := 7) hx hb hK hP rfl n_17 dX11_sits_49 ?_
      refine lv_iload_n hx hb dX11_sits_50 rfl (lv_at hl 3 rfl) ?_
      refine lv_iconst (v := (2 : Int32)) hx hb dX11_sits_51 (by decide) ?_
      obtain ⟨n_18, heq⟩ := dvi_h heq
      refine lv_irem hx hb dX11_sits_52 n_18 ?_
      refine lv_iconst (v := (1 : Int32)) hx hb dX11_sits_53 (by decide) ?_
      refine lv_icmp_ne (tgt := 65) hx hb dX11_sits_54 (by decide) (fun c_19 => ?_) (fun c_19 => ?_)
      · have heq := it_f c_19 heq
        refine lv_bipush (v := (12 : Int32)) hx hb dX11_sits_65 (by decide) ?_
        refine lv_iload_n hx hb dX11_sits_67 rfl (lv_at hl 3 rfl) ?_
        refine lv_iconst (v := (2 : Int32)) hx hb dX11_sits_68 (by decide) ?_
        obtain ⟨n_20, heq⟩ := dvi_h heq
        refine lv_idiv hx hb dX11_sits_69 n_20 ?_
        refine lv_isub hx hb dX11_sits_70 ?_
        exact b71 (fun st v1 v2 v3 => X11_sits_p33  n st v1 v2 v3) ih st v1 v2 v3 (gA st 4 (6 : Int32).toNatClampNeg) ((12 : Int32) - (v3 / (2 : Int32))) H locs ls hP hD hS (lv_sub hl [0, 1, 2, 3] rfl) heq
      have heq := it_t c_19 heq
      refine lv_iload_n hx hb dX11_sits_57 rfl (lv_at hl 3 rfl) ?_
      refine lv_iconst (v := (1 : Int32)) hx hb dX11_sits_58 (by decide) ?_
      refine lv_iadd hx hb dX11_sits_59 ?_
      refine lv_iconst (v := (2 : Int32)) hx hb dX11_sits_60 (by decide) ?_
      obtain ⟨n_21, heq⟩ := dvi_h heq
      refine lv_idiv hx hb dX11_sits_61 n_21 ?_
      refine lv_goto (tgt := 71) hx hb dX11_sits_62 (by decide) ?_
      exact b71 (fun st v1 v2 v3 => X11_sits_p33  n st v1 v2 v3) ih st v1 v2 v3 (gA st 4 (6 : Int32).toNatClampNeg) ((v3 + (1 : Int32)) / (2 : Int32)) H locs ls hP hD hS (lv_sub hl [0, 1, 2, 3] rfl) heq
  obtain ⟨H, hH⟩ : ∃ H, H = s.heap := ⟨_, rfl⟩
  obtain ⟨locs, hlocs⟩ : ∃ z : List Loc, z = [] := ⟨_, rfl⟩
  have hS : va_S A s.heap H locs := by rw [hH, hlocs]; exact hS
  have hP : va_P D vwCl (mW a T st) H := by rw [hH]; exact hP
  suffices h9 : W p l e rmX11_sits s m args below meth c H locs 0 0 Q (F0 m 0 ls []) by rw [hH, hlocs] at h9; exact h9
  clear hH hlocs
  unfold X11_sits at heq
  refine lv_aload_n hx hb dX11_sits_0 rfl (lv_at hl 0 rfl) ?_
  refine lv_iconst (v := (0 : Int32)) hx hb dX11_sits_1 (by decide) ?_
  refine mp (k := 17) hx hb hts hin hown hK hP hD hS (by decide) f75 dX11_sits_2 rfl rfl rfl rfl (mset_17 ..) (fun H locs hP hD hS => ?_)
  obtain ⟨st_22, est_22⟩ : ∃ z, z = sF st 17 (0 : Int32) := ⟨_, rfl⟩
  rw [← est_22] at hP hD
  have heq := nm_h est_22 heq
  refine lv_aload_n hx hb dX11_sits_5 rfl (lv_at hl 0 rfl) ?_
  refine mg (k := 7) (v := .int (gF st_22 7)) hx hb hts hin hown hK hP (by decide) f122 rfl dX11_sits_6 rfl ?_
  refine lv_if_ne (tgt := 19) hx hb dX11_sits_9 (by decide) (fun c_23 => ?_) (fun c_23 => ?_)
  · have heq := it_f c_23 heq
    refine lv_bipush (v := (-3 : Int32)) hx hb dX11_sits_19 (by decide) ?_
    obtain ⟨heq, heq2⟩ := ret_h heq
    subst heq
    subst heq2
    exact hret 21 H locs ls hP hD hS rfl dX11_sits_21
  have heq := it_t c_23 heq
  refine lv_aload_n hx hb dX11_sits_12 rfl (lv_at hl 0 rfl) ?_
  refine mg (k := 5) (v := .int (gF st_22 5)) hx hb hts hin hown hK hP (by decide) f89 rfl dX11_sits_13 rfl ?_
  refine lv_if_eq (tgt := 22) hx hb dX11_sits_16 (by decide) (fun c_24 => ?_) (fun c_24 => ?_)
  · have heq := it_t c_24 heq
    refine lv_iconst (v := (0 : Int32)) hx hb dX11_sits_22 (by decide) ?_
    refine lv_istore_n (lv' := [(1, .int (0 : Int32)), (0, .ref (a 0))]) hx hb dX11_sits_23 rfl hl (by decide) rfl (fun ls hl => ?_)
    refine lv_bipush (v := (-4 : Int32)) hx hb dX11_sits_24 (by decide) ?_
    refine lv_istore_n (lv' := [(2, .int (-4 : Int32)), (1, .int (0 : Int32)), (0, .ref (a 0))]) hx hb dX11_sits_26 rfl hl (by decide) rfl (fun ls hl => ?_)
    refine lv_aload_n hx hb dX11_sits_27 rfl (lv_at hl 2 rfl) ?_
    obtain ⟨⟨⟩, st_25, h_26, heq⟩ := bnd_h heq
    refine g_vv (own := RX11) (As := []) (rest := []) hx hb hml hown hts (okX11_open l D a T h_26) (cwV 0 hts gX11_sits_X11_open rfl rfl rfl hdX11_open ⟨Nat.le_of_ble_eq_true rfl, Nat.le_of_ble_eq_true rfl⟩) hK hA hP hD hS (ci := 11) (q0 := 0) rfl rfl rfl hl.1 rfl (Nat.le_of_ble_eq_true rfl) dX11_sits_28 ⟨Nat.le_of_ble_eq_true rfl, Nat.le_of_ble_eq_true rfl⟩ (fun H locs hP hD hS => ?_)
    refine lv_iconst (v := (0 : Int32)) hx hb dX11_sits_31 (by decide) ?_
    refine lv_istore_n (lv' := [(3, .int (0 : Int32)), (2, .int (-4 : Int32)), (1, .int (0 : Int32)), (0, .ref (a 0))]) hx hb dX11_sits_32 rfl hl (by decide) rfl (fun ls hl => ?_)
    exact b33 13 st_25 (0 : Int32) (-4 : Int32) (0 : Int32) H locs ls hP hD hS (lv_sub hl [3, 2, 1, 0] rfl) heq
  have heq := it_f c_24 heq
  refine lv_bipush (v := (-3 : Int32)) hx hb dX11_sits_19 (by decide) ?_
  obtain ⟨heq, heq2⟩ := ret_h heq
  subst heq
  subst heq2
  exact hret 21 H locs ls hP hD hS rfl dX11_sits_21
