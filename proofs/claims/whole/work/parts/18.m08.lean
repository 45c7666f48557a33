set_option maxRecDepth 20000 in
theorem ggX11_fitsUpTo_X11_skipped : GoodIn wsX11_fitsUpTo wsX11_skipped := goodIn_r _ [7, 8, 9, 10, 11, 47, 48, 49, 50, 51, 52, 53, 54, 55, 56, 57, 58, 59, 60, 61, 62, 63, 64, 65, 66, 67, 68, 69, 70, 71, 72, 73, 74, 75, 76, 77, 78, 79, 80, 81, 82, 83] (by decide +kernel) (by decide +kernel)
set_option maxRecDepth 20000 in
theorem gX11_fitsUpTo_X11_skipped : GoodIn wsX11_fitsUpTo (wsV RX11 310 RX11 yX11_skipped wsX11_skipped) := goodIn_app (goodIn_of _ (by decide +kernel)) ggX11_fitsUpTo_X11_skipped
set_option maxRecDepth 20000 in
theorem ggX11_fitsUpTo_X11_struckBy : GoodIn wsX11_fitsUpTo wsX11_struckBy := goodIn_r _ [15, 16, 17, 18, 6, 19, 20, 21, 22, 23, 24, 25, 26, 27, 28, 29, 30, 31, 32, 33, 34, 35, 36, 37, 38, 39, 40, 41, 42, 43, 47, 48, 49, 50, 51, 52, 53, 54, 55, 56, 57, 58, 59, 60, 61, 62, 63, 64, 65, 66, 67, 68, 69, 70, 71, 72, 73, 74, 75, 76, 77, 78, 79, 80, 81, 82, 83] (by decide +kernel) (by decide +kernel)
set_option maxRecDepth 20000 in
theorem gX11_fitsUpTo_X11_struckBy : GoodIn wsX11_fitsUpTo (wsV RX11 301 RX11 yX11_struckBy wsX11_struckBy) := goodIn_app (goodIn_of _ (by decide +kernel)) ggX11_fitsUpTo_X11_struckBy
set_option maxRecDepth 20000 in
theorem ggX11_fitsUpTo_X11_hasBit : GoodIn wsX11_fitsUpTo wsX11_hasBit := goodIn_r _ [46] (by decide +kernel) (by decide +kernel)
set_option maxRecDepth 20000 in
theorem gX11_fitsUpTo_X11_hasBit : GoodIn wsX11_fitsUpTo (va_wsS RX11 222 yX11_hasBit wsX11_hasBit) := goodIn_app (goodIn_of _ (by decide +kernel)) ggX11_fitsUpTo_X11_hasBit
theorem dX11_fitsUpTo_0 : decode cX11_fitsUpTo 0 = .ok (.iconst 0, 1) := by decide +kernel
theorem dX11_fitsUpTo_1 : decode cX11_fitsUpTo 1 = .ok (.istore_n 3, 1) := by decide +kernel
theorem dX11_fitsUpTo_2 : decode cX11_fitsUpTo 2 = .ok (.iconst 1, 1) := by decide +kernel
theorem dX11_fitsUpTo_3 : decode cX11_fitsUpTo 3 = .ok (.istore 4, 2) := by decide +kernel
theorem dX11_fitsUpTo_5 : decode cX11_fitsUpTo 5 = .ok (.iload_n 3, 1) := by decide +kernel
theorem dX11_fitsUpTo_6 : decode cX11_fitsUpTo 6 = .ok (.aload_n 0, 1) := by decide +kernel
theorem dX11_fitsUpTo_7 : decode cX11_fitsUpTo 7 = .ok (.getfield 43, 3) := by decide +kernel
theorem dX11_fitsUpTo_10 : decode cX11_fitsUpTo 10 = .ok (.iload_n 1, 1) := by decide +kernel
theorem dX11_fitsUpTo_11 : decode cX11_fitsUpTo 11 = .ok (.iaload, 1) := by decide +kernel
theorem dX11_fitsUpTo_12 : decode cX11_fitsUpTo 12 = .ok (.if_icmp .ge 79, 3) := by decide +kernel
theorem dX11_fitsUpTo_15 : decode cX11_fitsUpTo 15 = .ok (.iload 4, 2) := by decide +kernel
theorem dX11_fitsUpTo_17 : decode cX11_fitsUpTo 17 = .ok (.ifCond .eq 74, 3) := by decide +kernel
theorem dX11_fitsUpTo_20 : decode cX11_fitsUpTo 20 = .ok (.aload_n 0, 1) := by decide +kernel
theorem dX11_fitsUpTo_21 : decode cX11_fitsUpTo 21 = .ok (.getfield 46, 3) := by decide +kernel
theorem dX11_fitsUpTo_24 : decode cX11_fitsUpTo 24 = .ok (.bipush 100, 2) := by decide +kernel
theorem dX11_fitsUpTo_26 : decode cX11_fitsUpTo 26 = .ok (.iload_n 1, 1) := by decide +kernel
theorem dX11_fitsUpTo_27 : decode cX11_fitsUpTo 27 = .ok (.imul, 1) := by decide +kernel
theorem dX11_fitsUpTo_28 : decode cX11_fitsUpTo 28 = .ok (.iload_n 3, 1) := by decide +kernel
theorem dX11_fitsUpTo_29 : decode cX11_fitsUpTo 29 = .ok (.iadd, 1) := by decide +kernel
theorem dX11_fitsUpTo_30 : decode cX11_fitsUpTo 30 = .ok (.laload, 1) := by decide +kernel
theorem dX11_fitsUpTo_31 : decode cX11_fitsUpTo 31 = .ok (.lstore 5, 2) := by decide +kernel
theorem dX11_fitsUpTo_33 : decode cX11_fitsUpTo 33 = .ok (.lload 5, 2) := by decide +kernel
theorem dX11_fitsUpTo_35 : decode cX11_fitsUpTo 35 = .ok (.aload_n 0, 1) := by decide +kernel
theorem dX11_fitsUpTo_36 : decode cX11_fitsUpTo 36 = .ok (.iload_n 1, 1) := by decide +kernel
theorem dX11_fitsUpTo_37 : decode cX11_fitsUpTo 37 = .ok (.invokevirtual 310, 3) := by decide +kernel
theorem dX11_fitsUpTo_40 : decode cX11_fitsUpTo 40 = .ok (.lcmp, 1) := by decide +kernel
theorem dX11_fitsUpTo_41 : decode cX11_fitsUpTo 41 = .ok (.ifCond .eq 27, 3) := by decide +kernel
theorem dX11_fitsUpTo_44 : decode cX11_fitsUpTo 44 = .ok (.lload 5, 2) := by decide +kernel
theorem dX11_fitsUpTo_46 : decode cX11_fitsUpTo 46 = .ok (.aload_n 0, 1) := by decide +kernel
theorem dX11_fitsUpTo_47 : decode cX11_fitsUpTo 47 = .ok (.iload_n 2, 1) := by decide +kernel
theorem dX11_fitsUpTo_48 : decode cX11_fitsUpTo 48 = .ok (.invokevirtual 301, 3) := by decide +kernel
theorem dX11_fitsUpTo_51 : decode cX11_fitsUpTo 51 = .ok (.iload_n 3, 1) := by decide +kernel
theorem dX11_fitsUpTo_52 : decode cX11_fitsUpTo 52 = .ok (.invokestatic 222, 3) := by decide +kernel
theorem dX11_fitsUpTo_55 : decode cX11_fitsUpTo 55 = .ok (.ifCond .eq 7, 3) := by decide +kernel
theorem dX11_fitsUpTo_58 : decode cX11_fitsUpTo 58 = .ok (.iconst 1, 1) := by decide +kernel
theorem dX11_fitsUpTo_59 : decode cX11_fitsUpTo 59 = .ok (.goto 4, 3) := by decide +kernel
theorem dX11_fitsUpTo_62 : decode cX11_fitsUpTo 62 = .ok (.iconst 0, 1) := by decide +kernel
theorem dX11_fitsUpTo_63 : decode cX11_fitsUpTo 63 = .ok (.i2l, 1) := by decide +kernel
theorem dX11_fitsUpTo_64 : decode cX11_fitsUpTo 64 = .ok (.lcmp, 1) := by decide +kernel
theorem dX11_fitsUpTo_65 : decode cX11_fitsUpTo 65 = .ok (.ifCond .ne 7, 3) := by decide +kernel
theorem dX11_fitsUpTo_68 : decode cX11_fitsUpTo 68 = .ok (.iconst 1, 1) := by decide +kernel
theorem dX11_fitsUpTo_69 : decode cX11_fitsUpTo 69 = .ok (.goto 4, 3) := by decide +kernel
theorem dX11_fitsUpTo_72 : decode cX11_fitsUpTo 72 = .ok (.iconst 0, 1) := by decide +kernel
theorem dX11_fitsUpTo_73 : decode cX11_fitsUpTo 73 = .ok (.istore 4, 2) := by decide +kernel
theorem dX11_fitsUpTo_75 : decode cX11_fitsUpTo 75 = .ok (.iload_n 3, 1) := by decide +kernel
theorem dX11_fitsUpTo_76 : decode cX11_fitsUpTo 76 = .ok (.iload 4, 2) := by decide +kernel
theorem dX11_fitsUpTo_78 : decode cX11_fitsUpTo 78 = .ok (.ifCond .eq 7, 3) := by decide +kernel
theorem dX11_fitsUpTo_81 : decode cX11_fitsUpTo 81 = .ok (.iconst 1, 1) := by decide +kernel
theorem dX11_fitsUpTo_82 : decode cX11_fitsUpTo 82 = .ok (.goto 4, 3) := by decide +kernel
theorem dX11_fitsUpTo_85 : decode cX11_fitsUpTo 85 = .ok (.iconst 0, 1) := by decide +kernel
theorem dX11_fitsUpTo_86 : decode cX11_fitsUpTo 86 = .ok (.iadd, 1) := by decide +kernel
theorem dX11_fitsUpTo_87 : decode cX11_fitsUpTo 87 = .ok (.istore_n 3, 1) := by decide +kernel
theorem dX11_fitsUpTo_88 : decode cX11_fitsUpTo 88 = .ok (.goto (-83), 3) := by decide +kernel
theorem dX11_fitsUpTo_91 : decode cX11_fitsUpTo 91 = .ok (.iload_n 3, 1) := by decide +kernel
theorem dX11_fitsUpTo_92 : decode cX11_fitsUpTo 92 = .ok (.ireturn, 1) := by decide +kernel
/-! fitsUpTo -/
def X11_fitsUpTo_p86 (k5 : MS → Int32 → Int32 → Int32 → Int32 → Option (Int32 × MS)) (st : MS) (v1 : Int32) (v2 : Int32) (v4 : Int32) (t0 : Int32) (t1 : Int32) : Option (Int32 × MS) :=
    nm ((t0 + t1)) fun x_1 =>
    k5 st v1 v2 x_1 v4
def X11_fitsUpTo_p73 (k5 : MS → Int32 → Int32 → Int32 → Int32 → Option (Int32 × MS)) (st : MS) (v1 : Int32) (v2 : Int32) (v3 : Int32) (t0 : Int32) : Option (Int32 × MS) :=
    if t0 = 0 then
      (X11_fitsUpTo_p86 k5 st v1 v2 t0 v3 (0 : Int32))
    else
    X11_fitsUpTo_p86 k5 st v1 v2 t0 v3 (1 : Int32)
def X11_fitsUpTo_p68 (k5 : MS → Int32 → Int32 → Int32 → Int32 → Option (Int32 × MS)) (st : MS) (v1 : Int32) (v2 : Int32) (v3 : Int32) : Option (Int32 × MS) :=
    X11_fitsUpTo_p73 k5 st v1 v2 v3 (1 : Int32)
def X11_fitsUpTo_p63 (k5 : MS → Int32 → Int32 → Int32 → Int32 → Option (Int32 × MS)) (st : MS) (v1 : Int32) (v2 : Int32) (v3 : Int32) (t0 : Int64) (t1 : Int32) : Option (Int32 × MS) :=
    if (lg_cmp t0 (t1.toInt64)) = 0 then
      (X11_fitsUpTo_p68 k5 st v1 v2 v3)
    else
    X11_fitsUpTo_p73 k5 st v1 v2 v3 (0 : Int32)
def X11_fitsUpTo_p91 (st : MS) (v3 : Int32) : Option (Int32 × MS) :=
    some (v3, st)
def X11_fitsUpTo_p5 : Nat → MS → Int32 → Int32 → Int32 → Int32 → Option (Int32 × MS)
  | 0, _, _, _, _, _ => none
  | n + 1, st, v1, v2, v3, v4 =>
    inr v1 8 <|
    if (gA st 15 v1.toNatClampNeg) ≤ v3 then
      (X11_fitsUpTo_p91 st v3)
    else
    if v4 = 0 then
      (X11_fitsUpTo_p91 st v3)
    else
    inr (((100 : Int32) * v1) + v3) 800 <|
    nm ((gL st 16 (((100 : Int32) * v1) + v3).toNatClampNeg)) fun x_8 =>
    bnd (X11_skipped st v1) fun y_10 st_9 =>
    if (lg_cmp x_8 y_10) = 0 then
      (X11_fitsUpTo_p68 (fun st v1 v2 v3 v4 => X11_fitsUpTo_p5  n st v1 v2 v3 v4) st_9 v1 v2 v3)
    else
    bnd (X11_struckBy st_9 v2) fun y_14 st_13 =>
    bd1 (X11_hasBit y_14 v3) fun y_16 =>
    if y_16 = 0 then
      (X11_fitsUpTo_p63 (fun st v1 v2 v3 v4 => X11_fitsUpTo_p5  n st v1 v2 v3 v4) st_13 v1 v2 v3 x_8 (0 : Int32))
    else
    X11_fitsUpTo_p63 (fun st v1 v2 v3 v4 => X11_fitsUpTo_p5  n st v1 v2 v3 v4) st_13 v1 v2 v3 x_8 (1 : Int32)
theorem X11_fitsUpTo_p5_s (n : Nat) (st : MS) (v1 : Int32) (v2 : Int32) (v3 : Int32) (v4 : Int32) : X11_fitsUpTo_p5  (n + 1) st v1 v2 v3 v4 =
    (inr v1 8 <|
    if (gA st 15 v1.toNatClampNeg) ≤ v3 then
      (X11_fitsUpTo_p91 st v3)
    else
    if v4 = 0 then
      (X11_fitsUpTo_p91 st v3)
    else
    inr (((100 : Int32) * v1) + v3) 800 <|
    nm ((gL st 16 (((100 : Int32) * v1) + v3).toNatClampNeg)) fun x_8 =>
    bnd (X11_skipped st v1) fun y_10 st_9 =>
    if (lg_cmp x_8 y_10) = 0 then
      (X11_fitsUpTo_p68 (fun st v1 v2 v3 v4 => X11_fitsUpTo_p5  n st v1 v2 v3 v4) st_9 v1 v2 v3)
    else
    bnd (X11_struckBy st_9 v2) fun y_14 st_13 =>
    bd1 (X11_hasBit y_14 v3) fun y_16 =>
    if y_16 = 0 then
      (X11_fitsUpTo_p63 (fun st v1 v2 v3 v4 => X11_fitsUpTo_p5  n st v1 v2 v3 v4) st_13 v1 v2 v3 x_8 (0 : Int32))
    else
    X11_fitsUpTo_p63 (fun st v1 v2 v3 v4 => X11_fitsUpTo_p5  n st v1 v2 v3 v4) st_13 v1 v2 v3 x_8 (1 : Int32)) := rfl
def X11_fitsUpTo (st : MS) (v1 : Int32) (v2 : Int32) : Option (Int32 × MS) :=
    X11_fitsUpTo_p5 5000 st v1 v2 (0 : Int32) (1 : Int32)
abbrev rmX11_fitsUpTo : Room := { frames := 3, cells := 0, slots := 0, locals := 67 }
theorem hdX11_fitsUpTo : yX11_fitsUpTo.cls = RX11 ∧ yX11_fitsUpTo.cls ≠ "java/lang/invoke/MethodHandle" ∧ yX11_fitsUpTo.cls ≠ "java/lang/invoke/VarHandle" ∧ (parseMethodDescriptor yX11_fitsUpTo.desc).map (fun d => d.parameters.length) = some 2 := by decide +kernel
set_option maxRecDepth 100000 in
set_option maxHeartbeats 4000000 in
theorem okX11_fitsUpTo (l : Launch) (D : va_G) (a : Nat → Nat) (T : mT3) {st : MS} {v1 : Int32} {v2 : Int32} {r : Int32} {st' : MS} (heq : X11_fitsUpTo st v1 v2 = some (r, st')) : gCi l D (mT T) yX11_fitsUpTo wsX11_fitsUpTo rmX11_fitsUpTo [.ref (a 0), .int v1, .int v2] (mW a T st) r (mW a T st') := by
  refine g_body_i (by decide) rfl (Nat.le_of_ble_eq_true rfl) (fun p e s m args below meth c A Q hx hb hml hown hts hK hA hret ls hP hD hS hl => ?_)
  have hl : lv_has ls 7 [(0, .ref (a 0)), (1, .int v1), (2, .int v2)] := hl
  have hin : ∀ w ∈ wsX110, w ∈ wsX11_fitsUpTo := fun w h => List.mem_cons_of_mem _ (List.mem_append_right _ h)
  have f43 : (Cond.fieldLink RX11 43 RX11 (TX11 15).2.1 (TX11 15).2.2.1).before args s = true := hts (.fieldLink RX11 43 "LaidDownTheLaneModel" "rowMany" "[I") (by decide +kernel)
  have f46 : (Cond.fieldLink RX11 46 RX11 (TX11 16).2.1 (TX11 16).2.2.1).before args s = true := hts (.fieldLink RX11 46 "LaidDownTheLaneModel" "rows" "[J") (by decide +kernel)
  have b86 : ∀ (k5 : MS → Int32 → Int32 → Int32 → Int32 → Option (Int32 × MS)) (hk5 : ∀ (st : MS) (v1 : Int32) (v2 : Int32) (v3 : Int32) (v4 : Int32) (H : Heap) (locs : List Loc) (ls : Array Slot), va_P D vwCl (mW a T st) H → va_D A (mW a T st) → va_S A s.heap H locs → lv_has ls 7 [(0, .ref (a 0)), (1, .int v1), (2, .int v2), (3, .int v3), (4, .int v4)] → k5 st v1 v2 v3 v4 = some (r, st') → W p l e rmX11_fitsUpTo s m args below meth c H locs 0 0 Q (F0 m 5 ls [])), ∀ (st : MS) (v1 : Int32) (v2 : Int32) (v4 : Int32) (t0 : Int32) (t1 : Int32) (H : Heap) (locs : List Loc) (ls : Array Slot), va_P D vwCl (mW a T st) H → va_D A (mW a T st) → va_S A s.heap H locs → lv_has ls 7 [(0, .ref (a 0)), (1, .int v1), (2, .int v2), (4, .int v4)] → X11_fitsUpTo_p86 k5 st v1 v2 v4 t0 t1 = some (r, st') → W p l e rmX11_fitsUpTo s m args below meth c H locs 0 0 Q (F0 m 86 ls [.int t1, .int t0]) := by
    intro k5 hk5 st v1 v2 v4 t0 t1 H locs ls hP hD hS hl heq
    unfold X11_fitsUpTo_p86 at heq
    refine lv_iadd hx hb dX11_fitsUpTo_86 ?_
    refine lv_topi (fun x_1 ex_1 => ?_)
    have heq := nm_h ex_1 heq
    refine lv_istore_n (lv' := [(3, .int x_1), (0, .ref (a 0)), (1, .int v1), (2, .int v2), (4, .int v4)]) hx hb dX11_fitsUpTo_87 rfl hl (by decide) rfl (fun ls hl => ?_)
    refine lv_goto (tgt := 5) hx hb dX11_fitsUpTo_88 (by decide) ?_
    exact hk5 st v1 v2 x_1 v4 H locs ls hP hD hS (lv_sub hl [1, 2, 3, 0, 4] rfl) heq
  have b73 : ∀ (k5 : MS → Int32 → Int32 → Int32 → Int32 → Option (Int32 × MS)) (hk5 : ∀ (st : MS) (v1 : Int32) (v2 : Int32) (v3 : Int32) (v4 : Int32) (H : Heap) (locs : List Loc) (ls : Array Slot), va_P D vwCl (mW a T st) H → va_D A (mW a T st) → va_S A s.heap H locs → lv_has ls 7 [(0, .ref (a 0)), (1, .int v1), (2, .int v2), (3, .int v3), (4, .int v4)] → k5 st v1 v2 v3 v4 = some (r, st') → W p l e rmX11_fitsUpTo s m args below meth c H locs 0 0 Q (F0 m 5 ls [])), ∀ (st : MS) (v1 : Int32) (v2 : Int32) (v3 : Int32) (t0 : Int32) (H : Heap) (locs : List Loc) (ls : Array Slot), va_P D vwCl (mW a T st) H → va_D A (mW a T st) → va_S A s.heap H locs → lv_has ls 7 [(0, .ref (a 0)), (1, .int v1), (2, .int v2), (3, .int v3)] → X11_fitsUpTo_p73 k5 st v1 v2 v3 t0 = some (r, st') → W p l e rmX11_fitsUpTo s m args below meth c H locs 0 0 Q (F0 m 73 ls [.int t0]) := by
    intro k5 hk5 st v1 v2 v3 t0 H locs ls hP hD hS hl heq
    unfold X11_fitsUpTo_p73 at heq
    refine lv_istore (lv' := [(4, .int t0), (0, .ref (a 0)), (1, .int v1), (2, .int v2), (3, .int v3)]) hx hb dX11_fitsUpTo_73 hl (by decide) rfl (fun ls hl => ?_)
    refine lv_iload_n hx hb dX11_fitsUpTo_75 rfl (lv_at hl 4 rfl) ?_
    refine lv_iload hx hb dX11_fitsUpTo_76 (lv_at hl 0 rfl) ?_
    refine lv_if_eq (tgt := 85) hx hb dX11_fitsUpTo_78 (by decide) (fun c_2 => ?_) (fun c_2 => ?_)
    · have heq := it_t c_2 heq
      refine lv_iconst (v := (0 : Int32)) hx hb dX11_fitsUpTo_85 (by decide) ?_
      exact b86 k5 hk5 st v1 v2 t0 v3 (0 : Int32) H locs ls hP hD hS (lv_sub hl [1, 2, 3, 0] rfl) heq
    have heq := it_f c_2 heq
    refine lv_iconst (v := (1 : Int32)) hx hb dX11_fitsUpTo_81 (by decide) ?_
    refine lv_goto (tgt := 86) hx hb dX11_fitsUpTo_82 (by decide) ?_
    exact b86 k5 hk5 st v1 v2 t0 v3 (1 : Int32) H locs ls hP hD hS (lv_sub hl [1, 2, 3, 0] rfl) heq
  have b68 : ∀ (k5 : MS → Int32 → Int32 → Int32 → Int32 → Option (Int32 × MS)) (hk5 : ∀ (st : MS) (v1 : Int32) (v2 : Int32) (v3 : Int32) (v4 : Int32) (H : Heap) (locs : List Loc) (ls : Array Slot), va_P D vwCl (mW a T st) H → va_D A (mW a T st) → va_S A s.heap H locs → lv_has ls 7 [(0, .ref (a 0)), (1, .int v1), (2, .int v2), (3, .int v3), (4, .int v4)] → k5 st v1 v2 v3 v4 = some (r, st') → W p l e rmX11_fitsUpTo s m args below meth c H locs 0 0 Q (F0 m 5 ls [])), ∀ (st : MS) (v1 : Int32) (v2 : Int32) (v3 : Int32) (H : Heap) (locs : List Loc) (ls : Array Slot), va_P D vwCl (mW a T st) H → va_D A (mW a T st) → va_S A s.heap H locs → lv_has ls 7 [(0, .ref (a 0)), (1, .int v1), (2, .int v2), (3, .int v3)] → X11_fitsUpTo_p68 k5 st v1 v2 v3 = some (r, st') → W p l e rmX11_fitsUpTo s m args below meth c H locs 0 0 Q (F0 m 68 ls []) := by
    intro k5 hk5 st v1 v2 v3 H locs ls hP hD hS hl heq
    unfold X11_fitsUpTo_p68 at heq
    refine lv_iconst (v := (1 : Int32)) hx hb dX11_fitsUpTo_68 (by decide) ?_
    refine lv_goto (tgt := 73) hx hb dX11_fitsUpTo_69 (by decide) ?_
    exact b73 k5 hk5 st v1 v2 v3 (1 : Int32) H locs ls hP hD hS (lv_sub hl [0, 1, 2, 3] rfl) heq
  have b63 : ∀ (k5 : MS → Int32 → Int32 → Int32 → Int32 → Option (Int32 × MS)) (hk5 : ∀ (st : MS) (v1 : Int32) (v2 : Int32) (v3 : Int32) (v4 : Int32) (H : Heap) (locs : List Loc) (ls : Array Slot), va_P D vwCl (mW a T st) H → va_D A (mW a T st) → va_S A s.heap H locs → lv_has ls 7 [(0, .ref (a 0)), (1, .int v1), (2, .int v2), (3, .int v3), (4, .int v4)] → k5 st v1 v2 v3 v4 = some (r, st') → W p l e rmX11_fitsUpTo s m args below meth c H locs 0 0 Q (F0 m 5 ls [])), ∀ (st : MS) (v1 : Int32) (v2 : Int32) (v3 : Int32) (t0 : Int64) (t1 : Int32) (H : Heap) (locs : List Loc) (ls : Array Slot), va_P D vwCl (mW a T st) H → va_D A (mW a T st) → va_S A s.heap H locs → lv_has ls 7 [(0, .ref (a 0)), (1, .int v1), (2, .int v2), (3, .int v3)] → X11_fitsUpTo_p63 k5 st v1 v2 v3 t0 t1 = some (r, st') → W p l e rmX11_fitsUpTo s m args below meth c H locs 0 0 Q (F0 m 63 ls [.int t1, .long t0]) := by
    intro k5 hk5 st v1 v2 v3 t0 t1 H locs ls hP hD hS hl heq
    unfold X11_fitsUpTo_p63 at heq
    refine lv_i2l hx hb dX11_fitsUpTo_63 rfl ?_
    refine W.lcmp hx hb dX11_fitsUpTo_64 ?_
    refine lv_if_ne (tgt := 72) hx hb dX11_fitsUpTo_65 (by decide) (fun c_3 => ?_) (fun c_3 => ?_)
    · have heq := it_f c_3 heq
      refine lv_iconst (v := (0 : Int32)) hx hb dX11_fitsUpTo_72 (by decide) ?_
      exact b73 k5 hk5 st v1 v2 v3 (0 : Int32) H locs ls hP hD hS (lv_sub hl [0, 1, 2, 3] rfl) heq
    have heq := it_t c_3 heq
    exact b68 k5 hk5 st v1 v2 v3 H locs ls hP hD hS (lv_sub hl [0, 1, 2, 3] rfl) heq
  have b91 : ∀ (st : MS) (v3 : Int32) (H : Heap) (locs : List Loc) (ls : Array Slot), va_P D vwCl (mW a T st) H → va_D A (mW a T st) → va_S A s.heap H locs → lv_has ls 7 [(3, .int v3)] → X11_fitsUpTo_p91  st v3 = some (r, st') → W p l e rmX11_fitsUpTo s m args below meth c H locs 0 0 Q (F0 m 91 ls []) := by
    intro st v3 H locs ls hP hD hS hl heq
    unfold X11_fitsUpTo_p91 at heq
    refine lv_iload_n hx hb dX11_fitsUpTo_91 rfl (lv_at hl 0 rfl) ?_
    obtain ⟨heq, heq2⟩ := ret_h heq
    subst heq
    subst heq2
    exact hret 92 H locs ls hP hD hS rfl dX11_fitsUpTo_92
  have b5 : ∀ (n : Nat), ∀ (st : MS) (v1 : Int32) (v2 : Int32) (v3 : Int32) (v4 : Int32) (H : Heap) (locs : List Loc) (ls : Array Slot), va_P D vwCl (mW a T st) H → va_D A (mW a T st) → va_S A s.heap H locs → lv_has ls 7 [(0, .ref (a 0)), (1, .int v1), (2, .int v2), (3, .int v3), (4, .int v4)] → X11_fitsUpTo_p5  n st v1 v2 v3 v4 = some (r, st') → W p l e rmX11_fitsUpTo s m args below meth c H locs 0 0 Q (F0 m 5 ls []) := by
    intro n
    induction n with
    | zero => intro st v1 v2 v3 v4 H locs ls hP hD hS hl heq; cases heq
    | succ n ih =>
      intro st v1 v2 v3 v4 H locs ls hP hD hS hl heq
      rw [X11_fitsUpTo_p5_s] at heq
      refine lv_iload_n hx hb dX11_fitsUpTo_5 rfl (lv_at hl 3 rfl) ?_
      refine lv_aload_n hx hb dX11_fitsUpTo_6 rfl (lv_at hl 0 rfl) ?_
      refine mg (k := 15) (v := .ref (a 12)) hx hb hts hin hown hK hP (by decide) f43 rfl dX11_fitsUpTo_7 rfl ?_
      refine lv_iload_n hx hb dX11_fitsUpTo_10 rfl (lv_at hl 1 rfl) ?_
      obtain ⟨n_4, heq⟩ := inr_h heq
      refine mal (k := 15) (q := 12) (n := 8) hx hb hK hP rfl n_4 dX11_fitsUpTo_11 ?_
      refine lv_icmp_ge (tgt := 91) hx hb dX11_fitsUpTo_12 (by decide) (fun c_5 => ?_) (fun c_5 => ?_)
      · have heq := it_t c_5 heq
        exact b91 st v3 H locs ls hP hD hS (lv_sub hl [3] rfl) heq
      have heq := it_f c_5 heq
      refine lv_iload hx hb dX11_fitsUpTo_15 (lv_at hl 4 rfl) ?_
      refine lv_if_eq (tgt := 91) hx hb dX11_fitsUpTo_17 (by decide) (fun c_6 => ?_) (fun c_6 => ?_)
      · have heq := it_t c_6 heq
        exact b91 st v3 H locs ls hP hD hS (lv_sub hl [3] rfl) heq
      have heq := it_f c_6 heq
      refine lv_aload_n hx hb dX11_fitsUpTo_20 rfl (lv_at hl 0 rfl) ?_
      refine mg (k := 16) (v := .ref (a 13)) hx hb hts hin hown hK hP (by decide) f46 rfl dX11_fitsUpTo_21 rfl ?_
      refine lv_bipush (v := (100 : Int32)) hx hb dX11_fitsUpTo_24 (by decide) ?_
      refine lv_iload_n hx hb dX11_fitsUpTo_26 rfl (lv_at hl 1 rfl) ?_
      refine lv_imul hx hb dX11_fitsUpTo_27 ?_
      refine lv_iload_n hx hb dX11_fitsUpTo_28 rfl (lv_at hl 3 rfl) ?_
      refine lv_iadd hx hb dX11_fitsUpTo_29 ?_
      obtain ⟨n_7, heq⟩ := inr_h heq
      refine mll (k := 16) (q := 13) (n := 800) hx hb hK hP rfl n_7 dX11_fitsUpTo_30 ?_
      refine lv_topl (fun x_8 ex_8 => ?_)
      have heq := nm_h ex_8 heq
      refine lv_lstore (lv' := [(5, .long x_8), (0, .ref (a 0)), (1, .int v1), (2, .int v2), (3, .int v3), (4, .int v4)]) hx hb dX11_fitsUpTo_31 hl (by decide) rfl (fun ls hl => ?_)
      refine lv_lload hx hb dX11_fitsUpTo_33 (lv_at hl 0 rfl) ?_
      refine lv_aload_n hx hb dX11_fitsUpTo_35 rfl (lv_at hl 1 rfl) ?_
      refine lv_iload_n hx hb dX11_fitsUpTo_36 rfl (lv_at hl 2 rfl) ?_
      obtain ⟨y_10, st_9, h_11, heq⟩ := bnd_h heq
      refine g_vl (own := RX11) (As := [.int v1]) (rest := [.long x_8]) hx hb hml hown hts (okX11_skipped l D a T h_11) (cwV 1 hts gX11_fitsUpTo_X11_skipped rfl rfl rfl hdX11_skipped ⟨Nat.le_of_ble_eq_true rfl, Nat.le_of_ble_eq_true rfl⟩) hK hA hP hD hS (ci := 11) (q0 := 0) rfl rfl rfl hl.1 rfl (Nat.le_of_ble_eq_true rfl) dX11_fitsUpTo_37 ⟨Nat.le_of_ble_eq_true rfl, Nat.le_of_ble_eq_true rfl⟩ (fun H locs hP hD hS => ?_)
      refine W.lcmp hx hb dX11_fitsUpTo_40 ?_
      refine lv_if_eq (tgt := 68) hx hb dX11_fitsUpTo_41 (by decide) (fun c_12 => ?_) (fun c_12 => ?_)
      · have heq := it_t c_12 heq
        exact b68 (fun st v1 v2 v3 v4 => X11_fitsUpTo_p5  n st v1 v2 v3 v4) ih st_9 v1 v2 v3 H locs ls hP hD hS (lv_sub hl [1, 2, 3, 4] rfl) heq
      have heq := it_f c_12 heq
      refine lv_lload hx hb dX11_fitsUpTo_44 (lv_at hl 0 rfl) ?_
      refine lv_aload_n hx hb dX11_fitsUpTo_46 rfl (lv_at hl 1 rfl) ?_
      refine lv_iload_n hx hb dX11_fitsUpTo_47 rfl (lv_at hl 3 rfl) ?_
      obtain ⟨y_14, st_13, h_15, heq⟩ := bnd_h heq
      refine g_vi (own := RX11) (As := [.int v2]) (rest := [.long x_8]) hx hb hml hown hts (okX11_struckBy l D a T h_15) (cwV 1 hts gX11_fitsUpTo_X11_struckBy rfl rfl rfl hdX11_struckBy ⟨Nat.le_of_ble_eq_true rfl, Nat.le_of_ble_eq_true rfl⟩) hK hA hP hD hS (ci := 11) (q0 := 0) rfl rfl rfl hl.1 rfl (Nat.le_of_ble_eq_true rfl) dX11_fitsUpTo_48 ⟨Nat.le_of_ble_eq_true rfl, Nat.le_of_ble_eq_true rfl⟩ (fun H locs hP hD hS => ?_)
      refine lv_iload_n hx hb dX11_fitsUpTo_51 rfl (lv_at hl 4 rfl) ?_
      obtain ⟨y_16, h_17, heq⟩ := bd1_h heq
      refine g_si (own := RX11) (D := D) (As := [.int y_14, .int v3]) (rest := [.long x_8]) hx hb hml hown hts (okX11_hasBit l D h_17) (cwS 2 hts gX11_fitsUpTo_X11_hasBit rfl rfl rfl hdX11_hasBit ⟨Nat.le_of_ble_eq_true rfl, Nat.le_of_ble_eq_true rfl⟩) hK hA hP hS rfl hl.1 rfl (Nat.le_of_ble_eq_true rfl) dX11_fitsUpTo_52 ⟨Nat.le_of_ble_eq_true rfl, Nat.le_of_ble_eq_true rfl⟩ (fun H locs hP hS => ?_)
      refine lv_if_eq (tgt := 62) hx hb dX11_fitsUpTo_55 (by decide) (fun c_18 => ?_) (fun c_18 => ?_)
      · have heq := it_t c_18 heq
        refine lv_iconst (v := (0 : Int32)) hx hb dX11_fitsUpTo_62 (by decide) ?_
        exact b63 (fun st v1 v2 v3 v4 => X11_fitsUpTo_p5  n st v1 v2 v3 v4) ih st_13 v1 v2 v3 x_8 (0 : Int32) H locs ls hP hD hS (lv_sub hl [1, 2, 3, 4] rfl) heq
      have heq := it_f c_18 heq
      refine lv_iconst (v := (1 : Int32)) hx hb dX11_fitsUpTo_58 (by decide) ?_
      refine lv_goto (tgt := 63) hx hb dX11_fitsUpTo_59 (by decide) ?_
      exact b63 (fun st v1 v2 v3 v4 => X11_fitsUpTo_p5  n st v1 v2 v3 v4) ih st_13 v1 v2 v3 x_8 (1 : Int32) H locs ls hP hD hS (lv_sub hl [1, 2, 3, 4] rfl) heq
  obtain ⟨H, hH⟩ : ∃ H, H = s.heap := ⟨_, rfl⟩
  obtain ⟨locs, hlocs⟩ : ∃ z : List Loc, z = [] := ⟨_, rfl⟩
  have hS : va_S A s.heap H locs := by rw [hH, hlocs]; exact hS
  have hP : va_P D vwCl (mW a T st) H := by rw [hH]; exact hP
  suffices h9 : W p l e rmX11_fitsUpTo s m args below meth c H locs 0 0 Q (F0 m 0 ls []) by rw [hH, hlocs] at h9; exact h9
  clear hH hlocs
  unfold X11_fitsUpTo at heq
  refine lv_iconst (v := (0 : Int32)) hx hb dX11_fitsUpTo_0 (by decide) ?_
  refine lv_istore_n (lv' := [(3, .int (0 : Int32)), (0, .ref (a 0)), (1, .int v1), (2, .int v2)]) hx hb dX11_fitsUpTo_1 rfl hl (by decide) rfl (fun ls hl => ?_)
  refine lv_iconst (v := (1 : Int32)) hx hb dX11_fitsUpTo_2 (by decide) ?_
  refine lv_istore (lv' := [(4, .int (1 : Int32)), (3, .int (0 : Int32)), (0, .ref (a 0)), (1, .int v1), (2, .int v2)]) hx hb dX11_fitsUpTo_3 hl (by decide) rfl (fun ls hl => ?_)
  exact b5 5000 st v1 v2 (0 : Int32) (1 : Int32) H locs ls hP hD hS (lv_sub hl [2, 3, 4, 1, 0] rfl) heq
set_option maxRecDepth 20000 in
theorem ggX11_wrongTale_X11_wrongRow : GoodIn wsX11_wrongTale wsX11_wrongRow := goodIn_r _ [7, 8, 9, 10, 11, 6, 12, 13, 14, 15, 16, 17, 18, 19, 20, 21, 22, 23, 24, 25, 26, 27, 28, 29, 30, 31, 32, 33, 34, 35, 36, 37, 38, 39, 40, 41, 42, 43, 44, 45, 46, 47, 48, 49] (by decide +kernel) (by decide +kernel)
set_option maxRecDepth 20000 in
theorem gX11_wrongTale_X11_wrongRow : GoodIn wsX11_wrongTale (wsV RX11 194 RX11 yX11_wrongRow wsX11_wrongRow) := goodIn_app (goodIn_of _ (by decide +kernel)) ggX11_wrongTale_X11_wrongRow
theorem dX11_wrongTale_0 : decode cX11_wrongTale 0 = .ok (.aload_n 0, 1) := by decide +kernel
theorem dX11_wrongTale_1 : decode cX11_wrongTale 1 = .ok (.iload_n 1, 1) := by decide +kernel
theorem dX11_wrongTale_2 : decode cX11_wrongTale 2 = .ok (.invokevirtual 194, 3) := by decide +kernel
theorem dX11_wrongTale_5 : decode cX11_wrongTale 5 = .ok (.istore_n 2, 1) := by decide +kernel
theorem dX11_wrongTale_6 : decode cX11_wrongTale 6 = .ok (.iload_n 2, 1) := by decide +kernel
theorem dX11_wrongTale_7 : decode cX11_wrongTale 7 = .ok (.ifCond .ne 21, 3) := by decide +kernel
theorem dX11_wrongTale_10 : decode cX11_wrongTale 10 = .ok (.aload_n 0, 1) := by decide +kernel
theorem dX11_wrongTale_11 : decode cX11_wrongTale 11 = .ok (.getfield 43, 3) := by decide +kernel
theorem dX11_wrongTale_14 : decode cX11_wrongTale 14 = .ok (.iload_n 1, 1) := by decide +kernel
theorem dX11_wrongTale_15 : decode cX11_wrongTale 15 = .ok (.iaload, 1) := by decide +kernel
theorem dX11_wrongTale_16 : decode cX11_wrongTale 16 = .ok (.aload_n 0, 1) := by decide +kernel
theorem dX11_wrongTale_17 : decode cX11_wrongTale 17 = .ok (.getfield 170, 3) := by decide +kernel
theorem dX11_wrongTale_20 : decode cX11_wrongTale 20 = .ok (.if_icmp .le 8, 3) := by decide +kernel
theorem dX11_wrongTale_23 : decode cX11_wrongTale 23 = .ok (.bipush (-13), 2) := by decide +kernel
theorem dX11_wrongTale_25 : decode cX11_wrongTale 25 = .ok (.goto 4, 3) := by decide +kernel
theorem dX11_wrongTale_28 : decode cX11_wrongTale 28 = .ok (.iload_n 2, 1) := by decide +kernel
theorem dX11_wrongTale_29 : decode cX11_wrongTale 29 = .ok (.ireturn, 1) := by decide +kernel
/-! wrongTale -/
def X11_wrongTale_p29 (st : MS) (t0 : Int32) : Option (Int32 × MS) :=
    some (t0, st)
def X11_wrongTale_p28 (st : MS) (v2 : Int32) : Option (Int32 × MS) :=
    X11_wrongTale_p29 st v2
def X11_wrongTale (st : MS) (v1 : Int32) : Option (Int32 × MS) :=
    bnd (X11_wrongRow st v1) fun y_2 st_1 =>
    if y_2 = 0 then
      (inr v1 8 <|
      if (gA st_1 15 v1.toNatClampNeg) ≤ (gF st_1 8) then
        (X11_wrongTale_p28 st_1 y_2)
      else
      X11_wrongTale_p29 st_1 (-13 : Int32))
    else
    X11_wrongTale_p28 st_1 y_2
abbrev rmX11_wrongTale : Room := { frames := 2, cells := 0, slots := 0, locals := 46 }
theorem hdX11_wrongTale : yX11_wrongTale.cls = RX11 ∧ yX11_wrongTale.cls ≠ "java/lang/invoke/MethodHandle" ∧ yX11_wrongTale.cls ≠ "java/lang/invoke/VarHandle" ∧ (parseMethodDescriptor yX11_wrongTale.desc).map (fun d => d.parameters.length) = some 1 := by decide +kernel
set_option maxRecDepth 100000 in
set_option maxHeartbeats 4000000 in
theorem okX11_wrongTale (l : Launch) (D : va_G) (a : Nat → Nat) (T : mT3) {st : MS} {v1 : Int32} {r : Int32} {st' : MS} (heq : X11_wrongTale st v1 = some (r, st')) : gCi l D (mT T) yX11_wrongTale wsX11_wrongTale rmX11_wrongTale [.ref (a 0), .int v1] (mW a T st) r (mW a T st') := by
  refine g_body_i (by decide) rfl (Nat.le_of_ble_eq_true rfl) (fun p e s m args below meth c A Q hx hb hml hown hts hK hA hret ls hP hD hS hl => ?_)
  have hl : lv_has ls 3 [(0, .ref (a 0)), (1, .int v1)] := hl
  have hin : ∀ w ∈ wsX110, w ∈ wsX11_wrongTale := fun w h => List.mem_cons_of_mem _ (List.mem_append_right _ h)
  have f43 : (Cond.fieldLink RX11 43 RX11 (TX11 15).2.1 (TX11 15).2.2.1).before args s = true := hts (.fieldLink RX11 43 "LaidDownTheLaneModel" "rowMany" "[I") (by decide +kernel)
  have f170 : (Cond.fieldLink RX11 170 RX11 (TX11 8).2.1 (TX11 8).2.2.1).before args s = true := hts (.fieldLink RX11 170 "LaidDownTheLaneModel" "houses" "I") (by decide +kernel)
  have b29 : ∀ (st : MS) (t0 : Int32) (H : Heap) (locs : List Loc) (ls : Array Slot), va_P D vwCl (mW a T st) H → va_D A (mW a T st) → va_S A s.heap H locs → lv_has ls 3 [] → X11_wrongTale_p29  st t0 = some (r, st') → W p l e rmX11_wrongTale s m args below meth c H locs 0 0 Q (F0 m 29 ls [.int t0]) := by
    intro st t0 H locs ls hP hD hS hl heq
    unfold X11_wrongTale_p29 at heq
    obtain ⟨heq, heq2⟩ := ret_h heq
    subst heq
    subst heq2
    exact hret 29 H locs ls hP hD hS rfl dX11_wrongTale_29
  have b28 : ∀ (st : MS) (v2 : Int32) (H : Heap) (locs : List Loc) (ls : Array Slot), va_P D vwCl (mW a T st) H → va_D A (mW a T st) → va_S A s.heap H locs → lv_has ls 3 [(2, .int v2)] → X11_wrongTale_p28  st v2 = some (r, st') → W p l e rmX11_wrongTale s m args below meth c H locs 0 0 Q (F0 m 28 ls []) := by
    intro st v2 H locs ls hP hD hS hl heq
    unfold X11_wrongTale_p28 at heq
    refine lv_iload_n hx hb dX11_wrongTale_28 rfl (lv_at hl 0 rfl) ?_
    exact b29 st v2 H locs ls hP hD hS (lv_sub hl [] rfl) heq
  obtain ⟨H, hH⟩ : ∃ H, H = s.heap := ⟨_, rfl⟩
  obtain ⟨locs, hlocs⟩ : ∃ z : List Loc, z = [] := ⟨_, rfl⟩
  have hS : va_S A s.heap H locs := by rw [hH, hlocs]; exact hS
  have hP : va_P D vwCl (mW a T st) H := by rw [hH]; exact hP
  suffices h9 : W p l e rmX11_wrongTale s m args below meth c H locs 0 0 Q (F0 m 0 ls []) by rw [hH, hlocs] at h9; exact h9
  clear hH hlocs
  unfold X11_wrongTale at heq
  refine lv_aload_n hx hb dX11_wrongTale_0 rfl (lv_at hl 0 rfl) ?_
  refine lv_iload_n hx hb dX11_wrongTale_1 rfl (lv_at hl 1 rfl) ?_
  obtain ⟨y_2, st_1, h_3, heq⟩ := bnd_h heq
  refine g_vi (own := RX11) (As := [.int v1]) (rest := []) hx hb hml hown hts (okX11_wrongRow l D a T h_3) (cwV 1 hts gX11_wrongTale_X11_wrongRow rfl rfl rfl hdX11_wrongRow ⟨Nat.le_of_ble_eq_true rfl, Nat.le_of_ble_eq_true rfl⟩) hK hA hP hD hS (ci := 11) (q0 := 0) rfl rfl rfl hl.1 rfl (Nat.le_of_ble_eq_true rfl) dX11_wrongTale_2 ⟨Nat.le_of_ble_eq_true rfl, Nat.le_of_ble_eq_true rfl⟩ (fun H locs hP hD hS => ?_)
  refine lv_istore_n (lv' := [(2, .int y_2), (0, .ref (a 0)), (1, .int v1)]) hx hb dX11_wrongTale_5 rfl hl (by decide) rfl (fun ls hl => ?_)
  refine lv_iload_n hx hb dX11_wrongTale_6 rfl (lv_at hl 0 rfl) ?_
  refine lv_if_ne (tgt := 28) hx hb dX11_wrongTale_7 (by decide) (fun c_4 => ?_) (fun c_4 => ?_)
  · have heq := it_f c_4 heq
    exact b28 st_1 y_2 H locs ls hP hD hS (lv_sub hl [0] rfl) heq
  have heq := it_t c_4 heq
  refine lv_aload_n hx hb dX11_wrongTale_10 rfl (lv_at hl 1 rfl) ?_
  refine mg (k := 15) (v := .ref (a 12)) hx hb hts hin hown hK hP (by decide) f43 rfl dX11_wrongTale_11 rfl ?_
  refine lv_iload_n hx hb dX11_wrongTale_14 rfl (lv_at hl 2 rfl) ?_
  obtain ⟨n_5, heq⟩ := inr_h heq
  refine mal (k := 15) (q := 12) (n := 8) hx hb hK hP rfl n_5 dX11_wrongTale_15 ?_
  refine lv_aload_n hx hb dX11_wrongTale_16 rfl (lv_at hl 1 rfl) ?_
  refine mg (k := 8) (v := .int (gF st_1 8)) hx hb hts hin hown hK hP (by decide) f170 rfl dX11_wrongTale_17 rfl ?_
  refine lv_icmp_le (tgt := 28) hx hb dX11_wrongTale_20 (by decide) (fun c_6 => ?_) (fun c_6 => ?_)
  · have heq := it_t c_6 heq
    exact b28 st_1 y_2 H locs ls hP hD hS (lv_sub hl [0] rfl) heq
  have heq := it_f c_6 heq
  refine lv_bipush (v := (-13 : Int32)) hx hb dX11_wrongTale_23 (by decide) ?_
  refine lv_goto (tgt := 29) hx hb dX11_wrongTale_25 (by decide) ?_
  exact b29 st_1 (-13 : Int32) H locs ls hP hD hS (lv_sub hl [] rfl) heq
set_option maxRecDepth 20000 in
theorem ggX11_fell_X11_wrongTale : GoodIn wsX11_fell wsX11_wrongTale := goodIn_r _ [7, 2, 8, 9, 10, 11, 6, 12, 13, 14, 15, 16, 17, 65, 66, 67, 68, 69, 70, 71, 72, 73, 74, 75, 76, 77, 78, 79, 80, 81, 82, 83, 84, 85, 86, 87, 88, 89, 90, 91, 92, 93, 94, 95, 96, 97, 98, 99, 100, 101] (by decide +kernel) (by decide +kernel)
set_option maxRecDepth 20000 in
theorem gX11_fell_X11_wrongTale : GoodIn wsX11_fell (wsV RX11 314 RX11 yX11_wrongTale wsX11_wrongTale) := goodIn_app (goodIn_of _ (by decide +kernel)) ggX11_fell_X11_wrongTale
set_option maxRecDepth 20000 in
theorem ggX11_fell_X11_fitsUpTo : GoodIn wsX11_fell wsX11_fitsUpTo := goodIn_r _ [21, 2, 22, 23, 24, 25, 6, 26, 27, 28, 29, 30, 31, 32, 33, 34, 35, 36, 37, 38, 8, 39, 40, 41, 42, 43, 44, 45, 46, 47, 48, 49, 50, 51, 52, 53, 54, 55, 56, 57, 58, 59, 60, 61, 62, 63, 64, 65, 66, 67, 68, 69, 70, 71, 72, 73, 74, 75, 76, 77, 78, 79, 80, 81, 82, 83, 84, 85, 86, 87, 88, 89, 90, 91, 92, 93, 94, 95, 96, 97, 98, 99, 100, 101] (by decide +kernel) (by decide +kernel)
set_option maxRecDepth 20000 in
theorem gX11_fell_X11_fitsUpTo : GoodIn wsX11_fell (wsV RX11 317 RX11 yX11_fitsUpTo wsX11_fitsUpTo) := goodIn_app (goodIn_of _ (by decide +kernel)) ggX11_fell_X11_fitsUpTo
theorem dX11_fell_0 : decode cX11_fell 0 = .ok (.aload_n 0, 1) := by decide +kernel
theorem dX11_fell_1 : decode cX11_fell 1 = .ok (.iconst 0, 1) := by decide +kernel
theorem dX11_fell_2 : decode cX11_fell 2 = .ok (.putfield 75, 3) := by decide +kernel
theorem dX11_fell_5 : decode cX11_fell 5 = .ok (.aload_n 0, 1) := by decide +kernel
theorem dX11_fell_6 : decode cX11_fell 6 = .ok (.iload_n 1, 1) := by decide +kernel
theorem dX11_fell_7 : decode cX11_fell 7 = .ok (.invokevirtual 314, 3) := by decide +kernel
theorem dX11_fell_10 : decode cX11_fell 10 = .ok (.istore_n 2, 1) := by decide +kernel
theorem dX11_fell_11 : decode cX11_fell 11 = .ok (.iload_n 2, 1) := by decide +kernel
theorem dX11_fell_12 : decode cX11_fell 12 = .ok (.ifCond .ge 5, 3) := by decide +kernel
theorem dX11_fell_15 : decode cX11_fell 15 = .ok (.iload_n 2, 1) := by decide +kernel
theorem dX11_fell_16 : decode cX11_fell 16 = .ok (.ireturn, 1) := by decide +kernel
theorem dX11_fell_17 : decode cX11_fell 17 = .ok (.iconst 0, 1) := by decide +kernel
theorem dX11_fell_18 : decode cX11_fell 18 = .ok (.istore_n 3, 1) := by decide +kernel
theorem dX11_fell_19 : decode cX11_fell 19 = .ok (.iconst 0, 1) := by decide +kernel
theorem dX11_fell_20 : decode cX11_fell 20 = .ok (.istore 4, 2) := by decide +kernel
theorem dX11_fell_22 : decode cX11_fell 22 = .ok (.iload 4, 2) := by decide +kernel
theorem dX11_fell_24 : decode cX11_fell 24 = .ok (.bipush 12, 2) := by decide +kernel
theorem dX11_fell_26 : decode cX11_fell 26 = .ok (.if_icmp .ge 36, 3) := by decide +kernel
theorem dX11_fell_29 : decode cX11_fell 29 = .ok (.iload_n 3, 1) := by decide +kernel
theorem dX11_fell_30 : decode cX11_fell 30 = .ok (.aload_n 0, 1) := by decide +kernel
theorem dX11_fell_31 : decode cX11_fell 31 = .ok (.iload_n 1, 1) := by decide +kernel
theorem dX11_fell_32 : decode cX11_fell 32 = .ok (.iload 4, 2) := by decide +kernel
theorem dX11_fell_34 : decode cX11_fell 34 = .ok (.invokevirtual 317, 3) := by decide +kernel
theorem dX11_fell_37 : decode cX11_fell 37 = .ok (.aload_n 0, 1) := by decide +kernel
theorem dX11_fell_38 : decode cX11_fell 38 = .ok (.getfield 43, 3) := by decide +kernel
theorem dX11_fell_41 : decode cX11_fell 41 = .ok (.iload_n 1, 1) := by decide +kernel
theorem dX11_fell_42 : decode cX11_fell 42 = .ok (.iaload, 1) := by decide +kernel
theorem dX11_fell_43 : decode cX11_fell 43 = .ok (.if_icmp .ne 10, 3) := by decide +kernel
theorem dX11_fell_46 : decode cX11_fell 46 = .ok (.iconst 1, 1) := by decide +kernel
theorem dX11_fell_47 : decode cX11_fell 47 = .ok (.iload 4, 2) := by decide +kernel
theorem dX11_fell_49 : decode cX11_fell 49 = .ok (.ishl, 1) := by decide +kernel
theorem dX11_fell_50 : decode cX11_fell 50 = .ok (.goto 4, 3) := by decide +kernel
theorem dX11_fell_53 : decode cX11_fell 53 = .ok (.iconst 0, 1) := by decide +kernel
theorem dX11_fell_54 : decode cX11_fell 54 = .ok (.ior, 1) := by decide +kernel
theorem dX11_fell_55 : decode cX11_fell 55 = .ok (.istore_n 3, 1) := by decide +kernel
theorem dX11_fell_56 : decode cX11_fell 56 = .ok (.iinc 4 1, 3) := by decide +kernel
theorem dX11_fell_59 : decode cX11_fell 59 = .ok (.goto (-37), 3) := by decide +kernel
theorem dX11_fell_62 : decode cX11_fell 62 = .ok (.iload_n 3, 1) := by decide +kernel
theorem dX11_fell_63 : decode cX11_fell 63 = .ok (.ireturn, 1) := by decide +kernel
/-! fell -/
def X11_fell_p54 (k22 : MS → Int32 → Int32 → Int32 → Option (Int32 × MS)) (st : MS) (v1 : Int32) (v4 : Int32) (t0 : Int32) (t1 : Int32) : Option (Int32 × MS) :=
    nm ((t0 ||| t1)) fun x_1 =>
    nm (v4 + (1 : Int32)) fun x_2 =>
    k22 st v1 x_1 x_2
def X11_fell_p62 (st : MS) (v3 : Int32) : Option (Int32 × MS) :=
    some (v3, st)
def X11_fell_p22 : Nat → MS → Int32 → Int32 → Int32 → Option (Int32 × MS)
  | 0, _, _, _, _ => none
  | n + 1, st, v1, v3, v4 =>
    if (12 : Int32) ≤ v4 then
      (X11_fell_p62 st v3)
    else
    bnd (X11_fitsUpTo st v1 v4) fun y_5 st_4 =>
    inr v1 8 <|
    if y_5 = (gA st_4 15 v1.toNatClampNeg) then
      (X11_fell_p54 (fun st v1 v3 v4 => X11_fell_p22  n st v1 v3 v4) st_4 v1 v4 v3 ((1 : Int32) <<< (v4 &&& 31)))
    else
    X11_fell_p54 (fun st v1 v3 v4 => X11_fell_p22  n st v1 v3 v4) st_4 v1 v4 v3 (0 : Int32)
theorem X11_fell_p22_s (n : Nat) (st : MS) (v1 : Int32) (v3 : Int32) (v4 : Int32) : X11_fell_p22  (n + 1) st v1 v3 v4 =
    (if (12 : Int32) ≤ v4 then
      (X11_fell_p62 st v3)
    else
    bnd (X11_fitsUpTo st v1 v4) fun y_5 st_4 =>
    inr v1 8 <|
    if y_5 = (gA st_4 15 v1.toNatClampNeg) then
      (X11_fell_p54 (fun st v1 v3 v4 => X11_fell_p22  n st v1 v3 v4) st_4 v1 v4 v3 ((1 : Int32) <<< (v4 &&& 31)))
    else
    X11_fell_p54 (fun st v1 v3 v4 => X11_fell_p22  n st v1 v3 v4) st_4 v1 v4 v3 (0 : Int32)) := rfl
def X11_fell (st : MS) (v1 : Int32) : Option (Int32 × MS) :=
    nm (sF st 17 (0 : Int32)) fun st_9 =>
    bnd (X11_wrongTale st_9 v1) fun y_11 st_10 =>
    if 0 ≤ y_11 then
      (X11_fell_p22 13 st_10 v1 (0 : Int32) (0 : Int32))
    else
    some (y_11, st_10)
abbrev rmX11_fell : Room := { frames := 4, cells := 0, slots := 0, locals := 93 }
theorem hdX11_fell : yX11_fell.cls = RX11 ∧ yX11_fell.cls ≠ "java/lang/invoke/MethodHandle" ∧ yX11_fell.cls ≠ "java/lang/invoke/VarHandle" ∧ (parseMethodDescriptor yX11_fell.desc).map (fun d => d.parameters.length) = some 1 := by decide +kernel
set_option maxRecDepth 100000 in
set_option maxHeartbeats 4000000 in
theorem okX11_fell (l : Launch) (D : va_G) (a : Nat → Nat) (T : mT3) {st : MS} {v1 : Int32} {r : Int32} {st' : MS} (heq : X11_fell st v1 = some (r, st')) : gCi l D (mT T) yX11_fell wsX11_fell rmX11_fell [.ref (a 0), .int v1] (mW a T st) r (mW a T st') := by
  refine g_body_i (by decide) rfl (Nat.le_of_ble_eq_true rfl) (fun p e s m args below meth c A Q hx hb hml hown hts hK hA hret ls hP hD hS hl => ?_)
  have hl : lv_has ls 5 [(0, .ref (a 0)), (1, .int v1)] := hl
  have hin : ∀ w ∈ wsX110, w ∈ wsX11_fell := fun w h => List.mem_cons_of_mem _ (List.mem_append_right _ h)
  have f43 : (Cond.fieldLink RX11 43 RX11 (TX11 15).2.1 (TX11 15).2.2.1).before args s = true := hts (.fieldLink RX11 43 "LaidDownTheLaneModel" "rowMany" "[I") (by decide +kernel)
  have f75 : (Cond.fieldLink RX11 75 RX11 (TX11 17).2.1 (TX11 17).2.2.1).before args s = true := hts (.fieldLink RX11 75 "LaidDownTheLaneModel" "thrown" "I") (by decide +kernel)
  have b54 : ∀ (k22 : MS → Int32 → Int32 → Int32 → Option (Int32 × MS)) (hk22 : ∀ (st : MS) (v1 : Int32) (v3 : Int32) (v4 : Int32) (H : Heap) (locs : List Loc) (ls : Array Slot), va_P D vwCl (mW a T st) H → va_D A (mW a T st) → va_S A s.heap H locs → lv_has ls 5 [(0, .ref (a 0)), (1, .int v1), (3, .int v3), (4, .int v4)] → k22 st v1 v3 v4 = some (r, st') → W p l e rmX11_fell s m args below meth c H locs 0 0 Q (F0 m 22 ls [])), ∀ (st : MS) (v1 : Int32) (v4 : Int32) (t0 : Int32) (t1 : Int32) (H : Heap) (locs : List Loc) (ls : Array Slot), va_P D vwCl (mW a T st) H → va_D A (mW a T st) → va_S A s.heap H locs → lv_has ls 5 [(0, .ref (a 0)), (1, .int v1), (4, .int v4)] → X11_fell_p54 k22 st v1 v4 t0 t1 = some (r, st') → W p l e rmX11_fell s m args below meth c H locs 0 0 Q (F0 m 54 ls [.int t1, .int t0]) := by
    intro k22 hk22 st v1 v4 t0 t1 H locs ls hP hD hS hl heq
    unfold X11_fell_p54 at heq
    refine lv_ior hx hb dX11_fell_54 ?_
    refine lv_topi (fun x_1 ex_1 => ?_)
    have heq := nm_h ex_1 heq
    refine lv_istore_n (lv' := [(3, .int x_1), (0, .ref (a 0)), (1, .int v1), (4, .int v4)]) hx hb dX11_fell_55 rfl hl (by decide) rfl (fun ls hl => ?_)
    obtain ⟨x_2, ex_2⟩ : ∃ y : Int32, y = v4 + (1 : Int32) := ⟨_, rfl⟩
    have heq := nm_h ex_2 heq
    refine lv_iinc (v := x_2) (lv' := [(4, .int x_2), (3, .int x_1), (0, .ref (a 0)), (1, .int v1)]) hx hb dX11_fell_56 hl (k := 3) rfl (by rw [ex_2]; rfl) (by decide) rfl (fun ls hl => ?_)
    refine lv_goto (tgt := 22) hx hb dX11_fell_59 (by decide) ?_
    exact hk22 st v1 x_1 x_2 H locs ls hP hD hS (lv_sub hl [2, 3, 1, 0] rfl) heq
  have b62 : ∀ (st : MS) (v3 : Int32) (H : Heap) (locs : List Loc) (ls : Array Slot), va_P D vwCl (mW a T st) H → va_D A (mW a T st) → va_S A s.heap H locs → lv_has ls 5 [(3, .int v3)] → X11_fell_p62  st v3 = some (r, st') → W p l e rmX11_fell s m args below meth c H locs 0 0 Q (F0 m 62 ls []) := by
    intro st v3 H locs ls hP hD hS hl heq
    unfold X11_fell_p62 at heq
    refine lv_iload_n hx hb dX11_fell_62 rfl (lv_at hl 0 rfl) ?_
    obtain ⟨heq, heq2⟩ := ret_h heq
    subst heq
    subst heq2
    exact hret 63 H locs ls hP hD hS rfl dX11_fell_63
  have b22 : ∀ (n : Nat), ∀ (st : MS) (v1 : Int32) (v3 : Int32) (v4 : Int32) (H : Heap) (locs : List Loc) (ls : Array Slot), va_P D vwCl (mW a T st) H → va_D A (mW a T st) → va_S A s.heap H locs → lv_has ls 5 [(0, .ref (a 0)), (1, .int v1), (3, .int v3), (4, .int v4)] → X11_fell_p22  n st v1 v3 v4 = some (r, st') → W p l e rmX11_fell s m args below meth c H locs 0 0 Q (F0 m 22 ls []) := by
    intro n
    induction n with
    | zero => intro st v1 v3 v4 H locs ls hP hD hS hl heq; cases heq
    | succ n ih =>
      intro st v1 v3 v4 H locs ls hP hD hS hl heq
      rw [X11_fell_p22_s] at heq
      refine lv_iload hx hb dX11_fell_22 (lv_at hl 3 rfl) ?_
      refine lv_bipush (v := (12 : Int32)) hx hb dX11_fell_24 (by decide) ?_
      refine lv_icmp_ge (tgt := 62) hx hb dX11_fell_26 (by decide) (fun c_3 => ?_) (fun c_3 => ?_)
      · have heq := it_t c_3 heq
        exact b62 st v3 H locs ls hP hD hS (lv_sub hl [2] rfl) heq
      have heq := it_f c_3 heq
      refine lv_iload_n hx hb dX11_fell_29 rfl (lv_at hl 2 rfl) ?_
      refine lv_aload_n hx hb dX11_fell_30 rfl (lv_at hl 0 rfl) ?_
      refine lv_iload_n hx hb dX11_fell_31 rfl (lv_at hl 1 rfl) ?_
      refine lv_iload hx hb dX11_fell_32 (lv_at hl 3 rfl) ?_
      obtain ⟨y_5, st_4, h_6, heq⟩ := bnd_h heq
      refine g_vi (own := RX11) (As := [.int v1, .int v4]) (rest := [.int v3]) hx hb hml hown hts (okX11_fitsUpTo l D a T h_6) (cwV 2 hts gX11_fell_X11_fitsUpTo rfl rfl rfl hdX11_fitsUpTo ⟨Nat.le_of_ble_eq_true rfl, Nat.le_of_ble_eq_true rfl⟩) hK hA hP hD hS (ci := 11) (q0 := 0) rfl rfl rfl hl.1 rfl (Nat.le_of_ble_eq_true rfl) dX11_fell_34 ⟨Nat.le_of_ble_eq_true rfl, Nat.le_of_ble_eq_true rfl⟩ (fun H locs hP hD hS => ?_)
      refine lv_aload_n hx hb dX11_fell_37 rfl (lv_at hl 0 rfl) ?_
      refine mg (k := 15) (v := .ref (a 12)) hx hb hts hin hown hK hP (by decide) f43 rfl dX11_fell_38 rfl ?_
      refine lv_iload_n hx hb dX11_fell_41 rfl (lv_at hl 1 rfl) ?_
      obtain ⟨n_7, heq⟩ := inr_h heq
      refine mal (k := 15) (q := 12) (n := 8) hx hb hK hP rfl n_7 dX11_fell_42 ?_
      refine lv_icmp_ne (tgt := 53) hx hb dX11_fell_43 (by decide) (fun c_8 => ?_) (fun c_8 => ?_)
      · have heq := it_f c_8 heq
        refine lv_iconst (v := (0 : Int32)) hx hb dX11_fell_53 (by decide) ?_
        exact b54 (fun st v1 v3 v4 => X11_fell_p22  n st v1 v3 v4) ih st_4 v1 v4 v3 (0 : Int32) H locs ls hP hD hS (lv_sub hl [0, 1, 3] rfl) heq
      have heq := it_t c_8 heq
      refine lv_iconst (v := (1 : Int32)) hx hb dX11_fell_46 (by decide) ?_
      refine lv_iload hx hb dX11_fell_47 (lv_at hl 3 rfl) ?_
      refine lv_ishl hx hb dX11_fell_49 ?_
      refine lv_goto (tgt := 54) hx hb dX11_fell_50 (by decide) ?_
      exact b54 (fun st v1 v3 v4 => X11_fell_p22  n st v1 v3 v4) ih st_4 v1 v4 v3 ((1 : Int32) <<< (v4 &&& 31)) H locs ls hP hD hS (lv_sub hl [0, 1, 3] rfl) heq
  obtain ⟨H, hH⟩ : ∃ H, H = s.heap := ⟨_, rfl⟩
  obtain ⟨locs, hlocs⟩ : ∃ z : List Loc, z = [] := ⟨_, rfl⟩
  have hS : va_S A s.heap H locs := by rw [hH, hlocs]; exact hS
  have hP : va_P D vwCl (mW a T st) H := by rw [hH]; exact hP
  suffices h9 : W p l e rmX11_fell s m args below meth c H locs 0 0 Q (F0 m 0 ls []) by rw [hH, hlocs] at h9; exact h9
  clear hH hlocs
  unfold X11_fell at heq
  refine lv_aload_n hx hb dX11_fell_0 rfl (lv_at hl 0 rfl) ?_
  refine lv_iconst (v := (0 : Int32)) hx hb dX11_fell_1 (by decide) ?_
  refine mp (k := 17) hx hb hts hin hown hK hP hD hS (by decide) f75 dX11_fell_2 rfl rfl rfl rfl (mset_17 ..) (fun H locs hP hD hS => ?_)
  obtain ⟨st_9, est_9⟩ : ∃ z, z = sF st 17 (0 : Int32) := ⟨_, rfl⟩
  rw [← est_9] at hP hD
  have heq := nm_h est_9 heq
  refine lv_aload_n hx hb dX11_fell_5 rfl (lv_at hl 0 rfl) ?_
  refine lv_iload_n hx hb dX11_fell_6 rfl (lv_at hl 1 rfl) ?_
  obtain ⟨y_11, st_10, h_12, heq⟩ := bnd_h heq
  refine g_vi (own := RX11) (As := [.int v1]) (rest := []) hx hb hml hown hts (okX11_wrongTale l D a T h_12) (cwV 1 hts gX11_fell_X11_wrongTale rfl rfl rfl hdX11_wrongTale ⟨Nat.le_of_ble_eq_true rfl, Nat.le_of_ble_eq_true rfl⟩) hK hA hP hD hS (ci := 11) (q0 := 0) rfl rfl rfl hl.1 rfl (Nat.le_of_ble_eq_true rfl) dX11_fell_7 ⟨Nat.le_of_ble_eq_true rfl, Nat.le_of_ble_eq_true rfl⟩ (fun H locs hP hD hS => ?_)
  refine lv_istore_n (lv' := [(2, .int y_11), (0, .ref (a 0)), (1, .int v1)]) hx hb dX11_fell_10 rfl hl (by decide) rfl (fun ls hl => ?_)
  refine lv_iload_n hx hb dX11_fell_11 rfl (lv_at hl 0 rfl) ?_
  refine lv_if_ge (tgt := 17) hx hb dX11_fell_12 (by decide) (fun c_13 => ?_) (fun c_13 => ?_)
  · have heq := it_t c_13 heq
    refine lv_iconst (v := (0 : Int32)) hx hb dX11_fell_17 (by decide) ?_
    refine lv_istore_n (lv' := [(3, .int (0 : Int32)), (2, .int y_11), (0, .ref (a 0)), (1, .int v1)]) hx hb dX11_fell_18 rfl hl (by decide) rfl (fun ls hl => ?_)
    refine lv_iconst (v := (0 : Int32)) hx hb dX11_fell_19 (by decide) ?_
    refine lv_istore (lv' := [(4, .int (0 : Int32)), (3, .int (0 : Int32)), (2, .int y_11), (0, .ref (a 0)), (1, .int v1)]) hx hb dX11_fell_20 hl (by decide) rfl (fun ls hl => ?_)
    exact b22 13 st_10 v1 (0 : Int32) (0 : Int32) H locs ls hP hD hS (lv_sub hl [3, 4, 1, 0] rfl) heq
  have heq := it_f c_13 heq
  refine lv_iload_n hx hb dX11_fell_15 rfl (lv_at hl 0 rfl) ?_
  obtain ⟨heq, heq2⟩ := ret_h heq
  subst heq
  subst heq2
  exact hret 16 H locs ls hP hD hS rfl dX11_fell_16
set_option maxRecDepth 20000 in
theorem ggX11_forged_X11_wrongTale : GoodIn wsX11_forged wsX11_wrongTale := goodIn_r _ [7, 2, 8, 9, 10, 11, 6, 12, 13, 14, 15, 16, 17, 68, 69, 70, 71, 72, 73, 74, 75, 76, 77, 78, 79, 80, 81, 82, 83, 84, 85, 86, 87, 88, 89, 90, 91, 92, 93, 94, 95, 96, 97, 98, 99, 100, 101, 102, 103, 104] (by decide +kernel) (by decide +kernel)
set_option maxRecDepth 20000 in
theorem gX11_forged_X11_wrongTale : GoodIn wsX11_forged (wsV RX11 314 RX11 yX11_wrongTale wsX11_wrongTale) := goodIn_app (goodIn_of _ (by decide +kernel)) ggX11_forged_X11_wrongTale
set_option maxRecDepth 20000 in
theorem ggX11_forged_X11_fitsUpTo : GoodIn wsX11_forged wsX11_fitsUpTo := goodIn_r _ [21, 2, 22, 23, 24, 25, 6, 26, 27, 28, 29, 30, 31, 32, 33, 34, 35, 36, 37, 38, 8, 39, 40, 41, 42, 43, 44, 45, 46, 47, 48, 49, 50, 51, 52, 53, 54, 55, 56, 57, 58, 59, 60, 61, 62, 63, 64, 68, 69, 70, 71, 72, 73, 74, 75, 76, 77, 78, 79, 80, 81, 82, 83, 84, 85, 86, 87, 88, 89, 90, 91, 92, 93, 94, 95, 96, 97, 98, 99, 100, 101, 102, 103, 104] (by decide +kernel) (by decide +kernel)
set_option maxRecDepth 20000 in
theorem gX11_forged_X11_fitsUpTo : GoodIn wsX11_forged (wsV RX11 317 RX11 yX11_fitsUpTo wsX11_fitsUpTo) := goodIn_app (goodIn_of _ (by decide +kernel)) ggX11_forged_X11_fitsUpTo
set_option maxRecDepth 20000 in
theorem ggX11_forged_X11_greater : GoodIn wsX11_forged wsX11_greater := goodIn_r _ [67] (by decide +kernel) (by decide +kernel)
set_option maxRecDepth 20000 in
theorem gX11_forged_X11_greater : GoodIn wsX11_forged (va_wsS RX11 252 yX11_greater wsX11_greater) := goodIn_app (goodIn_of _ (by decide +kernel)) ggX11_forged_X11_greater
theorem dX11_forged_0 : decode cX11_forged 0 = .ok (.aload_n 0, 1) := by decide +kernel
theorem dX11_forged_1 : decode cX11_forged 1 = .ok (.iconst 0, 1) := by decide +kernel
theorem dX11_forged_2 : decode cX11_forged 2 = .ok (.putfield 75, 3) := by decide +kernel
theorem dX11_forged_5 : decode cX11_forged 5 = .ok (.aload_n 0, 1) := by decide +kernel
theorem dX11_forged_6 : decode cX11_forged 6 = .ok (.iload_n 1, 1) := by decide +kernel
theorem dX11_forged_7 : decode cX11_forged 7 = .ok (.invokevirtual 314, 3) := by decide +kernel
theorem dX11_forged_10 : decode cX11_forged 10 = .ok (.istore_n 2, 1) := by decide +kernel
theorem dX11_forged_11 : decode cX11_forged 11 = .ok (.iload_n 2, 1) := by decide +kernel
theorem dX11_forged_12 : decode cX11_forged 12 = .ok (.ifCond .ge 5, 3) := by decide +kernel
theorem dX11_forged_15 : decode cX11_forged 15 = .ok (.iload_n 2, 1) := by decide +kernel
theorem dX11_forged_16 : decode cX11_forged 16 = .ok (.ireturn, 1) := by decide +kernel
theorem dX11_forged_17 : decode cX11_forged 17 = .ok (.iconst 0, 1) := by decide +kernel
theorem dX11_forged_18 : decode cX11_forged 18 = .ok (.istore_n 3, 1) := by decide +kernel
theorem dX11_forged_19 : decode cX11_forged 19 = .ok (.iconst 0, 1) := by decide +kernel
theorem dX11_forged_20 : decode cX11_forged 20 = .ok (.istore 4, 2) := by decide +kernel
theorem dX11_forged_22 : decode cX11_forged 22 = .ok (.iload 4, 2) := by decide +kernel
theorem dX11_forged_24 : decode cX11_forged 24 = .ok (.bipush 12, 2) := by decide +kernel
theorem dX11_forged_26 : decode cX11_forged 26 = .ok (.if_icmp .ge 21, 3) := by decide +kernel
theorem dX11_forged_29 : decode cX11_forged 29 = .ok (.iload_n 3, 1) := by decide +kernel
theorem dX11_forged_30 : decode cX11_forged 30 = .ok (.aload_n 0, 1) := by decide +kernel
theorem dX11_forged_31 : decode cX11_forged 31 = .ok (.iload_n 1, 1) := by decide +kernel
theorem dX11_forged_32 : decode cX11_forged 32 = .ok (.iload 4, 2) := by decide +kernel
theorem dX11_forged_34 : decode cX11_forged 34 = .ok (.invokevirtual 317, 3) := by decide +kernel
theorem dX11_forged_37 : decode cX11_forged 37 = .ok (.invokestatic 252, 3) := by decide +kernel
theorem dX11_forged_40 : decode cX11_forged 40 = .ok (.istore_n 3, 1) := by decide +kernel
theorem dX11_forged_41 : decode cX11_forged 41 = .ok (.iinc 4 1, 3) := by decide +kernel
theorem dX11_forged_44 : decode cX11_forged 44 = .ok (.goto (-22), 3) := by decide +kernel
theorem dX11_forged_47 : decode cX11_forged 47 = .ok (.iload_n 3, 1) := by decide +kernel
theorem dX11_forged_48 : decode cX11_forged 48 = .ok (.aload_n 0, 1) := by decide +kernel
theorem dX11_forged_49 : decode cX11_forged 49 = .ok (.getfield 43, 3) := by decide +kernel
theorem dX11_forged_52 : decode cX11_forged 52 = .ok (.iload_n 1, 1) := by decide +kernel
theorem dX11_forged_53 : decode cX11_forged 53 = .ok (.iaload, 1) := by decide +kernel
theorem dX11_forged_54 : decode cX11_forged 54 = .ok (.if_icmp .ne 8, 3) := by decide +kernel
theorem dX11_forged_57 : decode cX11_forged 57 = .ok (.bipush (-4), 2) := by decide +kernel
theorem dX11_forged_59 : decode cX11_forged 59 = .ok (.goto 4, 3) := by decide +kernel
theorem dX11_forged_62 : decode cX11_forged 62 = .ok (.iload_n 3, 1) := by decide +kernel
theorem dX11_forged_63 : decode cX11_forged 63 = .ok (.ireturn, 1) := by decide +kernel
/-! forged -/
def X11_forged_p63 (st : MS) (t0 : Int32) : Option (Int32 × MS) :=
    some (t0, st)
def X11_forged_p47 (st : MS) (v1 : Int32) (v3 : Int32) : Option (Int32 × MS) :=
    inr v1 8 <|
    if v3 = (gA st 15 v1.toNatClampNeg) then
      (X11_forged_p63 st (-4 : Int32))
    else
    X11_forged_p63 st v3
def X11_forged_p22 : Nat → MS → Int32 → Int32 → Int32 → Option (Int32 × MS)
  | 0, _, _, _, _ => none
  | n + 1, st, v1, v3, v4 =>
    if (12 : Int32) ≤ v4 then
      (X11_forged_p47 st v1 v3)
    else
    bnd (X11_fitsUpTo st v1 v4) fun y_5 st_4 =>
    bd1 (X11_greater v3 y_5) fun y_7 =>
    nm (v4 + (1 : Int32)) fun x_9 =>
    X11_forged_p22  n st_4 v1 y_7 x_9
theorem X11_forged_p22_s (n : Nat) (st : MS) (v1 : Int32) (v3 : Int32) (v4 : Int32) : X11_forged_p22  (n + 1) st v1 v3 v4 =
    (if (12 : Int32) ≤ v4 then
      (X11_forged_p47 st v1 v3)
    else
    bnd (X11_fitsUpTo st v1 v4) fun y_5 st_4 =>
    bd1 (X11_greater v3 y_5) fun y_7 =>
    nm (v4 + (1 : Int32)) fun x_9 =>
    X11_forged_p22  n st_4 v1 y_7 x_9) := rfl
def X11_forged (st : MS) (v1 : Int32) : Option (Int32 × MS) :=
    nm (sF st 17 (0 : Int32)) fun st_10 =>
    bnd (X11_wrongTale st_10 v1) fun y_12 st_11 =>
    if 0 ≤ y_12 then
      (X11_forged_p22 13 st_11 v1 (0 : Int32) (0 : Int32))
    else
    some (y_12, st_11)
abbrev rmX11_forged : Room := { frames := 4, cells := 0, slots := 0, locals := 93 }
theorem hdX11_forged : yX11_forged.cls = RX11 ∧ yX11_forged.cls ≠ "java/lang/invoke/MethodHandle" ∧ yX11_forged.cls ≠ "java/lang/invoke/VarHandle" ∧ (parseMethodDescriptor yX11_forged.desc).map (fun d => d.parameters.length) = some 1 := by decide +kernel
set_option maxRecDepth 100000 in
set_option maxHeartbeats 4000000 in
theorem okX11_forged (l : Launch) (D : va_G) (a : Nat → Nat) (T : mT3) {st : MS} {v1 : Int32} {r : Int32} {st' : MS} (heq : X11_forged st v1 = some (r, st')) : gCi l D (mT T) yX11_forged wsX11_forged rmX11_forged [.ref (a 0), .int v1] (mW a T st) r (mW a T st') := by
  refine g_body_i (by decide) rfl (Nat.le_of_ble_eq_true rfl) (fun p e s m args below meth c A Q hx hb hml hown hts hK hA hret ls hP hD hS hl => ?_)
  have hl : lv_has ls 5 [(0, .ref (a 0)), (1, .int v1)] := hl
  have hin : ∀ w ∈ wsX110, w ∈ wsX11_forged := fun w h => List.mem_cons_of_mem _ (List.mem_append_right _ h)
  have f43 : (Cond.fieldLink RX11 43 RX11 (TX11 15).2.1 (TX11 15).2.2.1).before args s = true := hts (.fieldLink RX11 43 "LaidDownTheLaneModel" "rowMany" "[I") (by decide +kernel)
  have f75 : (Cond.fieldLink RX11 75 RX11 (TX11 17).2.1 (TX11 17).2.2.1).before args s = true := hts (.fieldLink RX11 75 "LaidDownTheLaneModel" "thrown" "I") (by decide +kernel)
  have b63 : ∀ (st : MS) (t0 : Int32) (H : Heap) (locs : List Loc) (ls : Array Slot), va_P D vwCl (mW a T st) H → va_D A (mW a T st) → va_S A s.heap H locs → lv_has ls 5 [] → X11_forged_p63  st t0 = some (r, st') → W p l e rmX11_forged s m args below meth c H locs 0 0 Q (F0 m 63 ls [.int t0]) := by
    intro st t0 H locs ls hP hD hS hl heq
    unfold X11_forged_p63 at heq
    obtain ⟨heq, heq2⟩ := ret_h heq
    subst heq
    subst heq2
    exact hret 63 H locs ls hP hD hS rfl dX11_forged_63
  have b47 : ∀ (st : MS) (v1 : Int32) (v3 : Int32) (H : Heap) (locs : List Loc) (ls : Array Slot), va_P D vwCl (mW a T st) H → va_D A (mW a T st) → va_S A s.heap H locs → lv_has ls 5 [(0, .ref (a 0)), (1, .int v1), (3, .int v3)] → X11_forged_p47  st v1 v3 = some (r, st') → W p l e rmX11_forged s m args below meth c H locs 0 0 Q (F0 m 47 ls []) := by
    intro st v1 v3 H locs ls hP hD hS hl heq
    unfold X11_forged_p47 at heq
    refine lv_iload_n hx hb dX11_forged_47 rfl (lv_at hl 2 rfl) ?_
    refine lv_aload_n hx hb dX11_forged_48 rfl (lv_at hl 0 rfl) ?_
    refine mg (k := 15) (v := .ref (a 12)) hx hb hts hin hown hK hP (by decide) f43 rfl dX11_forged_49 rfl ?_
    refine lv_iload_n hx hb dX11_forged_52 rfl (lv_at hl 1 rfl) ?_
    obtain ⟨n_1, heq⟩ := inr_h heq
    refine mal (k := 15) (q := 12) (n := 8) hx hb hK hP rfl n_1 dX11_forged_53 ?_
    refine lv_icmp_ne (tgt := 62) hx hb dX11_forged_54 (by decide) (fun c_2 => ?_) (fun c_2 => ?_)
    · have heq := it_f c_2 heq
      refine lv_iload_n hx hb dX11_forged_62 rfl (lv_at hl 2 rfl) ?_
      exact b63 st v3 H locs ls hP hD hS (lv_sub hl [] rfl) heq
    have heq := it_t c_2 heq
    refine lv_bipush (v := (-4 : Int32)) hx hb dX11_forged_57 (by decide) ?_
    refine lv_goto (tgt := 63) hx hb dX11_forged_59 (by decide) ?_
    exact b63 st (-4 : Int32) H locs ls hP hD hS (lv_sub hl [] rfl) heq
  have b22 : ∀ (n : Nat), ∀ (st : MS) (v1 : Int32) (v3 : Int32) (v4 : Int32) (H : Heap) (locs : List Loc) (ls : Array Slot), va_P D vwCl (mW a T st) H → va_D A (mW a T st) → va_S A s.heap H locs → lv_has ls 5 [(0, .ref (a 0)), (1, .int v1), (3, .int v3), (4, .int v4)] → X11_forged_p22  n st v1 v3 v4 = some (r, st') → W p l e rmX11_forged s m args below meth c H locs 0 0 Q (F0 m 22 ls []) := by
    intro n
    induction n with
    | zero => intro st v1 v3 v4 H locs ls hP hD hS hl heq; cases heq
    | succ n ih =>
      intro st v1 v3 v4 H locs ls hP hD hS hl heq
      rw [X11_forged_p22_s] at heq
      refine lv_iload hx hb dX11_forged_22 (lv_at hl 3 rfl) ?_
      refine lv_bipush (v := (12 : Int32)) hx hb dX11_forged_24 (by decide) ?_
      refine lv_icmp_ge (tgt := 47) hx hb dX11_forged_26 (by decide) (fun c_3 => ?_) (fun c_3 => ?_)
      · have heq := it_t c_3 heq
        exact b47 st v1 v3 H locs ls hP hD hS (lv_sub hl [0, 1, 2] rfl) heq
      have heq := it_f c_3 heq
      refine lv_iload_n hx hb dX11_forged_29 rfl (lv_at hl 2 rfl) ?_
      refine lv_aload_n hx hb dX11_forged_30 rfl (lv_at hl 0 rfl) ?_
      refine lv_iload_n hx hb dX11_forged_31 rfl (lv_at hl 1 rfl) ?_
      refine lv_iload hx hb dX11_forged_32 (lv_at hl 3 rfl) ?_
      obtain ⟨y_5, st_4, h_6, heq⟩ := bnd_h heq
      refine g_vi (own := RX11) (As := [.int v1, .int v4]) (rest := [.int v3]) hx hb hml hown hts (okX11_fitsUpTo l D a T h_6) (cwV 2 hts gX11_forged_X11_fitsUpTo rfl rfl rfl hdX11_fitsUpTo ⟨Nat.le_of_ble_eq_true rfl, Nat.le_of_ble_eq_true rfl⟩) hK hA hP hD hS (ci := 11) (q0 := 0) rfl rfl rfl hl.1 rfl (Nat.le_of_ble_eq_true rfl) dX11_forged_34 ⟨Nat.le_of_ble_eq_true rfl, Nat.le_of_ble_eq_true rfl⟩ (fun H locs hP hD hS => ?_)
      obtain ⟨y_7, h_8, heq⟩ := bd1_h heq
      refine g_si (own := RX11) (D := D) (As := [.int v3, .int y_5]) (rest := []) hx hb hml hown hts (okX11_greater l D h_8) (cwS 2 hts gX11_forged_X11_greater rfl rfl rfl hdX11_greater ⟨Nat.le_of_ble_eq_true rfl, Nat.le_of_ble_eq_true rfl⟩) hK hA hP hS rfl hl.1 rfl (Nat.le_of_ble_eq_true rfl) dX11_forged_37 ⟨Nat.le_of_ble_eq_true rfl, Nat.le_of_ble_eq_true rfl⟩ (fun H locs hP hS => ?_)
      refine lv_istore_n (lv' := [(3, .int y_7), (0, .ref (a 0)), (1, .int v1), (4, .int v4)]) hx hb dX11_forged_40 rfl hl (by decide) rfl (fun ls hl => ?_)
      obtain ⟨x_9, ex_9⟩ : ∃ y : Int32, y = v4 + (1 : Int32) := ⟨_, rfl⟩
      have heq := nm_h ex_9 heq
      refine lv_iinc (v := x_9) (lv' := [(4, .int x_9), (3, .int y_7), (0, .ref (a 0)), (1, .int v1)]) hx hb dX11_forged_41 hl (k := 3) rfl (by rw [ex_9]; rfl) (by decide) rfl (fun ls hl => ?_)
      refine lv_goto (tgt := 22) hx hb dX11_forged_44 (by decide) ?_
      exact ih st_4 v1 y_7 x_9 H locs ls hP hD hS (lv_sub hl [2, 3, 1, 0] rfl) heq
  obtain ⟨H, hH⟩ : ∃ H, H = s.heap := ⟨_, rfl⟩
  obtain ⟨locs, hlocs⟩ : ∃ z : List Loc, z = [] := ⟨_, rfl⟩
  have hS : va_S A s.heap H locs := by rw [hH, hlocs]; exact hS
  have hP : va_P D vwCl (mW a T st) H := by rw [hH]; exact hP
  suffices h9 : W p l e rmX11_forged s m args below meth c H locs 0 0 Q (F0 m 0 ls []) by rw [hH, hlocs] at h9; exact h9
  clear hH hlocs
  unfold X11_forged at heq
  refine lv_aload_n hx hb dX11_forged_0 rfl (lv_at hl 0 rfl) ?_
  refine lv_iconst (v := (0 : Int32)) hx hb dX11_forged_1 (by decide) ?_
  refine mp (k := 17) hx hb hts hin hown hK hP hD hS (by decide) f75 dX11_forged_2 rfl rfl rfl rfl (mset_17 ..) (fun H locs hP hD hS => ?_)
  obtain ⟨st_10, est_10⟩ : ∃ z, z = sF st 17 (0 : Int32) := ⟨_, rfl⟩
  rw [← est_10] at hP hD
  have heq := nm_h est_10 heq
  refine lv_aload_n hx hb dX11_forged_5 rfl (lv_at hl 0 rfl) ?_
  refine lv_iload_n hx hb dX11_forged_6 rfl (lv_at hl 1 rfl) ?_
  obtain ⟨y_12, st_11, h_13, heq⟩ := bnd_h heq
  refine g_vi (own := RX11) (As := [.int v1]) (rest := []) hx hb hml hown hts (okX11_wrongTale l D a T h_13) (cwV 1 hts gX11_forged_X11_wrongTale rfl rfl rfl hdX11_wrongTale ⟨Nat.le_of_ble_eq_true rfl, Nat.le_of_ble_eq_true rfl⟩) hK hA hP hD hS (ci := 11) (q0 := 0) rfl rfl rfl hl.1 rfl (Nat.le_of_ble_eq_true rfl) dX11_forged_7 ⟨Nat.le_of_ble_eq_true rfl, Nat.le_of_ble_eq_true rfl⟩ (fun H locs hP hD hS => ?_)
  refine lv_istore_n (lv' := [(2, .int y_12), (0, .ref (a 0)), (1, .int v1)]) hx hb dX11_forged_10 rfl hl (by decide) rfl (fun ls hl => ?_)
  refine lv_iload_n hx hb dX11_forged_11 rfl (lv_at hl 0 rfl) ?_
  refine lv_if_ge (tgt := 17) hx hb dX11_forged_12 (by decide) (fun c_14 => ?_) (fun c_14 => ?_)
  · have heq := it_t c_14 heq
    refine lv_iconst (v := (0 : Int32)) hx hb dX11_forged_17 (by decide) ?_
    refine lv_istore_n (lv' := [(3, .int (0 : Int32)), (2, .int y_12), (0, .ref (a 0)), (1, .int v1)]) hx hb dX11_forged_18 rfl hl (by decide) rfl (fun ls hl => ?_)
    refine lv_iconst (v := (0 : Int32)) hx hb dX11_forged_19 (by decide) ?_
    refine lv_istore (lv' := [(4, .int (0 : Int32)), (3, .int (0 : Int32)), (2, .int y_12), (0, .ref (a 0)), (1, .int v1)]) hx hb dX11_forged_20 hl (by decide) rfl (fun ls hl => ?_)
    exact b22 13 st_11 v1 (0 : Int32) (0 : Int32) H locs ls hP hD hS (lv_sub hl [3, 4, 1, 0] rfl) heq
  have heq := it_f c_14 heq
  refine lv_iload_n hx hb dX11_forged_15 rfl (lv_at hl 0 rfl) ?_
  obtain ⟨heq, heq2⟩ := ret_h heq
  subst heq
  subst heq2
  exact hret 16 H locs ls hP hD hS rfl dX11_forged_16
set_option maxRecDepth 20000 in
theorem ggX11_bearing_X11_bearsOf : GoodIn wsX11_bearing wsX11_bearsOf := goodIn_r _ [5, 6, 7, 8, 9, 10, 11, 4, 12, 13, 14, 15, 16, 17, 18, 19, 20, 21, 22, 23, 24, 25, 26, 27, 28, 29, 30, 31, 32, 33, 34, 35, 36, 37, 38, 39, 40, 41, 42, 43, 44, 45, 46, 47, 48, 49, 50, 51, 52, 53, 54, 55] (by decide +kernel) (by decide +kernel)
set_option maxRecDepth 20000 in
theorem gX11_bearing_X11_bearsOf : GoodIn wsX11_bearing (wsV RX11 103 RX11 yX11_bearsOf wsX11_bearsOf) := goodIn_app (goodIn_of _ (by decide +kernel)) ggX11_bearing_X11_bearsOf
theorem dX11_bearing_0 : decode cX11_bearing 0 = .ok (.iconst 0, 1) := by decide +kernel
theorem dX11_bearing_1 : decode cX11_bearing 1 = .ok (.istore_n 1, 1) := by decide +kernel
theorem dX11_bearing_2 : decode cX11_bearing 2 = .ok (.iconst 0, 1) := by decide +kernel
theorem dX11_bearing_3 : decode cX11_bearing 3 = .ok (.istore_n 2, 1) := by decide +kernel
theorem dX11_bearing_4 : decode cX11_bearing 4 = .ok (.iload_n 2, 1) := by decide +kernel
theorem dX11_bearing_5 : decode cX11_bearing 5 = .ok (.bipush 12, 2) := by decide +kernel
theorem dX11_bearing_7 : decode cX11_bearing 7 = .ok (.if_icmp .ge 25, 3) := by decide +kernel
theorem dX11_bearing_10 : decode cX11_bearing 10 = .ok (.iload_n 1, 1) := by decide +kernel
theorem dX11_bearing_11 : decode cX11_bearing 11 = .ok (.aload_n 0, 1) := by decide +kernel
theorem dX11_bearing_12 : decode cX11_bearing 12 = .ok (.iload_n 2, 1) := by decide +kernel
theorem dX11_bearing_13 : decode cX11_bearing 13 = .ok (.invokevirtual 103, 3) := by decide +kernel
theorem dX11_bearing_16 : decode cX11_bearing 16 = .ok (.ifCond .le 7, 3) := by decide +kernel
theorem dX11_bearing_19 : decode cX11_bearing 19 = .ok (.iconst 1, 1) := by decide +kernel
theorem dX11_bearing_20 : decode cX11_bearing 20 = .ok (.goto 4, 3) := by decide +kernel
theorem dX11_bearing_23 : decode cX11_bearing 23 = .ok (.iconst 0, 1) := by decide +kernel
theorem dX11_bearing_24 : decode cX11_bearing 24 = .ok (.iadd, 1) := by decide +kernel
theorem dX11_bearing_25 : decode cX11_bearing 25 = .ok (.istore_n 1, 1) := by decide +kernel
theorem dX11_bearing_26 : decode cX11_bearing 26 = .ok (.iinc 2 1, 3) := by decide +kernel
theorem dX11_bearing_29 : decode cX11_bearing 29 = .ok (.goto (-25), 3) := by decide +kernel
theorem dX11_bearing_32 : decode cX11_bearing 32 = .ok (.iload_n 1, 1) := by decide +kernel
theorem dX11_bearing_33 : decode cX11_bearing 33 = .ok (.ireturn, 1) := by decide +kernel
/-! bearing -/
def X11_bearing_p24 (k4 : MS → Int32 → Int32 → Option (Int32 × MS)) (st : MS) (v2 : Int32) (t0 : Int32) (t1 : Int32) : Option (Int32 × MS) :=
    nm ((t0 + t1)) fun x_1 =>
    nm (v2 + (1 : Int32)) fun x_2 =>
    k4 st x_1 x_2
def X11_bearing_p32 (st : MS) (v1 : Int32) : Option (Int32 × MS) :=
    some (v1, st)
def X11_bearing_p4 : Nat → MS → Int32 → Int32 → Option (Int32 × MS)
  | 0, _, _, _ => none
  | n + 1, st, v1, v2 =>
    if (12 : Int32) ≤ v2 then
      (X11_bearing_p32 st v1)
    else
    bnd (X11_bearsOf st v2) fun y_5 st_4 =>
    if y_5 ≤ 0 then
      (X11_bearing_p24 (fun st v1 v2 => X11_bearing_p4  n st v1 v2) st_4 v2 v1 (0 : Int32))
    else
    X11_bearing_p24 (fun st v1 v2 => X11_bearing_p4  n st v1 v2) st_4 v2 v1 (1 : Int32)
theorem X11_bearing_p4_s (n : Nat) (st : MS) (v1 : Int32) (v2 : Int32) : X11_bearing_p4  (n + 1) st v1 v2 =
    (if (12 : Int32) ≤ v2 then
      (X11_bearing_p32 st v1)
    else
    bnd (X11_bearsOf st v2) fun y_5 st_4 =>
    if y_5 ≤ 0 then
      (X11_bearing_p24 (fun st v1 v2 => X11_bearing_p4  n st v1 v2) st_4 v2 v1 (0 : Int32))
    else
    X11_bearing_p24 (fun st v1 v2 => X11_bearing_p4  n st v1 v2) st_4 v2 v1 (1 : Int32)) := rfl
def X11_bearing (st : MS) : Option (Int32 × MS) :=
    X11_bearing_p4 13 st (0 : Int32) (0 : Int32)
abbrev rmX11_bearing : Room := { frames := 2, cells := 0, slots := 0, locals := 44 }
theorem hdX11_bearing : yX11_bearing.cls = RX11 ∧ yX11_bearing.cls ≠ "java/lang/invoke/MethodHandle" ∧ yX11_bearing.cls ≠ "java/lang/invoke/VarHandle" ∧ (parseMethodDescriptor yX11_bearing.desc).map (fun d => d.parameters.length) = some 0 := by decide +kernel
set_option maxRecDepth 100000 in
set_option maxHeartbeats 4000000 in
theorem okX11_bearing (l : Launch) (D : va_G) (a : Nat → Nat) (T : mT3) {st : MS} {r : Int32} {st' : MS} (heq : X11_bearing st = some (r, st')) : gCi l D (mT T) yX11_bearing wsX11_bearing rmX11_bearing [.ref (a 0)] (mW a T st) r (mW a T st') := by
  refine g_body_i (by decide) rfl (Nat.le_of_ble_eq_true rfl) (fun p e s m args below meth c A Q hx hb hml hown hts hK hA hret ls hP hD hS hl => ?_)
  have hl : lv_has ls 3 [(0, .ref (a 0))] := hl
  have b24 : ∀ (k4 : MS → Int32 → Int32 → Option (Int32 × MS)) (hk4 : ∀ (st : MS) (v1 : Int32) (v2 : Int32) (H : Heap) (locs : List Loc) (ls : Array Slot), va_P D vwCl (mW a T st) H → va_D A (mW a T st) → va_S A s.heap H locs → lv_has ls 3 [(0, .ref (a 0)), (1, .int v1), (2, .int v2)] → k4 st v1 v2 = some (r, st') → W p l e rmX11_bearing s m args below meth c H locs 0 0 Q (F0 m 4 ls [])), ∀ (st : MS) (v2 : Int32) (t0 : Int32) (t1 : Int32) (H : Heap) (locs : List Loc) (ls : Array Slot), va_P D vwCl (mW a T st) H → va_D A (mW a T st) → va_S A s.heap H locs → lv_has ls 3 [(0, .ref (a 0)), (2, .int v2)] → X11_bearing_p24 k4 st v2 t0 t1 = some (r, st') → W p l e rmX11_bearing s m args below meth c H locs 0 0 Q (F0 m 24 ls [.int t1, .int t0]) := by
    intro k4 hk4 st v2 t0 t1 H locs ls hP hD hS hl heq
    unfold X11_bearing_p24 at heq
    refine lv_iadd hx hb dX11_bearing_24 ?_
    refine lv_topi (fun x_1 ex_1 => ?_)
    have heq := nm_h ex_1 heq
    refine lv_istore_n (lv' := [(1, .int x_1), (0, .ref (a 0)), (2, .int v2)]) hx hb dX11_bearing_25 rfl hl (by decide) rfl (fun ls hl => ?_)
    obtain ⟨x_2, ex_2⟩ : ∃ y : Int32, y = v2 + (1 : Int32) := ⟨_, rfl⟩
    have heq := nm_h ex_2 heq
    refine lv_iinc (v := x_2) (lv' := [(2, .int x_2), (1, .int x_1), (0, .ref (a 0))]) hx hb dX11_bearing_26 hl (k := 2) rfl (by rw [ex_2]; rfl) (by decide) rfl (fun ls hl => ?_)
    refine lv_goto (tgt := 4) hx hb dX11_bearing_29 (by decide) ?_
    exact hk4 st x_1 x_2 H locs ls hP hD hS (lv_sub hl [2, 1, 0] rfl) heq
  have b32 : ∀ (st : MS) (v1 : Int32) (H : Heap) (locs : List Loc) (ls : Array Slot), va_P D vwCl (mW a T st) H → va_D A (mW a T st) → va_S A s.heap H locs → lv_has ls 3 [(1, .int v1)] → X11_bearing_p32  st v1 = some (r, st') → W p l e rmX11_bearing s m args below meth c H locs 0 0 Q (F0 m 32 ls []) := by
    intro st v1 H locs ls hP hD hS hl heq
    unfold X11_bearing_p32 at heq
    refine lv_iload_n hx hb dX11_bearing_32 rfl (lv_at hl 0 rfl) ?_
    obtain ⟨heq, heq2⟩ := ret_h heq
    subst heq
    subst heq2
    exact hret 33 H locs ls hP hD hS rfl dX11_bearing_33
  have b4 : ∀ (n : Nat), ∀ (st : MS) (v1 : Int32) (v2 : Int32) (H : Heap) (locs : List Loc) (ls : Array Slot), va_P D vwCl (mW a T st) H → va_D A (mW a T st) → va_S A s.heap H locs → lv_has ls 3 [(0, .ref (a 0)), (1, .int v1), (2, .int v2)] → X11_bearing_p4  n st v1 v2 = some (r, st') → W p l e rmX11_bearing s m args below meth c H locs 0 0 Q (F0 m 4 ls []) := by
    intro n
    induction n with
    | zero => intro st v1 v2 H locs ls hP hD hS hl heq; cases heq
    | succ n ih =>
      intro st v1 v2 H locs ls hP hD hS hl heq
      rw [X11_bearing_p4_s] at heq
      refine lv_iload_n hx hb dX11_bearing_4 rfl (lv_at hl 2 rfl) ?_
      refine lv_bipush (v := (12 : Int32)) hx hb dX11_bearing_5 (by decide) ?_
      refine lv_icmp_ge (tgt := 32) hx hb dX11_bearing_7 (by decide) (fun c_3 => ?_) (fun c_3 => ?_)
      · have heq := it_t c_3 heq
        exact b32 st v1 H locs ls hP hD hS (lv_sub hl [1] rfl) heq
      have heq := it_f c_3 heq
      refine lv_iload_n hx hb dX11_bearing_10 rfl (lv_at hl 1 rfl) ?_
      refine lv_aload_n hx hb dX11_bearing_11 rfl (lv_at hl 0 rfl) ?_
      refine lv_iload_n hx hb dX11_bearing_12 rfl (lv_at hl 2 rfl) ?_
      obtain ⟨y_5, st_4, h_6, heq⟩ := bnd_h heq
      refine g_vi (own := RX11) (As := [.int v2]) (rest := [.int v1]) hx hb hml hown hts (okX11_bearsOf l D a T h_6) (cwV 1 hts gX11_bearing_X11_bearsOf rfl rfl rfl hdX11_bearsOf ⟨Nat.le_of_ble_eq_true rfl, Nat.le_of_ble_eq_true rfl⟩) hK hA hP hD hS (ci := 11) (q0 := 0) rfl rfl rfl hl.1 rfl (Nat.le_of_ble_eq_true rfl) dX11_bearing_13 ⟨Nat.le_of_ble_eq_true rfl, Nat.le_of_ble_eq_true rfl⟩ (fun H locs hP hD hS => ?_)
      refine lv_if_le (tgt := 23) hx hb dX11_bearing_16 (by decide) (fun c_7 => ?_) (fun c_7 => ?_)
      · have heq := it_t c_7 heq
        refine lv_iconst (v := (0 : Int32)) hx hb dX11_bearing_23 (by decide) ?_
        exact b24 (fun st v1 v2 => X11_bearing_p4  n st v1 v2) ih st_4 v2 v1 (0 : Int32) H locs ls hP hD hS (lv_sub hl [0, 2] rfl) heq
      have heq := it_f c_7 heq
      refine lv_iconst (v := (1 : Int32)) hx hb dX11_bearing_19 (by decide) ?_
      refine lv_goto (tgt := 24) hx hb dX11_bearing_20 (by decide) ?_
      exact b24 (fun st v1 v2 => X11_bearing_p4  n st v1 v2) ih st_4 v2 v1 (1 : Int32) H locs ls hP hD hS (lv_sub hl [0, 2] rfl) heq
  obtain ⟨H, hH⟩ : ∃ H, H = s.heap := ⟨_, rfl⟩
  obtain ⟨locs, hlocs⟩ : ∃ z : List Loc, z = [] := ⟨_, rfl⟩
  have hS : va_S A s.heap H locs := by rw [hH, hlocs]; exact hS
  have hP : va_P D vwCl (mW a T st) H := by rw [hH]; exact hP
  suffices h9 : W p l e rmX11_bearing s m args below meth c H locs 0 0 Q (F0 m 0 ls []) by rw [hH, hlocs] at h9; exact h9
  clear hH hlocs
  unfold X11_bearing at heq
  refine lv_iconst (v := (0 : Int32)) hx hb dX11_bearing_0 (by decide) ?_
  refine lv_istore_n (lv' := [(1, .int (0 : Int32)), (0, .ref (a 0))]) hx hb dX11_bearing_1 rfl hl (by decide) rfl (fun ls hl => ?_)
  refine lv_iconst (v := (0 : Int32)) hx hb dX11_bearing_2 (by decide) ?_
  refine lv_istore_n (lv' := [(2, .int (0 : Int32)), (1, .int (0 : Int32)), (0, .ref (a 0))]) hx hb dX11_bearing_3 rfl hl (by decide) rfl (fun ls hl => ?_)
  exact b4 13 st (0 : Int32) (0 : Int32) H locs ls hP hD hS (lv_sub hl [2, 1, 0] rfl) heq
set_option maxRecDepth 20000 in
theorem ggX11_judge_X11_wrongRow : GoodIn wsX11_judge wsX11_wrongRow := goodIn_r _ [11, 12, 13, 14, 15, 10, 16, 98, 99, 100, 101, 102, 103, 104, 105, 106, 107, 108, 109, 110, 111, 112, 113, 114, 115, 116, 117, 118, 119, 120, 121, 122, 123, 124, 125, 126, 127, 128, 129, 130, 131, 132, 133, 134] (by decide +kernel) (by decide +kernel)
set_option maxRecDepth 20000 in
theorem gX11_judge_X11_wrongRow : GoodIn wsX11_judge (wsV RX11 194 RX11 yX11_wrongRow wsX11_wrongRow) := goodIn_app (goodIn_of _ (by decide +kernel)) ggX11_judge_X11_wrongRow
set_option maxRecDepth 20000 in
theorem ggX11_judge_X11_open : GoodIn wsX11_judge wsX11_open := goodIn_r _ [20, 21, 22, 23, 24, 10, 25, 26, 27, 28, 3, 5, 2, 29, 30, 31, 32, 33, 34, 35, 36, 37, 38, 98, 99, 100, 101, 102, 103, 104, 105, 106, 107, 108, 109, 110, 111, 112, 113, 114, 115, 116, 117, 118, 119, 120, 121, 122, 123, 124, 125, 126, 127, 128, 129, 130, 131, 132, 133, 134] (by decide +kernel) (by decide +kernel)
set_option maxRecDepth 20000 in
theorem gX11_judge_X11_open : GoodIn wsX11_judge (wsV RX11 238 RX11 yX11_open wsX11_open) := goodIn_app (goodIn_of _ (by decide +kernel)) ggX11_judge_X11_open
set_option maxRecDepth 20000 in
theorem ggX11_judge_X11_stands : GoodIn wsX11_judge wsX11_stands := goodIn_r _ [42, 43, 44, 45, 10, 46, 47, 48, 49, 50, 51, 52, 53, 54, 55, 56, 57, 58, 30, 59, 60, 61, 62, 63, 64, 65, 66, 67, 68, 69, 70, 71, 72, 3, 5, 73, 74, 75, 76, 77, 32, 31, 78, 79, 80, 81, 98, 99, 100, 101, 102, 103, 104, 105, 106, 107, 108, 109, 110, 111, 112, 113, 114, 115, 116, 117, 118, 119, 120, 121, 122, 123, 124, 125, 126, 127, 128, 129, 130, 131, 132, 133, 134] (by decide +kernel) (by decide +kernel)
set_option maxRecDepth 20000 in
theorem gX11_judge_X11_stands : GoodIn wsX11_judge (wsV RX11 125 RX11 yX11_stands wsX11_stands) := goodIn_app (goodIn_of _ (by decide +kernel)) ggX11_judge_X11_stands
set_option maxRecDepth 20000 in
theorem ggX11_judge_X11_skipped : GoodIn wsX11_judge wsX11_skipped := goodIn_r _ [85, 86, 87, 88, 89, 98, 99, 100, 101, 102, 103, 104, 105, 106, 107, 108, 109, 110, 111, 112, 113, 114, 115, 116, 117, 118, 119, 120, 121, 122, 123, 124, 125, 126, 127, 128, 129, 130, 131, 132, 133, 134] (by decide +kernel) (by decide +kernel)
set_option maxRecDepth 20000 in
theorem gX11_judge_X11_skipped : GoodIn wsX11_judge (wsV RX11 310 RX11 yX11_skipped wsX11_skipped) := goodIn_app (goodIn_of _ (by decide +kernel)) ggX11_judge_X11_skipped
set_option maxRecDepth 20000 in
theorem ggX11_judge_X11_bearing : GoodIn wsX11_judge wsX11_bearing := goodIn_r _ [93, 69, 70, 71, 10, 72, 3, 5, 73, 74, 75, 76, 77, 32, 31, 78, 79, 80, 81, 98, 99, 100, 101, 102, 103, 104, 105, 106, 107, 108, 109, 110, 111, 112, 113, 114, 115, 116, 117, 118, 119, 120, 121, 122, 123, 124, 125, 126, 127, 128, 129, 130, 131, 132, 133, 134] (by decide +kernel) (by decide +kernel)
set_option maxRecDepth 20000 in
theorem gX11_judge_X11_bearing : GoodIn wsX11_judge (wsV RX11 320 RX11 yX11_bearing wsX11_bearing) := goodIn_app (goodIn_of _ (by decide +kernel)) ggX11_judge_X11_bearing
set_option maxRecDepth 20000 in
theorem ggX11_judge_X11_close : GoodIn wsX11_judge wsX11_close := goodIn_r _ [97, 21, 22, 23, 24, 10, 25, 26, 27, 28, 3, 5, 2, 29, 30, 31, 32, 33, 34, 35, 36, 37, 38, 98, 99, 100, 101, 102, 103, 104, 105, 106, 107, 108, 109, 110, 111, 112, 113, 114, 115, 116, 117, 118, 119, 120, 121, 122, 123, 124, 125, 126, 127, 128, 129, 130, 131, 132, 133, 134] (by decide +kernel) (by decide +kernel)
set_option maxRecDepth 20000 in
theorem gX11_judge_X11_close : GoodIn wsX11_judge (wsV RX11 241 RX11 yX11_close wsX11_close) := goodIn_app (goodIn_of _ (by decide +kernel)) ggX11_judge_X11_close
theorem dX11_judge_0 : decode cX11_judge 0 = .ok (.aload_n 0, 1) := by decide +kernel
theorem dX11_judge_1 : decode cX11_judge 1 = .ok (.iconst 0, 1) := by decide +kernel
theorem dX11_judge_2 : decode cX11_judge 2 = .ok (.putfield 75, 3) := by decide +kernel
theorem dX11_judge_5 : decode cX11_judge 5 = .ok (.aload_n 0, 1) := by decide +kernel
theorem dX11_judge_6 : decode cX11_judge 6 = .ok (.iload_n 1, 1) := by decide +kernel
theorem dX11_judge_7 : decode cX11_judge 7 = .ok (.invokevirtual 194, 3) := by decide +kernel
theorem dX11_judge_10 : decode cX11_judge 10 = .ok (.istore_n 2, 1) := by decide +kernel
theorem dX11_judge_11 : decode cX11_judge 11 = .ok (.iload_n 2, 1) := by decide +kernel
theorem dX11_judge_12 : decode cX11_judge 12 = .ok (.ifCond .ne 15, 3) := by decide +kernel
theorem dX11_judge_15 : decode cX11_judge 15 = .ok (.aload_n 0, 1) := by decide +kernel
theorem dX11_judge_16 : decode cX11_judge 16 = .ok (.getfield 122, 3) := by decide +kernel
theorem dX11_judge_19 : decode cX11_judge 19 = .ok (.ifCond .eq 8, 3) := by decide +kernel
theorem dX11_judge_22 : decode cX11_judge 22 = .ok (.bipush (-3), 2) := by decide +kernel
theorem dX11_judge_24 : decode cX11_judge 24 = .ok (.goto 4, 3) := by decide +kernel
theorem dX11_judge_27 : decode cX11_judge 27 = .ok (.iload_n 2, 1) := by decide +kernel
theorem dX11_judge_28 : decode cX11_judge 28 = .ok (.istore_n 2, 1) := by decide +kernel
theorem dX11_judge_29 : decode cX11_judge 29 = .ok (.iload_n 2, 1) := by decide +kernel
theorem dX11_judge_30 : decode cX11_judge 30 = .ok (.ifCond .ge 5, 3) := by decide +kernel
theorem dX11_judge_33 : decode cX11_judge 33 = .ok (.iload_n 2, 1) := by decide +kernel
theorem dX11_judge_34 : decode cX11_judge 34 = .ok (.ireturn, 1) := by decide +kernel
theorem dX11_judge_35 : decode cX11_judge 35 = .ok (.bipush (-4), 2) := by decide +kernel
theorem dX11_judge_37 : decode cX11_judge 37 = .ok (.istore_n 3, 1) := by decide +kernel
theorem dX11_judge_38 : decode cX11_judge 38 = .ok (.iconst 0, 1) := by decide +kernel
theorem dX11_judge_39 : decode cX11_judge 39 = .ok (.istore 4, 2) := by decide +kernel
theorem dX11_judge_41 : decode cX11_judge 41 = .ok (.aload_n 0, 1) := by decide +kernel
theorem dX11_judge_42 : decode cX11_judge 42 = .ok (.invokevirtual 238, 3) := by decide +kernel
theorem dX11_judge_45 : decode cX11_judge 45 = .ok (.aload_n 0, 1) := by decide +kernel
theorem dX11_judge_46 : decode cX11_judge 46 = .ok (.iconst 1, 1) := by decide +kernel
theorem dX11_judge_47 : decode cX11_judge 47 = .ok (.putfield 89, 3) := by decide +kernel
theorem dX11_judge_50 : decode cX11_judge 50 = .ok (.iconst 0, 1) := by decide +kernel
theorem dX11_judge_51 : decode cX11_judge 51 = .ok (.istore 5, 2) := by decide +kernel
theorem dX11_judge_53 : decode cX11_judge 53 = .ok (.iload 5, 2) := by decide +kernel
theorem dX11_judge_55 : decode cX11_judge 55 = .ok (.aload_n 0, 1) := by decide +kernel
theorem dX11_judge_56 : decode cX11_judge 56 = .ok (.getfield 43, 3) := by decide +kernel
theorem dX11_judge_59 : decode cX11_judge 59 = .ok (.iload_n 1, 1) := by decide +kernel
theorem dX11_judge_60 : decode cX11_judge 60 = .ok (.iaload, 1) := by decide +kernel
theorem dX11_judge_61 : decode cX11_judge 61 = .ok (.if_icmp .ge 119, 3) := by decide +kernel
theorem dX11_judge_64 : decode cX11_judge 64 = .ok (.iload_n 3, 1) := by decide +kernel
theorem dX11_judge_65 : decode cX11_judge 65 = .ok (.ifCond .ge 115, 3) := by decide +kernel
theorem dX11_judge_68 : decode cX11_judge 68 = .ok (.aload_n 0, 1) := by decide +kernel
theorem dX11_judge_69 : decode cX11_judge 69 = .ok (.dup, 1) := by decide +kernel
theorem dX11_judge_70 : decode cX11_judge 70 = .ok (.getfield 93, 3) := by decide +kernel
theorem dX11_judge_73 : decode cX11_judge 73 = .ok (.iload 5, 2) := by decide +kernel
theorem dX11_judge_75 : decode cX11_judge 75 = .ok (.ifCond .le 7, 3) := by decide +kernel
theorem dX11_judge_78 : decode cX11_judge 78 = .ok (.iconst 1, 1) := by decide +kernel
theorem dX11_judge_79 : decode cX11_judge 79 = .ok (.goto 4, 3) := by decide +kernel
theorem dX11_judge_82 : decode cX11_judge 82 = .ok (.iconst 0, 1) := by decide +kernel
theorem dX11_judge_83 : decode cX11_judge 83 = .ok (.iadd, 1) := by decide +kernel
theorem dX11_judge_84 : decode cX11_judge 84 = .ok (.putfield 93, 3) := by decide +kernel
theorem dX11_judge_87 : decode cX11_judge 87 = .ok (.iload 4, 2) := by decide +kernel
theorem dX11_judge_89 : decode cX11_judge 89 = .ok (.ifCond .ne 10, 3) := by decide +kernel
theorem dX11_judge_92 : decode cX11_judge 92 = .ok (.aload_n 0, 1) := by decide +kernel
theorem dX11_judge_93 : decode cX11_judge 93 = .ok (.invokevirtual 125, 3) := by decide +kernel
theorem dX11_judge_96 : decode cX11_judge 96 = .ok (.ifCond .ne 7, 3) := by decide +kernel
theorem dX11_judge_99 : decode cX11_judge 99 = .ok (.iconst 1, 1) := by decide +kernel
theorem dX11_judge_100 : decode cX11_judge 100 = .ok (.goto 4, 3) := by decide +kernel
theorem dX11_judge_103 : decode cX11_judge 103 = .ok (.iconst 0, 1) := by decide +kernel
theorem dX11_judge_104 : decode cX11_judge 104 = .ok (.istore 4, 2) := by decide +kernel
theorem dX11_judge_106 : decode cX11_judge 106 = .ok (.aload_n 0, 1) := by decide +kernel
theorem dX11_judge_107 : decode cX11_judge 107 = .ok (.getfield 46, 3) := by decide +kernel
theorem dX11_judge_110 : decode cX11_judge 110 = .ok (.bipush 100, 2) := by decide +kernel
theorem dX11_judge_112 : decode cX11_judge 112 = .ok (.iload_n 1, 1) := by decide +kernel
theorem dX11_judge_113 : decode cX11_judge 113 = .ok (.imul, 1) := by decide +kernel
theorem dX11_judge_114 : decode cX11_judge 114 = .ok (.iload 5, 2) := by decide +kernel
theorem dX11_judge_116 : decode cX11_judge 116 = .ok (.iadd, 1) := by decide +kernel
theorem dX11_judge_117 : decode cX11_judge 117 = .ok (.laload, 1) := by decide +kernel
theorem dX11_judge_118 : decode cX11_judge 118 = .ok (.lstore 6, 2) := by decide +kernel
theorem dX11_judge_120 : decode cX11_judge 120 = .ok (.lload 6, 2) := by decide +kernel
theorem dX11_judge_122 : decode cX11_judge 122 = .ok (.aload_n 0, 1) := by decide +kernel
theorem dX11_judge_123 : decode cX11_judge 123 = .ok (.iload_n 1, 1) := by decide +kernel
theorem dX11_judge_124 : decode cX11_judge 124 = .ok (.invokevirtual 310, 3) := by decide +kernel
theorem dX11_judge_127 : decode cX11_judge 127 = .ok (.lcmp, 1) := by decide +kernel
theorem dX11_judge_128 : decode cX11_judge 128 = .ok (.ifCond .eq 26, 3) := by decide +kernel
theorem dX11_judge_131 : decode cX11_judge 131 = .ok (.iload 4, 2) := by decide +kernel
theorem dX11_judge_133 : decode cX11_judge 133 = .ok (.ifCond .ne 25, 3) := by decide +kernel
theorem dX11_judge_136 : decode cX11_judge 136 = .ok (.iload 5, 2) := by decide +kernel
theorem dX11_judge_138 : decode cX11_judge 138 = .ok (.bipush 60, 2) := by decide +kernel
theorem dX11_judge_140 : decode cX11_judge 140 = .ok (.if_icmp .gt 18, 3) := by decide +kernel
theorem dX11_judge_143 : decode cX11_judge 143 = .ok (.lload 6, 2) := by decide +kernel
theorem dX11_judge_145 : decode cX11_judge 145 = .ok (.aload_n 0, 1) := by decide +kernel
theorem dX11_judge_146 : decode cX11_judge 146 = .ok (.invokevirtual 320, 3) := by decide +kernel
theorem dX11_judge_149 : decode cX11_judge 149 = .ok (.i2l, 1) := by decide +kernel
theorem dX11_judge_150 : decode cX11_judge 150 = .ok (.lcmp, 1) := by decide +kernel
theorem dX11_judge_151 : decode cX11_judge 151 = .ok (.ifCond .ne 7, 3) := by decide +kernel
theorem dX11_judge_154 : decode cX11_judge 154 = .ok (.iconst 1, 1) := by decide +kernel
theorem dX11_judge_155 : decode cX11_judge 155 = .ok (.goto 4, 3) := by decide +kernel
theorem dX11_judge_158 : decode cX11_judge 158 = .ok (.iconst 0, 1) := by decide +kernel
theorem dX11_judge_159 : decode cX11_judge 159 = .ok (.istore 8, 2) := by decide +kernel
theorem dX11_judge_161 : decode cX11_judge 161 = .ok (.iload 8, 2) := by decide +kernel
theorem dX11_judge_163 : decode cX11_judge 163 = .ok (.ifCond .eq 8, 3) := by decide +kernel
theorem dX11_judge_166 : decode cX11_judge 166 = .ok (.bipush (-4), 2) := by decide +kernel
theorem dX11_judge_168 : decode cX11_judge 168 = .ok (.goto 5, 3) := by decide +kernel
theorem dX11_judge_171 : decode cX11_judge 171 = .ok (.iload 5, 2) := by decide +kernel
theorem dX11_judge_173 : decode cX11_judge 173 = .ok (.istore_n 3, 1) := by decide +kernel
theorem dX11_judge_174 : decode cX11_judge 174 = .ok (.iinc 5 1, 3) := by decide +kernel
theorem dX11_judge_177 : decode cX11_judge 177 = .ok (.goto (-124), 3) := by decide +kernel
theorem dX11_judge_180 : decode cX11_judge 180 = .ok (.aload_n 0, 1) := by decide +kernel
theorem dX11_judge_181 : decode cX11_judge 181 = .ok (.invokevirtual 241, 3) := by decide +kernel
theorem dX11_judge_184 : decode cX11_judge 184 = .ok (.iload_n 3, 1) := by decide +kernel
theorem dX11_judge_185 : decode cX11_judge 185 = .ok (.ireturn, 1) := by decide +kernel
/-! judge -/
def X11_judge_p173 (k53 : MS → Int32 → Int32 → Int32 → Int32 → Option (Int32 × MS)) (st : MS) (v1 : Int32) (v4 : Int32) (v5 : Int32) (t0 : Int32) : Option (Int32 × MS) :=
    nm (v5 + (1 : Int32)) fun x_1 =>
    k53 st v1 t0 v4 x_1
def X11_judge_p159 (k53 : MS → Int32 → Int32 → Int32 → Int32 → Option (Int32 × MS)) (st : MS) (v1 : Int32) (v4 : Int32) (v5 : Int32) (t0 : Int32) : Option (Int32 × MS) :=
    if t0 = 0 then
      (X11_judge_p173 k53 st v1 v4 v5 v5)
    else
    X11_judge_p173 k53 st v1 v4 v5 (-4 : Int32)
def X11_judge_p154 (k53 : MS → Int32 → Int32 → Int32 → Int32 → Option (Int32 × MS)) (st : MS) (v1 : Int32) (v4 : Int32) (v5 : Int32) : Option (Int32 × MS) :=
    X11_judge_p159 k53 st v1 v4 v5 (1 : Int32)
def X11_judge_p158 (k53 : MS → Int32 → Int32 → Int32 → Int32 → Option (Int32 × MS)) (st : MS) (v1 : Int32) (v4 : Int32) (v5 : Int32) : Option (Int32 × MS) :=
    X11_judge_p159 k53 st v1 v4 v5 (0 : Int32)
def X11_judge_p104 (k53 : MS → Int32 → Int32 → Int32 → Int32 → Option (Int32 × MS)) (st : MS) (v1 : Int32) (v5 : Int32) (t0 : Int32) : Option (Int32 × MS) :=
    inr (((100 : Int32) * v1) + v5) 800 <|
    nm ((gL st 16 (((100 : Int32) * v1) + v5).toNatClampNeg)) fun x_4 =>
    bnd (X11_skipped st v1) fun y_6 st_5 =>
    if (lg_cmp x_4 y_6) = 0 then
      (X11_judge_p154 k53 st_5 v1 t0 v5)
    else
    if t0 = 0 then
      (if (60 : Int32) < v5 then
        (X11_judge_p158 k53 st_5 v1 t0 v5)
      else
      bnd (X11_bearing st_5) fun y_12 st_11 =>
      if (lg_cmp x_4 (y_12.toInt64)) = 0 then
        (X11_judge_p154 k53 st_11 v1 t0 v5)
      else
      X11_judge_p158 k53 st_11 v1 t0 v5)
    else
    X11_judge_p158 k53 st_5 v1 t0 v5
def X11_judge_p99 (k53 : MS → Int32 → Int32 → Int32 → Int32 → Option (Int32 × MS)) (st : MS) (v1 : Int32) (v5 : Int32) : Option (Int32 × MS) :=
    X11_judge_p104 k53 st v1 v5 (1 : Int32)
def X11_judge_p83 (k53 : MS → Int32 → Int32 → Int32 → Int32 → Option (Int32 × MS)) (st : MS) (v1 : Int32) (v4 : Int32) (v5 : Int32) (t1 : Int32) (t2 : Int32) : Option (Int32 × MS) :=
    nm (sF st 6 (t1 + t2)) fun st_15 =>
    if v4 = 0 then
      (bnd (X11_stands st_15) fun y_18 st_17 =>
      if y_18 = 0 then
        (X11_judge_p99 k53 st_17 v1 v5)
      else
      X11_judge_p104 k53 st_17 v1 v5 (0 : Int32))
    else
    X11_judge_p99 k53 st_15 v1 v5
def X11_judge_p180 (st : MS) (v3 : Int32) : Option (Int32 × MS) :=
    bnd (X11_close st) fun _ st_21 =>
    some (v3, st_21)
def X11_judge_p53 : Nat → MS → Int32 → Int32 → Int32 → Int32 → Option (Int32 × MS)
  | 0, _, _, _, _, _ => none
  | n + 1, st, v1, v3, v4, v5 =>
    inr v1 8 <|
    if (gA st 15 v1.toNatClampNeg) ≤ v5 then
      (X11_judge_p180 st v3)
    else
    if 0 ≤ v3 then
      (X11_judge_p180 st v3)
    else
    if v5 ≤ 0 then
      (X11_judge_p83 (fun st v1 v3 v4 v5 => X11_judge_p53  n st v1 v3 v4 v5) st v1 v4 v5 (gF st 6) (0 : Int32))
    else
    X11_judge_p83 (fun st v1 v3 v4 v5 => X11_judge_p53  n st v1 v3 v4 v5) st v1 v4 v5 (gF st 6) (1 : Int32)
theorem X11_judge_p53_s (n : Nat) (st : MS) (v1 : Int32) (v3 : Int32) (v4 : Int32) (v5 : Int32) : X11_judge_p53  (n + 1) st v1 v3 v4 v5 =
    (inr v1 8 <|
    if (gA st 15 v1.toNatClampNeg) ≤ v5 then
      (X11_judge_p180 st v3)
    else
    if 0 ≤ v3 then
      (X11_judge_p180 st v3)
    else
    if v5 ≤ 0 then
      (X11_judge_p83 (fun st v1 v3 v4 v5 => X11_judge_p53  n st v1 v3 v4 v5) st v1 v4 v5 (gF st 6) (0 : Int32))
    else
    X11_judge_p83 (fun st v1 v3 v4 v5 => X11_judge_p53  n st v1 v3 v4 v5) st v1 v4 v5 (gF st 6) (1 : Int32)) := rfl
def X11_judge_p28 (st : MS) (v1 : Int32) (t0 : Int32) : Option (Int32 × MS) :=
    if 0 ≤ t0 then
      (bnd (X11_open st) fun _ st_28 =>
      gz (1 : Int32) <|
      nm (sF st_28 5 (1 : Int32)) fun st_30 =>
      X11_judge_p53 5000 st_30 v1 (-4 : Int32) (0 : Int32) (0 : Int32))
    else
    some (t0, st)
def X11_judge_p27 (st : MS) (v1 : Int32) (v2 : Int32) : Option (Int32 × MS) :=
    X11_judge_p28 st v1 v2
def X11_judge (st : MS) (v1 : Int32) : Option (Int32 × MS) :=
    nm (sF st 17 (0 : Int32)) fun st_32 =>
    bnd (X11_wrongRow st_32 v1) fun y_34 st_33 =>
    if y_34 = 0 then
      (if (gF st_33 7) = 0 then
        (X11_judge_p27 st_33 v1 y_34)
      else
      X11_judge_p28 st_33 v1 (-3 : Int32))
    else
    X11_judge_p27 st_33 v1 y_34
abbrev rmX11_judge : Room := { frames := 7, cells := 0, slots := 0, locals := 151 }
theorem hdX11_judge : yX11_judge.cls = RX11 ∧ yX11_judge.cls ≠ "java/lang/invoke/MethodHandle" ∧ yX11_judge.cls ≠ "java/lang/invoke/VarHandle" ∧ (parseMethodDescriptor yX11_judge.desc).map (fun d => d.parameters.length) = some 1 := by decide +kernel
set_option maxRecDepth 100000 in
set_option maxHeartbeats 4000000 in
theorem okX11_judge (l : Launch) (D : va_G) (a : Nat → Nat) (T : mT3) {st : MS} {v1 : Int32} {r : Int32} {st' : MS} (heq : X11_judge st v1 = some (r, st')) : gCi l D (mT T) yX11_judge wsX11_judge rmX11_judge [.ref (a 0), .int v1] (mW a T st) r (mW a T st') := by
  refine g_body_i (by decide) rfl (Nat.le_of_ble_eq_true rfl) (fun p e s m args below meth c A Q hx hb hml hown hts hK hA hret ls hP hD hS hl => ?_)
  have hl : lv_has ls 9 [(0, .ref (a 0)), (1, .int v1)] := hl
  have hin : ∀ w ∈ wsX110, w ∈ wsX11_judge := fun w h => List.mem_cons_of_mem _ (List.mem_append_right _ h)
  have f43 : (Cond.fieldLink RX11 43 RX11 (TX11 15).2.1 (TX11 15).2.2.1).before args s = true := hts (.fieldLink RX11 43 "LaidDownTheLaneModel" "rowMany" "[I") (by decide +kernel)
  have f46 : (Cond.fieldLink RX11 46 RX11 (TX11 16).2.1 (TX11 16).2.2.1).before args s = true := hts (.fieldLink RX11 46 "LaidDownTheLaneModel" "rows" "[J") (by decide +kernel)
  have f75 : (Cond.fieldLink RX11 75 RX11 (TX11 17).2.1 (TX11 17).2.2.1).before args s = true := hts (.fieldLink RX11 75 "LaidDownTheLaneModel" "thrown" "I") (by decide +kernel)
  have f89 : (Cond.fieldLink RX11 89 RX11 (TX11 5).2.1 (TX11 5).2.2.1).before args s = true := hts (.fieldLink RX11 89 "LaidDownTheLaneModel" "isLit" "Z") (by decide +kernel)
  have f93 : (Cond.fieldLink RX11 93 RX11 (TX11 6).2.1 (TX11 6).2.2.1).before args s = true := hts (.fieldLink RX11 93 "LaidDownTheLaneModel" "minute" "I") (by decide +kernel)
  have f122 : (Cond.fieldLink RX11 122 RX11 (TX11 7).2.1 (TX11 7).2.2.1).before args s = true := hts (.fieldLink RX11 122 "LaidDownTheLaneModel" "isDown" "Z") (by decide +kernel)
  have b173 : ∀ (k53 : MS → Int32 → Int32 → Int32 → Int32 → Option (Int32 × MS)) (hk53 : ∀ (st : MS) (v1 : Int32) (v3 : Int32) (v4 : Int32) (v5 : Int32) (H : Heap) (locs : List Loc) (ls : Array Slot), va_P D vwCl (mW a T st) H → va_D A (mW a T st) → va_S A s.heap H locs → lv_has ls 9 [(0, .ref (a 0)), (1, .int v1), (3, .int v3), (4, .int v4), (5, .int v5)] → k53 st v1 v3 v4 v5 = some (r, st') → W p l e rmX11_judge s m args below meth c H locs 0 0 Q (F0 m 53 ls [])), ∀ (st : MS) (v1 : Int32) (v4 : Int32) (v5 : Int32) (t0 : Int32) (H : Heap) (locs : List Loc) (ls : Array Slot), va_P D vwCl (mW a T st) H → va_D A (mW a T st) → va_S A s.heap H locs → lv_has ls 9 [(0, .ref (a 0)), (1, .int v1), (4, .int v4), (5, .int v5)] → X11_judge_p173 k53 st v1 v4 v5 t0 = some (r, st') → W p l e rmX11_judge s m args below meth c H locs 0 0 Q (F0 m 173 ls [.int t0]) := by
    intro k53 hk53 st v1 v4 v5 t0 H locs ls hP hD hS hl heq
    unfold X11_judge_p173 at heq
    refine lv_istore_n (lv' := [(3, .int t0), (0, .ref (a 0)), (1, .int v1), (4, .int v4), (5, .int v5)]) hx hb dX11_judge_173 rfl hl (by decide) rfl (fun ls hl => ?_)
    obtain ⟨x_1, ex_1⟩ : ∃ y : Int32, y = v5 + (1 : Int32) := ⟨_, rfl⟩
    have heq := nm_h ex_1 heq
    refine lv_iinc (v := x_1) (lv' := [(5, .int x_1), (3, .int t0), (0, .ref (a 0)), (1, .int v1), (4, .int v4)]) hx hb dX11_judge_174 hl (k := 4) rfl (by rw [ex_1]; rfl) (by decide) rfl (fun ls hl => ?_)
    refine lv_goto (tgt := 53) hx hb dX11_judge_177 (by decide) ?_
    exact hk53 st v1 t0 v4 x_1 H locs ls hP hD hS (lv_sub hl [2, 3, 1, 4, 0] rfl) heq
  have b159 : ∀ (k53 : MS → Int32 → Int32 → Int32 → Int32 → Option (Int32 × MS)) (hk53 : ∀ (st : MS) (v1 : Int32) (v3 : Int32) (v4 : Int32) (v5 : Int32) (H : Heap) (locs : List Loc) (ls : Array Slot), va_P D vwCl (mW a T st) H → va_D A (mW a T st) → va_S A s.heap H locs → lv_has ls 9 [(0, .ref (a 0)), (1, .int v1), (3, .int v3), (4, .int v4), (5, .int v5)] → k53 st v1 v3 v4 v5 = some (r, st') → W p l e rmX11_judge s m args below meth c H locs 0 0 Q (F0 m 53 ls [])), ∀ (st : MS) (v1 : Int32) (v4 : Int32) (v5 : Int32) (t0 : Int32) (H : Heap) (locs : List Loc) (ls : Array Slot), va_P D vwCl (mW a T st) H → va_D A (mW a T st) → va_S A s.heap H locs → lv_has ls 9 [(0, .ref (a 0)), (1, .int v1), (4, .int v4), (5, .int v5)] → X11_judge_p159 k53 st v1 v4 v5 t0 = some (r, st') → W p l e rmX11_judge s m args below meth c H locs 0 0 Q (F0 m 159 ls [.int t0]) := by
    intro k53 hk53 st v1 v4 v5 t0 H locs ls hP hD hS hl heq
    unfold X11_judge_p159 at heq
    refine lv_istore (lv' := [(8, .int t0), (0, .ref (a 0)), (1, .int v1), (4, .int v4), (5, .int v5)]) hx hb dX11_judge_159 hl (by decide) rfl (fun ls hl => ?_)
    refine lv_iload hx hb dX11_judge_161 (lv_at hl 0 rfl) ?_
    refine lv_if_eq (tgt := 171) hx hb dX11_judge_163 (by decide) (fun c_2 => ?_) (fun c_2 => ?_)
    · have heq := it_t c_2 heq
      refine lv_iload hx hb dX11_judge_171 (lv_at hl 4 rfl) ?_
      exact b173 k53 hk53 st v1 v4 v5 v5 H locs ls hP hD hS (lv_sub hl [1, 2, 3, 4] rfl) heq
    have heq := it_f c_2 heq
    refine lv_bipush (v := (-4 : Int32)) hx hb dX11_judge_166 (by decide) ?_
    refine lv_goto (tgt := 173) hx hb dX11_judge_168 (by decide) ?_
    exact b173 k53 hk53 st v1 v4 v5 (-4 : Int32) H locs ls hP hD hS (lv_sub hl [1, 2, 3, 4] rfl) heq
  have b154 : ∀ (k53 : MS → Int32 → Int32 → Int32 → Int32 → Option (Int32 × MS)) (hk53 : ∀ (st : MS) (v1 : Int32) (v3 : Int32) (v4 : Int32) (v5 : Int32) (H : Heap) (locs : List Loc) (ls : Array Slot), va_P D vwCl (mW a T st) H → va_D A (mW a T st) → va_S A s.heap H locs → lv_has ls 9 [(0, .ref (a 0)), (1, .int v1), (3, .int v3), (4, .int v4), (5, .int v5)] → k53 st v1 v3 v4 v5 = some (r, st') → W p l e rmX11_judge s m args below meth c H locs 0 0 Q (F0 m 53 ls [])), ∀ (st : MS) (v1 : Int32) (v4 : Int32) (v5 : Int32) (H : Heap) (locs : List Loc) (ls : Array Slot), va_P D vwCl (mW a T st) H → va_D A (mW a T st) → va_S A s.heap H locs → lv_has ls 9 [(0, .ref (a 0)), (1, .int v1), (4, .int v4), (5, .int v5)] → X11_judge_p154 k53 st v1 v4 v5 = some (r, st') → W p l e rmX11_judge s m args below meth c H locs 0 0 Q (F0 m 154 ls []) := by
    intro k53 hk53 st v1 v4 v5 H locs ls hP hD hS hl heq
    unfold X11_judge_p154 at heq
    refine lv_iconst (v := (1 : Int32)) hx hb dX11_judge_154 (by decide) ?_
    refine lv_goto (tgt := 159) hx hb dX11_judge_155 (by decide) ?_
    exact b159 k53 hk53 st v1 v4 v5 (1 : Int32) H locs ls hP hD hS (lv_sub hl [0, 1, 2, 3] rfl) heq
  have b158 : ∀ (k53 : MS → Int32 → Int32 → Int32 → Int32 → Option (Int32 × MS)) (hk53 : ∀ (st : MS) (v1 : Int32) (v3 : Int32) (v4 : Int32) (v5 : Int32) (H : Heap) (locs : List Loc) (ls : Array Slot), va_P D vwCl (mW a T st) H → va_D A (mW a T st) → va_S A s.heap H locs → lv_has ls 9 [(0, .ref (a 0)), (1, .int v1), (3, .int v3), (4, .int v4), (5, .int v5)] → k53 st v1 v3 v4 v5 = some (r, st') → W p l e rmX11_judge s m args below meth c H locs 0 0 Q (F0 m 53 ls [])), ∀ (st : MS) (v1 : Int32) (v4 : Int32) (v5 : Int32) (H : Heap) (locs : List Loc) (ls : Array Slot), va_P D vwCl (mW a T st) H → va_D A (mW a T st) → va_S A s.heap H locs → lv_has ls 9 [(0, .ref (a 0)), (1, .int v1), (4, .int v4), (5, .int v5)] → X11_judge_p158 k53 st v1 v4 v5 = some (r, st') → W p l e rmX11_judge s m args below meth c H locs 0 0 Q (F0 m 158 ls []) := by
    intro k53 hk53 st v1 v4 v5 H locs ls hP hD hS hl heq
    unfold X11_judge_p158 at heq
    refine lv_iconst (v := (0 : Int32)) hx hb dX11_judge_158 (by decide) ?_
    exact b159 k53 hk53 st v1 v4 v5 (0 : Int32) H locs ls hP hD hS (lv_sub hl [0, 1, 2, 3] rfl) heq
  have b104 : ∀ (k53 : MS → Int32 → Int32 → Int32 → Int32 → Option (Int32 × MS)) (hk53 : ∀ (st : MS) (v1 : Int32) (v3 : Int32) (v4 : Int32) (v5 : Int32) (H : Heap) (locs : List Loc) (ls : Array Slot), va_P D vwCl (mW a T st) H → va_D A (mW a T st) → va_S A s.heap H locs → lv_has ls 9 [(0, .ref (a 0)), (1, .int v1), (3, .int v3), (4, .int v4), (5, .int v5)] → k53 st v1 v3 v4 v5 = some (r, st') → W p l e rmX11_judge s m args below meth c H locs 0 0 Q (F0 m 53 ls [])), ∀ (st : MS) (v1 : Int32) (v5 : Int32) (t0 : Int32) (H : Heap) (locs : List Loc) (ls : Array Slot), va_P D vwCl (mW a T st) H → va_D A (mW a T st) → va_S A s.heap H locs → lv_has ls 9 [(0, .ref (a 0)), (1, .int v1), (5, .int v5)] → X11_judge_p104 k53 st v1 v5 t0 = some (r, st') → W p l e rmX11_judge s m args below meth c H locs 0 0 Q (F0 m 104 ls [.int t0]) := by
    intro k53 hk53 st v1 v5 t0 H locs ls hP hD hS hl heq
    unfold X11_judge_p104 at heq
    refine lv_istore (lv' := [(4, .int t0), (0, .ref (a 0)), (1, .int v1), (5, .int v5)]) hx hb dX11_judge_104 hl (by decide) rfl (fun ls hl => ?_)
    refine lv_aload_n hx hb dX11_judge_106 rfl (lv_at hl 1 rfl) ?_
    refine mg (k := 16) (v := .ref (a 13)) hx hb hts hin hown hK hP (by decide) f46 rfl dX11_judge_107 rfl ?_
    refine lv_bipush (v := (100 : Int32)) hx hb dX11_judge_110 (by decide) ?_
    refine lv_iload_n hx hb dX11_judge_112 rfl (lv_at hl 2 rfl) ?_
    refine lv_imul hx hb dX11_judge_113 ?_
    refine lv_iload hx hb dX11_judge_114 (lv_at hl 3 rfl) ?_
    refine lv_iadd hx hb dX11_judge_116 ?_
    obtain ⟨n_3, heq⟩ := inr_h heq
    refine mll (k := 16) (q := 13) (n := 800) hx hb hK hP rfl n_3 dX11_judge_117 ?_
    refine lv_topl (fun x_4 ex_4 => ?_)
    have heq := nm_h ex_4 heq
    refine lv_lstore (lv' := [(6, .long x_4), (4, .int t0), (0, .ref (a 0)), (1, .int v1), (5, .int v5)]) hx hb dX11_judge_118 hl (by decide) rfl (fun ls hl => ?_)
    refine lv_lload hx hb dX11_judge_120 (lv_at hl 0 rfl) ?_
    refine lv_aload_n hx hb dX11_judge_122 rfl (lv_at hl 2 rfl) ?_
    refine lv_iload_n hx hb dX11_judge_123 rfl (lv_at hl 3 rfl) ?_
    obtain ⟨y_6, st_5, h_7, heq⟩ := bnd_h heq
    refine g_vl (own := RX11) (As := [.int v1]) (rest := [.long x_4]) hx hb hml hown hts (okX11_skipped l D a T h_7) (cwV 1 hts gX11_judge_X11_skipped rfl rfl rfl hdX11_skipped ⟨Nat.le_of_ble_eq_true rfl, Nat.le_of_ble_eq_true rfl⟩) hK hA hP hD hS (ci := 11) (q0 := 0) rfl rfl rfl hl.1 rfl (Nat.le_of_ble_eq_true rfl) dX11_judge_124 ⟨Nat.le_of_ble_eq_true rfl, Nat.le_of_ble_eq_true rfl⟩ (fun H locs hP hD hS => ?_)
    refine W.lcmp hx hb dX11_judge_127 ?_
    refine lv_if_eq (tgt := 154) hx hb dX11_judge_128 (by decide) (fun c_8 => ?_) (fun c_8 => ?_)
    · have heq := it_t c_8 heq
      exact b154 k53 hk53 st_5 v1 t0 v5 H locs ls hP hD hS (lv_sub hl [2, 3, 1, 4] rfl) heq
    have heq := it_f c_8 heq
    refine lv_iload hx hb dX11_judge_131 (lv_at hl 1 rfl) ?_
    refine lv_if_ne (tgt := 158) hx hb dX11_judge_133 (by decide) (fun c_9 => ?_) (fun c_9 => ?_)
    · have heq := it_f c_9 heq
      exact b158 k53 hk53 st_5 v1 t0 v5 H locs ls hP hD hS (lv_sub hl [2, 3, 1, 4] rfl) heq
    have heq := it_t c_9 heq
    refine lv_iload hx hb dX11_judge_136 (lv_at hl 4 rfl) ?_
    refine lv_bipush (v := (60 : Int32)) hx hb dX11_judge_138 (by decide) ?_
    refine lv_icmp_gt (tgt := 158) hx hb dX11_judge_140 (by decide) (fun c_10 => ?_) (fun c_10 => ?_)
    · have heq := it_t c_10 heq
      exact b158 k53 hk53 st_5 v1 t0 v5 H locs ls hP hD hS (lv_sub hl [2, 3, 1, 4] rfl) heq
    have heq := it_f c_10 heq
    refine lv_lload hx hb dX11_judge_143 (lv_at hl 0 rfl) ?_
    refine lv_aload_n hx hb dX11_judge_145 rfl (lv_at hl 2 rfl) ?_
    obtain ⟨y_12, st_11, h_13, heq⟩ := bnd_h heq
    refine g_vi (own := RX11) (As := []) (rest := [.long x_4]) hx hb hml hown hts (okX11_bearing l D a T h_13) (cwV 0 hts gX11_judge_X11_bearing rfl rfl rfl hdX11_bearing ⟨Nat.le_of_ble_eq_true rfl, Nat.le_of_ble_eq_true rfl⟩) hK hA hP hD hS (ci := 11) (q0 := 0) rfl rfl rfl hl.1 rfl (Nat.le_of_ble_eq_true rfl) dX11_judge_146 ⟨Nat.le_of_ble_eq_true rfl, Nat.le_of_ble_eq_true rfl⟩ (fun H locs hP hD hS => ?_)
    refine lv_i2l hx hb dX11_judge_149 rfl ?_
    refine W.lcmp hx hb dX11_judge_150 ?_
    refine lv_if_ne (tgt := 158) hx hb dX11_judge_151 (by decide) (fun c_14 => ?_) (fun c_14 => ?_)
    · have heq := it_f c_14 heq
      exact b158 k53 hk53 st_11 v1 t0 v5 H locs ls hP hD hS (lv_sub hl [2, 3, 1, 4] rfl) heq
    have heq := it_t c_14 heq
    exact b154 k53 hk53 st_11 v1 t0 v5 H locs ls hP hD hS (lv_sub hl [2, 3, 1, 4] rfl) heq
  have b99 : ∀ (k53 : MS → Int32 → Int32 → Int32 → Int32 → Option (Int32 × MS)) (hk53 : ∀ (st : MS) (v1 : Int32) (v3 : Int32) (v4 : Int32) (v5 : Int32) (H : Heap) (locs : List Loc) (ls : Array Slot), va_P D vwCl (mW a T st) H → va_D A (mW a T st) → va_S A s.heap H locs → lv_has ls 9 [(0, .ref (a 0)), (1, .int v1), (3, .int v3), (4, .int v4), (5, .int v5)] → k53 st v1 v3 v4 v5 = some (r, st') → W p l e rmX11_judge s m args below meth c H locs 0 0 Q (F0 m 53 ls [])), ∀ (st : MS) (v1 : Int32) (v5 : Int32) (H : Heap) (locs : List Loc) (ls : Array Slot), va_P D vwCl (mW a T st) H → va_D A (mW a T st) → va_S A s.heap H locs → lv_has ls 9 [(0, .ref (a 0)), (1, .int v1), (5, .int v5)] → X11_judge_p99 k53 st v1 v5 = some (r, st') → W p l e rmX11_judge s m args below meth c H locs 0 0 Q (F0 m 99 ls []) := by
    intro k53 hk53 st v1 v5 H locs ls hP hD hS hl heq
    unfold X11_judge_p99 at heq
    refine lv_iconst (v := (1 : Int32)) hx hb dX11_judge_99 (by decide) ?_
    refine lv_goto (tgt := 104) hx hb dX11_judge_100 (by decide) ?_
    exact b104 k53 hk53 st v1 v5 (1 : Int32) H locs ls hP hD hS (lv_sub hl [0, 1, 2] rfl) heq
  have b83 : ∀ (k53 : MS → Int32 → Int32 → Int32 → Int32 → Option (Int32 × MS)) (hk53 : ∀ (st : MS) (v1 : Int32) (v3 : Int32) (v4 : Int32) (v5 : Int32) (H : Heap) (locs : List Loc) (ls : Array Slot), va_P D vwCl (mW a T st) H → va_D A (mW a T st) → va_S A s.heap H locs → lv_has ls 9 [(0, .ref (a 0)), (1, .int v1), (3, .int v3), (4, .int v4), (5, .int v5)] → k53 st v1 v3 v4 v5 = some (r, st') → W p l e rmX11_judge s m args below meth c H locs 0 0 Q (F0 m 53 ls [])), ∀ (st : MS) (v1 : Int32) (v4 : Int32) (v5 : Int32) (t1 : Int32) (t2 : Int32) (H : Heap) (locs : List Loc) (ls : Array Slot), va_P D vwCl (mW a T st) H → va_D A (mW a T st) → va_S A s.heap H locs → lv_has ls 9 [(0, .ref (a 0)), (1, .int v1), (4, .int v4), (5, .int v5)] → X11_judge_p83 k53 st v1 v4 v5 t1 t2 = some (r, st') → W p l e rmX11_judge s m args below meth c H locs 0 0 Q (F0 m 83 ls [.int t2, .int t1, .ref (a 0)]) := by
    intro k53 hk53 st v1 v4 v5 t1 t2 H locs ls hP hD hS hl heq
    unfold X11_judge_p83 at heq
    refine lv_iadd hx hb dX11_judge_83 ?_
    refine mp (k := 6) hx hb hts hin hown hK hP hD hS (by decide) f93 dX11_judge_84 rfl rfl rfl rfl (mset_6 ..) (fun H locs hP hD hS => ?_)
    obtain ⟨st_15, est_15⟩ : ∃ z, z = sF st 6 (t1 + t2) := ⟨_, rfl⟩
    rw [← est_15] at hP hD
    have heq := nm_h est_15 heq
    refine lv_iload hx hb dX11_judge_87 (lv_at hl 2 rfl) ?_
    refine lv_if_ne (tgt := 99) hx hb dX11_judge_89 (by decide) (fun c_16 => ?_) (fun c_16 => ?_)
    · have heq := it_f c_16 heq
      exact b99 k53 hk53 st_15 v1 v5 H locs ls hP hD hS (lv_sub hl [0, 1, 3] rfl) heq
    have heq := it_t c_16 heq
    refine lv_aload_n hx hb dX11_judge_92 rfl (lv_at hl 0 rfl) ?_
    obtain ⟨y_18, st_17, h_19, heq⟩ := bnd_h heq
    refine g_vi (own := RX11) (As := []) (rest := []) hx hb hml hown hts (okX11_stands l D a T h_19) (cwV 0 hts gX11_judge_X11_stands rfl rfl rfl hdX11_stands ⟨Nat.le_of_ble_eq_true rfl, Nat.le_of_ble_eq_true rfl⟩) hK hA hP hD hS (ci := 11) (q0 := 0) rfl rfl rfl hl.1 rfl (Nat.le_of_ble_eq_true rfl) dX11_judge_93 ⟨Nat.le_of_ble_eq_true rfl, Nat.le_of_ble_eq_true rfl⟩ (fun H locs hP hD hS => ?_)
    refine lv_if_ne (tgt := 103) hx hb dX11_judge_96 (by decide) (fun c_20 => ?_) (fun c_20 => ?_)
    · have heq := it_f c_20 heq
      refine lv_iconst (v := (0 : Int32)) hx hb dX11_judge_103 (by decide) ?_
      exact b104 k53 hk53 st_17 v1 v5 (0 : Int32) H locs ls hP hD hS (lv_sub hl [0, 1, 3] rfl) heq
    have heq := it_t c_20 heq
    exact b99 k53 hk53 st_17 v1 v5 H locs ls hP hD hS (lv_sub hl [0, 1, 3] rfl) heq
  have b180 : ∀ (st : MS) (v3 : Int32) (H : Heap) (locs : List Loc) (ls : Array Slot), va_P D vwCl (mW a T st) H → va_D A (mW a T st) → va_S A s.heap H locs → lv_has ls 9 [(0, .ref (a 0)), (3, .int v3)] → X11_judge_p180  st v3 = some (r, st') → W p l e rmX11_judge s m args below meth c H locs 0 0 Q (F0 m 180 ls []) := by
    intro st v3 H locs ls hP hD hS hl heq
    unfold X11_judge_p180 at heq
    refine lv_aload_n hx hb dX11_judge_180 rfl (lv_at hl 0 rfl) ?_
    obtain ⟨⟨⟩, st_21, h_22, heq⟩ := bnd_h heq
    refine g_vv (own := RX11) (As := []) (rest := []) hx hb hml hown hts (okX11_close l D a T h_22) (cwV 0 hts gX11_judge_X11_close rfl rfl rfl hdX11_close ⟨Nat.le_of_ble_eq_true rfl, Nat.le_of_ble_eq_true rfl⟩) hK hA hP hD hS (ci := 11) (q0 := 0) rfl rfl rfl hl.1 rfl (Nat.le_of_ble_eq_true rfl) dX11_judge_181 ⟨Nat.le_of_ble_eq_true rfl, Nat.le_of_ble_eq_true rfl⟩ (fun H locs hP hD hS => ?_)
    refine lv_iload_n hx hb dX11_judge_184 rfl (lv_at hl 1 rfl) ?_
    obtain ⟨heq, heq2⟩ := ret_h heq
    subst heq
    subst heq2
    exact hret 185 H locs ls hP hD hS rfl dX11_judge_185
  have b53 : ∀ (n : Nat), ∀ (st : MS) (v1 : Int32) (v3 : Int32) (v4 : Int32) (v5 : Int32) (H : Heap) (locs : List Loc) (ls : Array Slot), va_P D vwCl (mW a T st) H → va_D A (mW a T st) → va_S A s.heap H locs → lv_has ls 9 [(0, .ref (a 0)), (1, .int v1), (3, .int v3), (4, .int v4), (5, .int v5)] → X11_judge_p53  n st v1 v3 v4 v5 = some (r, st') → W p l e rmX11_judge s m args below meth c H locs 0 0 Q (F0 m 53 ls []) := by
    intro n
    induction n with
    | zero => intro st v1 v3 v4 v5 H locs ls hP hD hS hl heq; cases heq
    | succ n ih =>
      intro st v1 v3 v4 v5 H locs ls hP hD hS hl heq
      rw [X11_judge_p53_s] at heq
      refine lv_iload hx hb dX11_judge_53 (lv_at hl 4 rfl) ?_
      refine lv_aload_n hx hb dX11_judge_55 rfl (lv_at hl 0 rfl) ?_
      refine mg (k := 15) (v := .ref (a 12)) hx hb hts hin hown hK hP (by decide) f43 rfl dX11_judge_56 rfl ?_
      refine lv_iload_n hx hb dX11_judge_59 rfl (lv_at hl 1 rfl) ?_
      obtain ⟨n_23, heq⟩ := inr_h heq
      refine mal (k := 15) (q := 12) (n := 8) hx hb hK hP rfl n_23 dX11_judge_60 ?_
      refine lv_icmp_ge (tgt := 180) hx hb dX11_judge_61 (by decide) (fun c_24 => ?_) (fun c_24 => ?_)
      · have heq := it_t c_24 heq
        exact b180 st v3 H locs ls hP hD hS (lv_sub hl [0, 2] rfl) heq
      have heq := it_f c_24 heq
      refine lv_iload_n hx hb dX11_judge_64 rfl (lv_at hl 2 rfl) ?_
      refine lv_if_ge (tgt := 180) hx hb dX11_judge_65 (by decide) (fun c_25 => ?_) (fun c_25 => ?_)
      · have heq := it_t c_25 heq
        exact b180 st v3 H locs ls hP hD hS (lv_sub hl [0, 2] rfl) heq
      have heq := it_f c_25 heq
      refine lv_aload_n hx hb dX11_judge_68 rfl (lv_at hl 0 rfl) ?_
      refine lv_dup hx hb dX11_judge_69 rfl ?_
      refine mg (k := 6) (v := .int (gF st 6)) hx hb hts hin hown hK hP (by decide) f93 rfl dX11_judge_70 rfl ?_
      refine lv_iload hx hb dX11_judge_73 (lv_at hl 4 rfl) ?_
      refine lv_if_le (tgt := 82) hx hb dX11_judge_75 (by decide) (fun c_26 => ?_) (fun c_26 => ?_)
      · have heq := it_t c_26 heq
        refine lv_iconst (v := (0 : Int32)) hx hb dX11_judge_82 (by decide) ?_
        exact b83 (fun st v1 v3 v4 v5 => X11_judge_p53  n st v1 v3 v4 v5) ih st v1 v4 v5 (gF st 6) (0 : Int32) H locs ls hP hD hS (lv_sub hl [0, 1, 3, 4] rfl) heq
      have heq := it_f c_26 heq
      refine lv_iconst (v := (1 : Int32)) hx hb dX11_judge_78 (by decide) ?_
      refine lv_goto (tgt := 83) hx hb dX11_judge_79 (by decide) ?_
      exact b83 (fun st v1 v3 v4 v5 => X11_judge_p53  n st v1 v3 v4 v5) ih st v1 v4 v5 (gF st 6) (1 : Int32) H locs ls hP hD hS (lv_sub hl [0, 1, 3, 4] rfl) heq
  have b28 : ∀ (st : MS) (v1 : Int32) (t0 : Int32) (H : Heap) (locs : List Loc) (ls : Array Slot), va_P D vwCl (mW a T st) H → va_D A (mW a T st) → va_S A s.heap H locs → lv_has ls 9 [(0, .ref (a 0)), (1, .int v1)] → X11_judge_p28  st v1 t0 = some (r, st') → W p l e rmX11_judge s m args below meth c H locs 0 0 Q (F0 m 28 ls [.int t0]) := by
    intro st v1 t0 H locs ls hP hD hS hl heq
    unfold X11_judge_p28 at heq
    refine lv_istore_n (lv' := [(2, .int t0), (0, .ref (a 0)), (1, .int v1)]) hx hb dX11_judge_28 rfl hl (by decide) rfl (fun ls hl => ?_)
    refine lv_iload_n hx hb dX11_judge_29 rfl (lv_at hl 0 rfl) ?_
    refine lv_if_ge (tgt := 35) hx hb dX11_judge_30 (by decide) (fun c_27 => ?_) (fun c_27 => ?_)
    · have heq := it_t c_27 heq
      refine lv_bipush (v := (-4 : Int32)) hx hb dX11_judge_35 (by decide) ?_
      refine lv_istore_n (lv' := [(3, .int (-4 : Int32)), (2, .int t0), (0, .ref (a 0)), (1, .int v1)]) hx hb dX11_judge_37 rfl hl (by decide) rfl (fun ls hl => ?_)
      refine lv_iconst (v := (0 : Int32)) hx hb dX11_judge_38 (by decide) ?_
      refine lv_istore (lv' := [(4, .int (0 : Int32)), (3, .int (-4 : Int32)), (2, .int t0), (0, .ref (a 0)), (1, .int v1)]) hx hb dX11_judge_39 hl (by decide) rfl (fun ls hl => ?_)
      refine lv_aload_n hx hb dX11_judge_41 rfl (lv_at hl 3 rfl) ?_
      obtain ⟨⟨⟩, st_28, h_29, heq⟩ := bnd_h heq
      refine g_vv (own := RX11) (As := []) (rest := []) hx hb hml hown hts (okX11_open l D a T h_29) (cwV 0 hts gX11_judge_X11_open rfl rfl rfl hdX11_open ⟨Nat.le_of_ble_eq_true rfl, Nat.le_of_ble_eq_true rfl⟩) hK hA hP hD hS (ci := 11) (q0 := 0) rfl rfl rfl hl.1 rfl (Nat.le_of_ble_eq_true rfl) dX11_judge_42 ⟨Nat.le_of_ble_eq_true rfl, Nat.le_of_ble_eq_true rfl⟩ (fun H locs hP hD hS => ?_)
      refine lv_aload_n hx hb dX11_judge_45 rfl (lv_at hl 3 rfl) ?_
      refine lv_iconst (v := (1 : Int32)) hx hb dX11_judge_46 (by decide) ?_
      obtain ⟨n_31, n_31f, heq⟩ := gz_h heq
      refine mp (k := 5) hx hb hts hin hown hK hP hD hS (by decide) f89 dX11_judge_47 rfl rfl n_31 n_31f (mset_5 ..) (fun H locs hP hD hS => ?_)
      obtain ⟨st_30, est_30⟩ : ∃ z, z = sF st_28 5 (1 : Int32) := ⟨_, rfl⟩
      rw [← est_30] at hP hD
      have heq := nm_h est_30 heq
      refine lv_iconst (v := (0 : Int32)) hx hb dX11_judge_50 (by decide) ?_
      refine lv_istore (lv' := [(5, .int (0 : Int32)), (4, .int (0 : Int32)), (3, .int (-4 : Int32)), (2, .int t0), (0, .ref (a 0)), (1, .int v1)]) hx hb dX11_judge_51 hl (by decide) rfl (fun ls hl => ?_)
      exact b53 5000 st_30 v1 (-4 : Int32) (0 : Int32) (0 : Int32) H locs ls hP hD hS (lv_sub hl [4, 5, 2, 1, 0] rfl) heq
    have heq := it_f c_27 heq
    refine lv_iload_n hx hb dX11_judge_33 rfl (lv_at hl 0 rfl) ?_
    obtain ⟨heq, heq2⟩ := ret_h heq
    subst heq
    subst heq2
    exact hret 34 H locs ls hP hD hS rfl dX11_judge_34
  have b27 : ∀ (st : MS) (v1 : Int32) (v2 : Int32) (H : Heap) (locs : List Loc) (ls : Array Slot), va_P D vwCl (mW a T st) H → va_D A (mW a T st) → va_S A s.heap H locs → lv_has ls 9 [(0, .ref (a 0)), (1, .int v1), (2, .int v2)] → X11_judge_p27  st v1 v2 = some (r, st') → W p l e rmX11_judge s m args below meth c H locs 0 0 Q (F0 m 27 ls []) := by
    intro st v1 v2 H locs ls hP hD hS hl heq
    unfold X11_judge_p27 at heq
    refine lv_iload_n hx hb dX11_judge_27 rfl (lv_at hl 2 rfl) ?_
    exact b28 st v1 v2 H locs ls hP hD hS (lv_sub hl [0, 1] rfl) heq
  obtain ⟨H, hH⟩ : ∃ H, H = s.heap := ⟨_, rfl⟩
  obtain ⟨locs, hlocs⟩ : ∃ z : List Loc, z = [] := ⟨_, rfl⟩
  have hS : va_S A s.heap H locs := by rw [hH, hlocs]; exact hS
  have hP : va_P D vwCl (mW a T st) H := by rw [hH]; exact hP
  suffices h9 : W p l e rmX11_judge s m args below meth c H locs 0 0 Q (F0 m 0 ls []) by rw [hH, hlocs] at h9; exact h9
  clear hH hlocs
  unfold X11_judge at heq
  refine lv_aload_n hx hb dX11_judge_0 rfl (lv_at hl 0 rfl) ?_
  refine lv_iconst (v := (0 : Int32)) hx hb dX11_judge_1 (by decide) ?_
  refine mp (k := 17) hx hb hts hin hown hK hP hD hS (by decide) f75 dX11_judge_2 rfl rfl rfl rfl (mset_17 ..) (fun H locs hP hD hS => ?_)
  obtain ⟨st_32, est_32⟩ : ∃ z, z = sF st 17 (0 : Int32) := ⟨_, rfl⟩
  rw [← est_32] at hP hD
  have heq := nm_h est_32 heq
  refine lv_aload_n hx hb dX11_judge_5 rfl (lv_at hl 0 rfl) ?_
  refine lv_iload_n hx hb dX11_judge_6 rfl (lv_at hl 1 rfl) ?_
  obtain ⟨y_34, st_33, h_35, heq⟩ := bnd_h heq
  refine g_vi (own := RX11) (As := [.int v1]) (rest := []) hx hb hml hown hts (okX11_wrongRow l D a T h_35) (cwV 1 hts gX11_judge_X11_wrongRow rfl rfl rfl hdX11_wrongRow ⟨Nat.le_of_ble_eq_true rfl, Nat.le_of_ble_eq_true rfl⟩) hK hA hP hD hS (ci := 11) (q0 := 0) rfl rfl rfl hl.1 rfl (Nat.le_of_ble_eq_true rfl) dX11_judge_7 ⟨Nat.le_of_ble_eq_true rfl, Nat.le_of_ble_eq_true rfl⟩ (fun H locs hP hD hS => ?_)
  refine lv_istore_n (lv' := [(2, .int y_34), (0, .ref (a 0)), (1, .int v1)]) hx hb dX11_judge_10 rfl hl (by decide) rfl (fun ls hl => ?_)
  refine lv_iload_n hx hb dX11_judge_11 rfl (lv_at hl 0 rfl) ?_
  refine lv_if_ne (tgt := 27) hx hb dX11_judge_12 (by decide) (fun c_36 => ?_) (fun c_36 => ?_)
  · have heq := it_f c_36 heq
    exact b27 st_33 v1 y_34 H locs ls hP hD hS (lv_sub hl [1, 2, 0] rfl) heq
  have heq := it_t c_36 heq
  refine lv_aload_n hx hb dX11_judge_15 rfl (lv_at hl 1 rfl) ?_
  refine mg (k := 7) (v := .int (gF st_33 7)) hx hb hts hin hown hK hP (by decide) f122 rfl dX11_judge_16 rfl ?_
  refine lv_if_eq (tgt := 27) hx hb dX11_judge_19 (by decide) (fun c_37 => ?_) (fun c_37 => ?_)
  · have heq := it_t c_37 heq
    exact b27 st_33 v1 y_34 H locs ls hP hD hS (lv_sub hl [1, 2, 0] rfl) heq
  have heq := it_f c_37 heq
  refine lv_bipush (v := (-3 : Int32)) hx hb dX11_judge_22 (by decide) ?_
  refine lv_goto (tgt := 28) hx hb dX11_judge_24 (by decide) ?_
  exact b28 st_33 v1 (-3 : Int32) H locs ls hP hD hS (lv_sub hl [1, 2] rfl) heq
theorem dX11_drawBelow_0 : decode cX11_drawBelow 0 = .ok (.aload_n 0, 1) := by decide +kernel
theorem dX11_drawBelow_1 : decode cX11_drawBelow 1 = .ok (.aload_n 0, 1) := by decide +kernel
theorem dX11_drawBelow_2 : decode cX11_drawBelow 2 = .ok (.getfield 323, 3) := by decide +kernel
theorem dX11_drawBelow_5 : decode cX11_drawBelow 5 = .ok (.ldc_w 326, 3) := by decide +kernel
theorem dX11_drawBelow_8 : decode cX11_drawBelow 8 = .ok (.imul, 1) := by decide +kernel
theorem dX11_drawBelow_9 : decode cX11_drawBelow 9 = .ok (.sipush 12345, 3) := by decide +kernel
theorem dX11_drawBelow_12 : decode cX11_drawBelow 12 = .ok (.iadd, 1) := by decide +kernel
theorem dX11_drawBelow_13 : decode cX11_drawBelow 13 = .ok (.putfield 323, 3) := by decide +kernel
theorem dX11_drawBelow_16 : decode cX11_drawBelow 16 = .ok (.aload_n 0, 1) := by decide +kernel
theorem dX11_drawBelow_17 : decode cX11_drawBelow 17 = .ok (.getfield 323, 3) := by decide +kernel
theorem dX11_drawBelow_20 : decode cX11_drawBelow 20 = .ok (.ldc_w 327, 3) := by decide +kernel
theorem dX11_drawBelow_23 : decode cX11_drawBelow 23 = .ok (.iand, 1) := by decide +kernel
theorem dX11_drawBelow_24 : decode cX11_drawBelow 24 = .ok (.ldc_w 328, 3) := by decide +kernel
theorem dX11_drawBelow_27 : decode cX11_drawBelow 27 = .ok (.idiv, 1) := by decide +kernel
theorem dX11_drawBelow_28 : decode cX11_drawBelow 28 = .ok (.iload_n 1, 1) := by decide +kernel
theorem dX11_drawBelow_29 : decode cX11_drawBelow 29 = .ok (.irem, 1) := by decide +kernel
theorem dX11_drawBelow_30 : decode cX11_drawBelow 30 = .ok (.ireturn, 1) := by decide +kernel
/-! drawBelow -/
def X11_drawBelow (st : MS) (v1 : Int32) : Option (Int32 × MS) :=
    nm (sF st 35 (((gF st 35) * (1103515245 : Int32)) + (12345 : Int32))) fun st_1 =>
    dvi (65536 : Int32) <|
    dvi v1 <|
    some (((((gF st_1 35) &&& (2147483647 : Int32)) / (65536 : Int32)) - (((gF st_1 35) &&& (2147483647 : Int32)) / (65536 : Int32)) / v1 * v1), st_1)
abbrev rmX11_drawBelow : Room := { frames := 0, cells := 0, slots := 0, locals := 0 }
theorem hdX11_drawBelow : yX11_drawBelow.cls = RX11 ∧ yX11_drawBelow.cls ≠ "java/lang/invoke/MethodHandle" ∧ yX11_drawBelow.cls ≠ "java/lang/invoke/VarHandle" ∧ (parseMethodDescriptor yX11_drawBelow.desc).map (fun d => d.parameters.length) = some 1 := by decide +kernel
set_option maxRecDepth 100000 in
set_option maxHeartbeats 4000000 in
theorem okX11_drawBelow (l : Launch) (D : va_G) (a : Nat → Nat) (T : mT3) {st : MS} {v1 : Int32} {r : Int32} {st' : MS} (heq : X11_drawBelow st v1 = some (r, st')) : gCi l D (mT T) yX11_drawBelow wsX11_drawBelow rmX11_drawBelow [.ref (a 0), .int v1] (mW a T st) r (mW a T st') := by
  refine g_body_i (by decide) rfl (Nat.le_of_ble_eq_true rfl) (fun p e s m args below meth c A Q hx hb hml hown hts hK hA hret ls hP hD hS hl => ?_)
  have hl : lv_has ls 2 [(0, .ref (a 0)), (1, .int v1)] := hl
  have hin : ∀ w ∈ wsX110, w ∈ wsX11_drawBelow := fun w h => List.mem_cons_of_mem _ (List.mem_append_right _ h)
  have f323 : (Cond.fieldLink RX11 323 RX11 (TX11 35).2.1 (TX11 35).2.2.1).before args s = true := hts (.fieldLink RX11 323 "LaidDownTheLaneModel" "seed" "I") (by decide +kernel)
  have c326 := hts (.constant RX11 326 (1103515245)) (by decide +kernel)
  have c327 := hts (.constant RX11 327 (2147483647)) (by decide +kernel)
  have c328 := hts (.constant RX11 328 (65536)) (by decide +kernel)
  obtain ⟨H, hH⟩ : ∃ H, H = s.heap := ⟨_, rfl⟩
  obtain ⟨locs, hlocs⟩ : ∃ z : List Loc, z = [] := ⟨_, rfl⟩
  have hS : va_S A s.heap H locs := by rw [hH, hlocs]; exact hS
  have hP : va_P D vwCl (mW a T st) H := by rw [hH]; exact hP
  suffices h9 : W p l e rmX11_drawBelow s m args below meth c H locs 0 0 Q (F0 m 0 ls []) by rw [hH, hlocs] at h9; exact h9
  clear hH hlocs
  unfold X11_drawBelow at heq
  refine lv_aload_n hx hb dX11_drawBelow_0 rfl (lv_at hl 0 rfl) ?_
  refine lv_aload_n hx hb dX11_drawBelow_1 rfl (lv_at hl 0 rfl) ?_
  refine mg (k := 35) (v := .int (gF st 35)) hx hb hts hin hown hK hP (by decide) f323 rfl dX11_drawBelow_2 rfl ?_
  refine lv_ldcw (v := (1103515245 : Int32)) hx hb hown c326 dX11_drawBelow_5 ?_
  refine lv_imul hx hb dX11_drawBelow_8 ?_
  refine lv_sipush (v := (12345 : Int32)) hx hb dX11_drawBelow_9 (by decide) ?_
  refine lv_iadd hx hb dX11_drawBelow_12 ?_
  refine mp (k := 35) hx hb hts hin hown hK hP hD hS (by decide) f323 dX11_drawBelow_13 rfl rfl rfl rfl (mset_35 ..) (fun H locs hP hD hS => ?_)
  obtain ⟨st_1, est_1⟩ : ∃ z, z = sF st 35 (((gF st 35) * (1103515245 : Int32)) + (12345 : Int32)) := ⟨_, rfl⟩
  rw [← est_1] at hP hD
  have heq := nm_h est_1 heq
  refine lv_aload_n hx hb dX11_drawBelow_16 rfl (lv_at hl 0 rfl) ?_
  refine mg (k := 35) (v := .int (gF st_1 35)) hx hb hts hin hown hK hP (by decide) f323 rfl dX11_drawBelow_17 rfl ?_
  refine lv_ldcw (v := (2147483647 : Int32)) hx hb hown c327 dX11_drawBelow_20 ?_
  refine lv_iand hx hb dX11_drawBelow_23 ?_
  refine lv_ldcw (v := (65536 : Int32)) hx hb hown c328 dX11_drawBelow_24 ?_
  obtain ⟨n_2, heq⟩ := dvi_h heq
  refine lv_idiv hx hb dX11_drawBelow_27 n_2 ?_
  refine lv_iload_n hx hb dX11_drawBelow_28 rfl (lv_at hl 1 rfl) ?_
  obtain ⟨n_3, heq⟩ := dvi_h heq
  refine lv_irem hx hb dX11_drawBelow_29 n_3 ?_
  obtain ⟨heq, heq2⟩ := ret_h heq
  subst heq
  subst heq2
  exact hret 30 H locs ls hP hD hS rfl dX11_drawBelow_30
set_option maxRecDepth 20000 in
theorem ggX11_days_X11_in : GoodIn wsX11_days wsX11_in := goodIn_r _ [10] (by decide +kernel) (by decide +kernel)
set_option maxRecDepth 20000 in
theorem gX11_days_X11_in : GoodIn wsX11_days (va_wsS RX11 81 yX11_in wsX11_in) := goodIn_app (goodIn_of _ (by decide +kernel)) ggX11_days_X11_in
set_option maxRecDepth 20000 in
theorem ggX11_days_X11_open : GoodIn wsX11_days wsX11_open := goodIn_r _ [14, 15, 16, 17, 18, 9, 19, 20, 21, 22, 23, 24, 3, 25, 5, 26, 27, 28, 29, 30, 31, 32, 33, 119, 120, 121, 122, 123, 124, 125, 126, 127, 128, 129, 130, 131, 132, 133, 134, 135, 136, 137, 138, 139, 140, 141, 142, 143, 144, 145, 146, 147, 148, 149, 150, 151, 152, 153, 154, 155] (by decide +kernel) (by decide +kernel)
set_option maxRecDepth 20000 in
theorem gX11_days_X11_open : GoodIn wsX11_days (wsV RX11 238 RX11 yX11_open wsX11_open) := goodIn_app (goodIn_of _ (by decide +kernel)) ggX11_days_X11_open
set_option maxRecDepth 20000 in
theorem ggX11_days_X11_drawBelow : GoodIn wsX11_days wsX11_drawBelow := goodIn_r _ [37, 4, 38, 39, 40, 119, 120, 121, 122, 123, 124, 125, 126, 127, 128, 129, 130, 131, 132, 133, 134, 135, 136, 137, 138, 139, 140, 141, 142, 143, 144, 145, 146, 147, 148, 149, 150, 151, 152, 153, 154, 155] (by decide +kernel) (by decide +kernel)
set_option maxRecDepth 20000 in
theorem gX11_days_X11_drawBelow : GoodIn wsX11_days (wsV RX11 331 RX11 yX11_drawBelow wsX11_drawBelow) := goodIn_app (goodIn_of _ (by decide +kernel)) ggX11_days_X11_drawBelow
set_option maxRecDepth 20000 in
theorem ggX11_days_X11_burnOn : GoodIn wsX11_days wsX11_burnOn := goodIn_r _ [44, 23, 45, 6, 24, 46, 47, 48, 9, 49, 50, 51, 52, 53, 54, 55, 56, 57, 58, 59, 60, 61, 5, 62, 63, 64, 65, 66, 67, 68, 69, 70, 71, 72, 73, 74, 75, 76, 77, 78, 79, 80, 27, 26, 81, 82, 83, 84, 119, 120, 121, 122, 123, 124, 125, 126, 127, 128, 129, 130, 131, 132, 133, 134, 135, 136, 137, 138, 139, 140, 141, 142, 143, 144, 145, 146, 147, 148, 149, 150, 151, 152, 153, 154, 155] (by decide +kernel) (by decide +kernel)
set_option maxRecDepth 20000 in
theorem gX11_days_X11_burnOn : GoodIn wsX11_days (wsV RX11 261 RX11 yX11_burnOn wsX11_burnOn) := goodIn_app (goodIn_of _ (by decide +kernel)) ggX11_days_X11_burnOn
set_option maxRecDepth 20000 in
theorem ggX11_days_X11_struckBy : GoodIn wsX11_days wsX11_struckBy := goodIn_r _ [88, 89, 90, 91, 9, 92, 25, 28, 29, 5, 93, 94, 95, 96, 24, 97, 98, 99, 100, 101, 102, 103, 104, 105, 106, 107, 108, 109, 110, 111, 119, 120, 121, 122, 123, 124, 125, 126, 127, 128, 129, 130, 131, 132, 133, 134, 135, 136, 137, 138, 139, 140, 141, 142, 143, 144, 145, 146, 147, 148, 149, 150, 151, 152, 153, 154, 155] (by decide +kernel) (by decide +kernel)
set_option maxRecDepth 20000 in
theorem gX11_days_X11_struckBy : GoodIn wsX11_days (wsV RX11 301 RX11 yX11_struckBy wsX11_struckBy) := goodIn_app (goodIn_of _ (by decide +kernel)) ggX11_days_X11_struckBy
set_option maxRecDepth 20000 in
theorem ggX11_days_X11_onesOf : GoodIn wsX11_days wsX11_onesOf := goodIn_r _ [114] (by decide +kernel) (by decide +kernel)
set_option maxRecDepth 20000 in
theorem gX11_days_X11_onesOf : GoodIn wsX11_days (va_wsS RX11 244 yX11_onesOf wsX11_onesOf) := goodIn_app (goodIn_of _ (by decide +kernel)) ggX11_days_X11_onesOf
set_option maxRecDepth 20000 in
theorem ggX11_days_X11_close : GoodIn wsX11_days wsX11_close := goodIn_r _ [118, 15, 16, 17, 18, 9, 19, 20, 21, 22, 23, 24, 3, 25, 5, 26, 27, 28, 29, 30, 31, 32, 33, 119, 120, 121, 122, 123, 124, 125, 126, 127, 128, 129, 130, 131, 132, 133, 134, 135, 136, 137, 138, 139, 140, 141, 142, 143, 144, 145, 146, 147, 148, 149, 150, 151, 152, 153, 154, 155] (by decide +kernel) (by decide +kernel)
set_option maxRecDepth 20000 in
theorem gX11_days_X11_close : GoodIn wsX11_days (wsV RX11 241 RX11 yX11_close wsX11_close) := goodIn_app (goodIn_of _ (by decide +kernel)) ggX11_days_X11_close
theorem dX11_days_0 : decode cX11_days 0 = .ok (.aload_n 0, 1) := by decide +kernel
theorem dX11_days_1 : decode cX11_days 1 = .ok (.iconst 0, 1) := by decide +kernel
theorem dX11_days_2 : decode cX11_days 2 = .ok (.putfield 75, 3) := by decide +kernel
theorem dX11_days_5 : decode cX11_days 5 = .ok (.iload_n 1, 1) := by decide +kernel
theorem dX11_days_6 : decode cX11_days 6 = .ok (.i2l, 1) := by decide +kernel
theorem dX11_days_7 : decode cX11_days 7 = .ok (.lconst 1, 1) := by decide +kernel
theorem dX11_days_8 : decode cX11_days 8 = .ok (.ldc2_w 329, 3) := by decide +kernel
theorem dX11_days_11 : decode cX11_days 11 = .ok (.invokestatic 81, 3) := by decide +kernel
theorem dX11_days_14 : decode cX11_days 14 = .ok (.ifCond .eq 13, 3) := by decide +kernel
theorem dX11_days_17 : decode cX11_days 17 = .ok (.iload_n 3, 1) := by decide +kernel
theorem dX11_days_18 : decode cX11_days 18 = .ok (.i2l, 1) := by decide +kernel
theorem dX11_days_19 : decode cX11_days 19 = .ok (.lconst 0, 1) := by decide +kernel
theorem dX11_days_20 : decode cX11_days 20 = .ok (.lconst 1, 1) := by decide +kernel
theorem dX11_days_21 : decode cX11_days 21 = .ok (.invokestatic 81, 3) := by decide +kernel
theorem dX11_days_24 : decode cX11_days 24 = .ok (.ifCond .ne 5, 3) := by decide +kernel
theorem dX11_days_27 : decode cX11_days 27 = .ok (.iconst (-1), 1) := by decide +kernel
theorem dX11_days_28 : decode cX11_days 28 = .ok (.ireturn, 1) := by decide +kernel
theorem dX11_days_29 : decode cX11_days 29 = .ok (.aload_n 0, 1) := by decide +kernel
theorem dX11_days_30 : decode cX11_days 30 = .ok (.getfield 122, 3) := by decide +kernel
theorem dX11_days_33 : decode cX11_days 33 = .ok (.ifCond .eq 6, 3) := by decide +kernel
theorem dX11_days_36 : decode cX11_days 36 = .ok (.bipush (-3), 2) := by decide +kernel
theorem dX11_days_38 : decode cX11_days 38 = .ok (.ireturn, 1) := by decide +kernel
theorem dX11_days_39 : decode cX11_days 39 = .ok (.aload_n 0, 1) := by decide +kernel
theorem dX11_days_40 : decode cX11_days 40 = .ok (.iload_n 2, 1) := by decide +kernel
theorem dX11_days_41 : decode cX11_days 41 = .ok (.putfield 323, 3) := by decide +kernel
theorem dX11_days_44 : decode cX11_days 44 = .ok (.iconst 0, 1) := by decide +kernel
theorem dX11_days_45 : decode cX11_days 45 = .ok (.istore 4, 2) := by decide +kernel
theorem dX11_days_47 : decode cX11_days 47 = .ok (.iconst 0, 1) := by decide +kernel
theorem dX11_days_48 : decode cX11_days 48 = .ok (.istore 5, 2) := by decide +kernel
theorem dX11_days_50 : decode cX11_days 50 = .ok (.aload_n 0, 1) := by decide +kernel
theorem dX11_days_51 : decode cX11_days 51 = .ok (.invokevirtual 238, 3) := by decide +kernel
theorem dX11_days_54 : decode cX11_days 54 = .ok (.iconst 0, 1) := by decide +kernel
theorem dX11_days_55 : decode cX11_days 55 = .ok (.istore 6, 2) := by decide +kernel
theorem dX11_days_57 : decode cX11_days 57 = .ok (.iload 6, 2) := by decide +kernel
theorem dX11_days_59 : decode cX11_days 59 = .ok (.iload_n 1, 1) := by decide +kernel
theorem dX11_days_60 : decode cX11_days 60 = .ok (.if_icmp .ge 92, 3) := by decide +kernel
theorem dX11_days_63 : decode cX11_days 63 = .ok (.aload_n 0, 1) := by decide +kernel
theorem dX11_days_64 : decode cX11_days 64 = .ok (.getfield 22, 3) := by decide +kernel
theorem dX11_days_67 : decode cX11_days 67 = .ok (.iconst 2, 1) := by decide +kernel
theorem dX11_days_68 : decode cX11_days 68 = .ok (.aload_n 0, 1) := by decide +kernel
theorem dX11_days_69 : decode cX11_days 69 = .ok (.bipush 12, 2) := by decide +kernel
theorem dX11_days_71 : decode cX11_days 71 = .ok (.invokevirtual 331, 3) := by decide +kernel
theorem dX11_days_74 : decode cX11_days 74 = .ok (.iastore, 1) := by decide +kernel
theorem dX11_days_75 : decode cX11_days 75 = .ok (.aload_n 0, 1) := by decide +kernel
theorem dX11_days_76 : decode cX11_days 76 = .ok (.getfield 22, 3) := by decide +kernel
theorem dX11_days_79 : decode cX11_days 79 = .ok (.iconst 3, 1) := by decide +kernel
theorem dX11_days_80 : decode cX11_days 80 = .ok (.aload_n 0, 1) := by decide +kernel
theorem dX11_days_81 : decode cX11_days 81 = .ok (.bipush 21, 2) := by decide +kernel
theorem dX11_days_83 : decode cX11_days 83 = .ok (.invokevirtual 331, 3) := by decide +kernel
theorem dX11_days_86 : decode cX11_days 86 = .ok (.iastore, 1) := by decide +kernel
theorem dX11_days_87 : decode cX11_days 87 = .ok (.aload_n 0, 1) := by decide +kernel
theorem dX11_days_88 : decode cX11_days 88 = .ok (.invokevirtual 261, 3) := by decide +kernel
theorem dX11_days_91 : decode cX11_days 91 = .ok (.iload 4, 2) := by decide +kernel
theorem dX11_days_93 : decode cX11_days 93 = .ok (.aload_n 0, 1) := by decide +kernel
theorem dX11_days_94 : decode cX11_days 94 = .ok (.getfield 258, 3) := by decide +kernel
theorem dX11_days_97 : decode cX11_days 97 = .ok (.aload_n 0, 1) := by decide +kernel
theorem dX11_days_98 : decode cX11_days 98 = .ok (.getfield 22, 3) := by decide +kernel
theorem dX11_days_101 : decode cX11_days 101 = .ok (.bipush 6, 2) := by decide +kernel
theorem dX11_days_103 : decode cX11_days 103 = .ok (.iaload, 1) := by decide +kernel
theorem dX11_days_104 : decode cX11_days 104 = .ok (.if_icmp .ne 7, 3) := by decide +kernel
theorem dX11_days_107 : decode cX11_days 107 = .ok (.iconst 1, 1) := by decide +kernel
theorem dX11_days_108 : decode cX11_days 108 = .ok (.goto 4, 3) := by decide +kernel
theorem dX11_days_111 : decode cX11_days 111 = .ok (.iconst 0, 1) := by decide +kernel
theorem dX11_days_112 : decode cX11_days 112 = .ok (.iadd, 1) := by decide +kernel
theorem dX11_days_113 : decode cX11_days 113 = .ok (.istore 4, 2) := by decide +kernel
theorem dX11_days_115 : decode cX11_days 115 = .ok (.iload 5, 2) := by decide +kernel
theorem dX11_days_117 : decode cX11_days 117 = .ok (.aload_n 0, 1) := by decide +kernel
theorem dX11_days_118 : decode cX11_days 118 = .ok (.getfield 258, 3) := by decide +kernel
theorem dX11_days_121 : decode cX11_days 121 = .ok (.ifCond .ge 7, 3) := by decide +kernel
theorem dX11_days_124 : decode cX11_days 124 = .ok (.iconst 0, 1) := by decide +kernel
theorem dX11_days_125 : decode cX11_days 125 = .ok (.goto 14, 3) := by decide +kernel
theorem dX11_days_128 : decode cX11_days 128 = .ok (.aload_n 0, 1) := by decide +kernel
theorem dX11_days_129 : decode cX11_days 129 = .ok (.aload_n 0, 1) := by decide +kernel
theorem dX11_days_130 : decode cX11_days 130 = .ok (.getfield 258, 3) := by decide +kernel
theorem dX11_days_133 : decode cX11_days 133 = .ok (.invokevirtual 301, 3) := by decide +kernel
theorem dX11_days_136 : decode cX11_days 136 = .ok (.invokestatic 244, 3) := by decide +kernel
theorem dX11_days_139 : decode cX11_days 139 = .ok (.iadd, 1) := by decide +kernel
theorem dX11_days_140 : decode cX11_days 140 = .ok (.istore 5, 2) := by decide +kernel
theorem dX11_days_142 : decode cX11_days 142 = .ok (.aload_n 0, 1) := by decide +kernel
theorem dX11_days_143 : decode cX11_days 143 = .ok (.invokevirtual 241, 3) := by decide +kernel
theorem dX11_days_146 : decode cX11_days 146 = .ok (.iinc 6 1, 3) := by decide +kernel
theorem dX11_days_149 : decode cX11_days 149 = .ok (.goto (-92), 3) := by decide +kernel
theorem dX11_days_152 : decode cX11_days 152 = .ok (.iload_n 3, 1) := by decide +kernel
theorem dX11_days_153 : decode cX11_days 153 = .ok (.ifCond .ne 8, 3) := by decide +kernel
theorem dX11_days_156 : decode cX11_days 156 = .ok (.iload 4, 2) := by decide +kernel
theorem dX11_days_158 : decode cX11_days 158 = .ok (.goto 5, 3) := by decide +kernel
theorem dX11_days_161 : decode cX11_days 161 = .ok (.iload 5, 2) := by decide +kernel
theorem dX11_days_163 : decode cX11_days 163 = .ok (.ireturn, 1) := by decide +kernel
/-! days -/
def X11_days_p139 (k57 : MS → Int32 → Int32 → Int32 → Int32 → Int32 → Option (Int32 × MS)) (st : MS) (v1 : Int32) (v3 : Int32) (v4 : Int32) (v6 : Int32) (t0 : Int32) (t1 : Int32) : Option (Int32 × MS) :=
    nm ((t0 + t1)) fun x_1 =>
    bnd (X11_close st) fun _ st_2 =>
    nm (v6 + (1 : Int32)) fun x_4 =>
    k57 st_2 v1 v3 v4 x_1 x_4
def X11_days_p112 (k57 : MS → Int32 → Int32 → Int32 → Int32 → Int32 → Option (Int32 × MS)) (st : MS) (v1 : Int32) (v3 : Int32) (v5 : Int32) (v6 : Int32) (t0 : Int32) (t1 : Int32) : Option (Int32 × MS) :=
    nm ((t0 + t1)) fun x_5 =>
    if 0 ≤ (gF st 34) then
      (bnd (X11_struckBy st (gF st 34)) fun y_8 st_7 =>
      bd1 (X11_onesOf y_8) fun y_10 =>
      X11_days_p139 k57 st_7 v1 v3 x_5 v6 v5 y_10)
    else
    X11_days_p139 k57 st v1 v3 x_5 v6 v5 (0 : Int32)
def X11_days_p163 (st : MS) (t0 : Int32) : Option (Int32 × MS) :=
    some (t0, st)
def X11_days_p152 (st : MS) (v3 : Int32) (v4 : Int32) (v5 : Int32) : Option (Int32 × MS) :=
    if v3 = 0 then
      (X11_days_p163 st v4)
    else
    X11_days_p163 st v5
def X11_days_p57 : Nat → MS → Int32 → Int32 → Int32 → Int32 → Int32 → Option (Int32 × MS)
  | 0, _, _, _, _, _, _ => none
  | n + 1, st, v1, v3, v4, v5, v6 =>
    if v1 ≤ v6 then
      (X11_days_p152 st v3 v4 v5)
    else
    bnd (X11_drawBelow st (12 : Int32)) fun y_15 st_14 =>
    inr (2 : Int32) 7 <|
    nm (sA st_14 4 (2 : Int32).toNatClampNeg y_15) fun st_18 =>
    bnd (X11_drawBelow st_18 (21 : Int32)) fun y_20 st_19 =>
    inr (3 : Int32) 7 <|
    nm (sA st_19 4 (3 : Int32).toNatClampNeg y_20) fun st_23 =>
    bnd (X11_burnOn st_23) fun _ st_24 =>
    inr (6 : Int32) 7 <|
    if (gF st_24 34) = (gA st_24 4 (6 : Int32).toNatClampNeg) then
      (X11_days_p112 (fun st v1 v3 v4 v5 v6 => X11_days_p57  n st v1 v3 v4 v5 v6) st_24 v1 v3 v5 v6 v4 (1 : Int32))
    else
    X11_days_p112 (fun st v1 v3 v4 v5 v6 => X11_days_p57  n st v1 v3 v4 v5 v6) st_24 v1 v3 v5 v6 v4 (0 : Int32)
theorem X11_days_p57_s (n : Nat) (st : MS) (v1 : Int32) (v3 : Int32) (v4 : Int32) (v5 : Int32) (v6 : Int32) : X11_days_p57  (n + 1) st v1 v3 v4 v5 v6 =
    (if v1 ≤ v6 then
      (X11_days_p152 st v3 v4 v5)
    else
    bnd (X11_drawBelow st (12 : Int32)) fun y_15 st_14 =>
    inr (2 : Int32) 7 <|
    nm (sA st_14 4 (2 : Int32).toNatClampNeg y_15) fun st_18 =>
    bnd (X11_drawBelow st_18 (21 : Int32)) fun y_20 st_19 =>
    inr (3 : Int32) 7 <|
    nm (sA st_19 4 (3 : Int32).toNatClampNeg y_20) fun st_23 =>
    bnd (X11_burnOn st_23) fun _ st_24 =>
    inr (6 : Int32) 7 <|
    if (gF st_24 34) = (gA st_24 4 (6 : Int32).toNatClampNeg) then
      (X11_days_p112 (fun st v1 v3 v4 v5 v6 => X11_days_p57  n st v1 v3 v4 v5 v6) st_24 v1 v3 v5 v6 v4 (1 : Int32))
    else
    X11_days_p112 (fun st v1 v3 v4 v5 v6 => X11_days_p57  n st v1 v3 v4 v5 v6) st_24 v1 v3 v5 v6 v4 (0 : Int32)) := rfl
def X11_days (st : MS) (v1 : Int32) (v2 : Int32) (v3 : Int32) : Option (Int32 × MS) :=
    nm (sF st 17 (0 : Int32)) fun st_28 =>
    bd1 (X11_in (v1.toInt64) (1 : Int64) (20 : Int64)) fun y_29 =>
    if y_29 = 0 then
      (some ((-1 : Int32), st_28))
    else
    bd1 (X11_in (v3.toInt64) (0 : Int64) (1 : Int64)) fun y_32 =>
    if y_32 = 0 then
      (some ((-1 : Int32), st_28))
    else
    if (gF st_28 7) = 0 then
      (nm (sF st_28 35 v2) fun st_36 =>
      bnd (X11_open st_36) fun _ st_37 =>
      X11_days_p57 5000 st_37 v1 v3 (0 : Int32) (0 : Int32) (0 : Int32))
    else
    some ((-3 : Int32), st_28)
abbrev rmX11_days : Room := { frames := 7, cells := 0, slots := 0, locals := 152 }
theorem hdX11_days : yX11_days.cls = RX11 ∧ yX11_days.cls ≠ "java/lang/invoke/MethodHandle" ∧ yX11_days.cls ≠ "java/lang/invoke/VarHandle" ∧ (parseMethodDescriptor yX11_days.desc).map (fun d => d.parameters.length) = some 3 := by decide +kernel
set_option maxRecDepth 100000 in
set_option maxHeartbeats 4000000 in
theorem okX11_days (l : Launch) (D : va_G) (a : Nat → Nat) (T : mT3) {st : MS} {v1 : Int32} {v2 : Int32} {v3 : Int32} {r : Int32} {st' : MS} (heq : X11_days st v1 v2 v3 = some (r, st')) : gCi l D (mT T) yX11_days wsX11_days rmX11_days [.ref (a 0), .int v1, .int v2, .int v3] (mW a T st) r (mW a T st') := by
  refine g_body_i (by decide) rfl (Nat.le_of_ble_eq_true rfl) (fun p e s m args below meth c A Q hx hb hml hown hts hK hA hret ls hP hD hS hl => ?_)
  have hl : lv_has ls 7 [(0, .ref (a 0)), (1, .int v1), (2, .int v2), (3, .int v3)] := hl
  have hin : ∀ w ∈ wsX110, w ∈ wsX11_days := fun w h => List.mem_cons_of_mem _ (List.mem_append_right _ h)
  have f22 : (Cond.fieldLink RX11 22 RX11 (TX11 4).2.1 (TX11 4).2.2.1).before args s = true := hts (.fieldLink RX11 22 "LaidDownTheLaneModel" "settings" "[I") (by decide +kernel)
  have f75 : (Cond.fieldLink RX11 75 RX11 (TX11 17).2.1 (TX11 17).2.2.1).before args s = true := hts (.fieldLink RX11 75 "LaidDownTheLaneModel" "thrown" "I") (by decide +kernel)
  have f122 : (Cond.fieldLink RX11 122 RX11 (TX11 7).2.1 (TX11 7).2.2.1).before args s = true := hts (.fieldLink RX11 122 "LaidDownTheLaneModel" "isDown" "Z") (by decide +kernel)
  have f258 : (Cond.fieldLink RX11 258 RX11 (TX11 34).2.1 (TX11 34).2.2.1).before args s = true := hts (.fieldLink RX11 258 "LaidDownTheLaneModel" "willTo" "I") (by decide +kernel)
  have f323 : (Cond.fieldLink RX11 323 RX11 (TX11 35).2.1 (TX11 35).2.2.1).before args s = true := hts (.fieldLink RX11 323 "LaidDownTheLaneModel" "seed" "I") (by decide +kernel)
  have c329 := hts (.constantLong RX11 329 (20)) (by decide +kernel)
  have b139 : ∀ (k57 : MS → Int32 → Int32 → Int32 → Int32 → Int32 → Option (Int32 × MS)) (hk57 : ∀ (st : MS) (v1 : Int32) (v3 : Int32) (v4 : Int32) (v5 : Int32) (v6 : Int32) (H : Heap) (locs : List Loc) (ls : Array Slot), va_P D vwCl (mW a T st) H → va_D A (mW a T st) → va_S A s.heap H locs → lv_has ls 7 [(0, .ref (a 0)), (1, .int v1), (3, .int v3), (4, .int v4), (5, .int v5), (6, .int v6)] → k57 st v1 v3 v4 v5 v6 = some (r, st') → W p l e rmX11_days s m args below meth c H locs 0 0 Q (F0 m 57 ls [])), ∀ (st : MS) (v1 : Int32) (v3 : Int32) (v4 : Int32) (v6 : Int32) (t0 : Int32) (t1 : Int32) (H : Heap) (locs : List Loc) (ls : Array Slot), va_P D vwCl (mW a T st) H → va_D A (mW a T st) → va_S A s.heap H locs → lv_has ls 7 [(0, .ref (a 0)), (1, .int v1), (3, .int v3), (4, .int v4), (6, .int v6)] → X11_days_p139 k57 st v1 v3 v4 v6 t0 t1 = some (r, st') → W p l e rmX11_days s m args below meth c H locs 0 0 Q (F0 m 139 ls [.int t1, .int t0]) := by
    intro k57 hk57 st v1 v3 v4 v6 t0 t1 H locs ls hP hD hS hl heq
    unfold X11_days_p139 at heq
    refine lv_iadd hx hb dX11_days_139 ?_
    refine lv_topi (fun x_1 ex_1 => ?_)
    have heq := nm_h ex_1 heq
    refine lv_istore (lv' := [(5, .int x_1), (0, .ref (a 0)), (1, .int v1), (3, .int v3), (4, .int v4), (6, .int v6)]) hx hb dX11_days_140 hl (by decide) rfl (fun ls hl => ?_)
    refine lv_aload_n hx hb dX11_days_142 rfl (lv_at hl 1 rfl) ?_
    obtain ⟨⟨⟩, st_2, h_3, heq⟩ := bnd_h heq
    refine g_vv (own := RX11) (As := []) (rest := []) hx hb hml hown hts (okX11_close l D a T h_3) (cwV 0 hts gX11_days_X11_close rfl rfl rfl hdX11_close ⟨Nat.le_of_ble_eq_true rfl, Nat.le_of_ble_eq_true rfl⟩) hK hA hP hD hS (ci := 11) (q0 := 0) rfl rfl rfl hl.1 rfl (Nat.le_of_ble_eq_true rfl) dX11_days_143 ⟨Nat.le_of_ble_eq_true rfl, Nat.le_of_ble_eq_true rfl⟩ (fun H locs hP hD hS => ?_)
    obtain ⟨x_4, ex_4⟩ : ∃ y : Int32, y = v6 + (1 : Int32) := ⟨_, rfl⟩
    have heq := nm_h ex_4 heq
    refine lv_iinc (v := x_4) (lv' := [(6, .int x_4), (5, .int x_1), (0, .ref (a 0)), (1, .int v1), (3, .int v3), (4, .int v4)]) hx hb dX11_days_146 hl (k := 5) rfl (by rw [ex_4]; rfl) (by decide) rfl (fun ls hl => ?_)
    refine lv_goto (tgt := 57) hx hb dX11_days_149 (by decide) ?_
    exact hk57 st_2 v1 v3 v4 x_1 x_4 H locs ls hP hD hS (lv_sub hl [2, 3, 4, 5, 1, 0] rfl) heq
  have b112 : ∀ (k57 : MS → Int32 → Int32 → Int32 → Int32 → Int32 → Option (Int32 × MS)) (hk57 : ∀ (st : MS) (v1 : Int32) (v3 : Int32) (v4 : Int32) (v5 : Int32) (v6 : Int32) (H : Heap) (locs : List Loc) (ls : Array Slot), va_P D vwCl (mW a T st) H → va_D A (mW a T st) → va_S A s.heap H locs → lv_has ls 7 [(0, .ref (a 0)), (1, .int v1), (3, .int v3), (4, .int v4), (5, .int v5), (6, .int v6)] → k57 st v1 v3 v4 v5 v6 = some (r, st') → W p l e rmX11_days s m args below meth c H locs 0 0 Q (F0 m 57 ls [])), ∀ (st : MS) (v1 : Int32) (v3 : Int32) (v5 : Int32) (v6 : Int32) (t0 : Int32) (t1 : Int32) (H : Heap) (locs : List Loc) (ls : Array Slot), va_P D vwCl (mW a T st) H → va_D A (mW a T st) → va_S A s.heap H locs → lv_has ls 7 [(0, .ref (a 0)), (1, .int v1), (3, .int v3), (5, .int v5), (6, .int v6)] → X11_days_p112 k57 st v1 v3 v5 v6 t0 t1 = some (r, st') → W p l e rmX11_days s m args below meth c H locs 0 0 Q (F0 m 112 ls [.int t1, .int t0]) := by
    intro k57 hk57 st v1 v3 v5 v6 t0 t1 H locs ls hP hD hS hl heq
    unfold X11_days_p112 at heq
    refine lv_iadd hx hb dX11_days_112 ?_
    refine lv_topi (fun x_5 ex_5 => ?_)
    have heq := nm_h ex_5 heq
    refine lv_istore (lv' := [(4, .int x_5), (0, .ref (a 0)), (1, .int v1), (3, .int v3), (5, .int v5), (6, .int v6)]) hx hb dX11_days_113 hl (by decide) rfl (fun ls hl => ?_)
    refine lv_iload hx hb dX11_days_115 (lv_at hl 4 rfl) ?_
    refine lv_aload_n hx hb dX11_days_117 rfl (lv_at hl 1 rfl) ?_
    refine mg (k := 34) (v := .int (gF st 34)) hx hb hts hin hown hK hP (by decide) f258 rfl dX11_days_118 rfl ?_
    refine lv_if_ge (tgt := 128) hx hb dX11_days_121 (by decide) (fun c_6 => ?_) (fun c_6 => ?_)
    · have heq := it_t c_6 heq
      refine lv_aload_n hx hb dX11_days_128 rfl (lv_at hl 1 rfl) ?_
      refine lv_aload_n hx hb dX11_days_129 rfl (lv_at hl 1 rfl) ?_
      refine mg (k := 34) (v := .int (gF st 34)) hx hb hts hin hown hK hP (by decide) f258 rfl dX11_days_130 rfl ?_
      obtain ⟨y_8, st_7, h_9, heq⟩ := bnd_h heq
      refine g_vi (own := RX11) (As := [.int (gF st 34)]) (rest := [.int v5]) hx hb hml hown hts (okX11_struckBy l D a T h_9) (cwV 1 hts gX11_days_X11_struckBy rfl rfl rfl hdX11_struckBy ⟨Nat.le_of_ble_eq_true rfl, Nat.le_of_ble_eq_true rfl⟩) hK hA hP hD hS (ci := 11) (q0 := 0) rfl rfl rfl hl.1 rfl (Nat.le_of_ble_eq_true rfl) dX11_days_133 ⟨Nat.le_of_ble_eq_true rfl, Nat.le_of_ble_eq_true rfl⟩ (fun H locs hP hD hS => ?_)
      obtain ⟨y_10, h_11, heq⟩ := bd1_h heq
      refine g_si (own := RX11) (D := D) (As := [.int y_8]) (rest := [.int v5]) hx hb hml hown hts (okX11_onesOf l D h_11) (cwS 1 hts gX11_days_X11_onesOf rfl rfl rfl hdX11_onesOf ⟨Nat.le_of_ble_eq_true rfl, Nat.le_of_ble_eq_true rfl⟩) hK hA hP hS rfl hl.1 rfl (Nat.le_of_ble_eq_true rfl) dX11_days_136 ⟨Nat.le_of_ble_eq_true rfl, Nat.le_of_ble_eq_true rfl⟩ (fun H locs hP hS => ?_)
      exact b139 k57 hk57 st_7 v1 v3 x_5 v6 v5 y_10 H locs ls hP hD hS (lv_sub hl [1, 2, 3, 0, 5] rfl) heq
    have heq := it_f c_6 heq
    refine lv_iconst (v := (0 : Int32)) hx hb dX11_days_124 (by decide) ?_
    refine lv_goto (tgt := 139) hx hb dX11_days_125 (by decide) ?_
    exact b139 k57 hk57 st v1 v3 x_5 v6 v5 (0 : Int32) H locs ls hP hD hS (lv_sub hl [1, 2, 3, 0, 5] rfl) heq
  have b163 : ∀ (st : MS) (t0 : Int32) (H : Heap) (locs : List Loc) (ls : Array Slot), va_P D vwCl (mW a T st) H → va_D A (mW a T st) → va_S A s.heap H locs → lv_has ls 7 [] → X11_days_p163  st t0 = some (r, st') → W p l e rmX11_days s m args below meth c H locs 0 0 Q (F0 m 163 ls [.int t0]) := by
    intro st t0 H locs ls hP hD hS hl heq
    unfold X11_days_p163 at heq
    obtain ⟨heq, heq2⟩ := ret_h heq
    subst heq
    subst heq2
    exact hret 163 H locs ls hP hD hS rfl dX11_days_163
  have b152 : ∀ (st : MS) (v3 : Int32) (v4 : Int32) (v5 : Int32) (H : Heap) (locs : List Loc) (ls : Array Slot), va_P D vwCl (mW a T st) H → va_D A (mW a T st) → va_S A s.heap H locs → lv_has ls 7 [(3, .int v3), (4, .int v4), (5, .int v5)] → X11_days_p152  st v3 v4 v5 = some (r, st') → W p l e rmX11_days s m args below meth c H locs 0 0 Q (F0 m 152 ls []) := by
    intro st v3 v4 v5 H locs ls hP hD hS hl heq
    unfold X11_days_p152 at heq
    refine lv_iload_n hx hb dX11_days_152 rfl (lv_at hl 0 rfl) ?_
    refine lv_if_ne (tgt := 161) hx hb dX11_days_153 (by decide) (fun c_12 => ?_) (fun c_12 => ?_)
    · have heq := it_f c_12 heq
      refine lv_iload hx hb dX11_days_161 (lv_at hl 2 rfl) ?_
      exact b163 st v5 H locs ls hP hD hS (lv_sub hl [] rfl) heq
    have heq := it_t c_12 heq
    refine lv_iload hx hb dX11_days_156 (lv_at hl 1 rfl) ?_
    refine lv_goto (tgt := 163) hx hb dX11_days_158 (by decide) ?_
    exact b163 st v4 H locs ls hP hD hS (lv_sub hl [] rfl) heq
  have b57 : ∀ (n : Nat), ∀ (st : MS) (v1 : Int32) (v3 : Int32) (v4 : Int32) (v5 : Int32) (v6 : Int32) (H : Heap) (locs : List Loc) (ls : Array Slot), va_P D vwCl (mW a T st) H → va_D A (mW a T st) → va_S A s.heap H locs → lv_has ls 7 [(0, .ref (a 0)), (1, .int v1), (3, .int v3), (4, .int v4), (5, .int v5), (6, .int v6)] → X11_days_p57  n st v1 v3 v4 v5 v6 = some (r, st') → W p l e rmX11_days s m args below meth c H locs 0 0 Q (F0 m 57 ls []) := by
    intro n
    induction n with
    | zero => intro st v1 v3 v4 v5 v6 H locs ls hP hD hS hl heq; cases heq
    | succ n ih =>
      intro st v1 v3 v4 v5 v6 H locs ls hP hD hS hl heq
      rw [X11_days_p57_s] at heq
      refine lv_iload hx hb dX11_days_57 (lv_at hl 5 rfl) ?_
      refine lv_iload_n hx hb dX11_days_59 rfl (lv_at hl 1 rfl) ?_
      refine lv_icmp_ge (tgt := 152) hx hb dX11_days_60 (by decide) (fun c_13 => ?_) (fun c_13 => ?_)
      · have heq := it_t c_13 heq
        exact b152 st v3 v4 v5 H locs ls hP hD hS (lv_sub hl [2, 3, 4] rfl) heq
      have heq := it_f c_13 heq
      refine lv_aload_n hx hb dX11_days_63 rfl (lv_at hl 0 rfl) ?_
      refine mg (k := 4) (v := .ref (a 5)) hx hb hts hin hown hK hP (by decide) f22 rfl dX11_days_64 rfl ?_
      refine lv_iconst (v := (2 : Int32)) hx hb dX11_days_67 (by decide) ?_
      refine lv_aload_n hx hb dX11_days_68 rfl (lv_at hl 0 rfl) ?_
      refine lv_bipush (v := (12 : Int32)) hx hb dX11_days_69 (by decide) ?_
      obtain ⟨y_15, st_14, h_16, heq⟩ := bnd_h heq
      refine g_vi (own := RX11) (As := [.int (12 : Int32)]) (rest := [.int (2 : Int32), .ref (a 5)]) hx hb hml hown hts (okX11_drawBelow l D a T h_16) (cwV 1 hts gX11_days_X11_drawBelow rfl rfl rfl hdX11_drawBelow ⟨Nat.le_of_ble_eq_true rfl, Nat.le_of_ble_eq_true rfl⟩) hK hA hP hD hS (ci := 11) (q0 := 0) rfl rfl rfl hl.1 rfl (Nat.le_of_ble_eq_true rfl) dX11_days_71 ⟨Nat.le_of_ble_eq_true rfl, Nat.le_of_ble_eq_true rfl⟩ (fun H locs hP hD hS => ?_)
      obtain ⟨n_17, heq⟩ := inr_h heq
      refine mas (k := 4) (q := 5) (n := 7) hx hb hK hP hD hS rfl (maset_4 ..) n_17 dX11_days_74 (fun H locs hP hD hS => ?_)
      obtain ⟨st_18, est_18⟩ : ∃ z, z = sA st_14 4 (2 : Int32).toNatClampNeg y_15 := ⟨_, rfl⟩
      rw [← est_18] at hP hD
      have heq := nm_h est_18 heq
      refine lv_aload_n hx hb dX11_days_75 rfl (lv_at hl 0 rfl) ?_
      refine mg (k := 4) (v := .ref (a 5)) hx hb hts hin hown hK hP (by decide) f22 rfl dX11_days_76 rfl ?_
      refine lv_iconst (v := (3 : Int32)) hx hb dX11_days_79 (by decide) ?_
      refine lv_aload_n hx hb dX11_days_80 rfl (lv_at hl 0 rfl) ?_
      refine lv_bipush (v := (21 : Int32)) hx hb dX11_days_81 (by decide) ?_
      obtain ⟨y_20, st_19, h_21, heq⟩ := bnd_h heq
      refine g_vi (own := RX11) (As := [.int (21 : Int32)]) (rest := [.int (3 : Int32), .ref (a 5)]) hx hb hml hown hts (okX11_drawBelow l D a T h_21) (cwV 1 hts gX11_days_X11_drawBelow rfl rfl rfl hdX11_drawBelow ⟨Nat.le_of_ble_eq_true rfl, Nat.le_of_ble_eq_true rfl⟩) hK hA hP hD hS (ci := 11) (q0 := 0) rfl rfl rfl hl.1 rfl (Nat.le_of_ble_eq_true rfl) dX11_days_83 ⟨Nat.le_of_ble_eq_true rfl, Nat.le_of_ble_eq_true rfl⟩ (fun H locs hP hD hS => ?_)
      obtain ⟨n_22, heq⟩ := inr_h heq
      refine mas (k := 4) (q := 5) (n := 7) hx hb hK hP hD hS rfl (maset_4 ..) n_22 dX11_days_86 (fun H locs hP hD hS => ?_)
      obtain ⟨st_23, est_23⟩ : ∃ z, z = sA st_19 4 (3 : Int32).toNatClampNeg y_20 := ⟨_, rfl⟩
      rw [← est_23] at hP hD
      have heq := nm_h est_23 heq
      refine lv_aload_n hx hb dX11_days_87 rfl (lv_at hl 0 rfl) ?_
      obtain ⟨⟨⟩, st_24, h_25, heq⟩ := bnd_h heq
      refine g_vv (own := RX11) (As := []) (rest := []) hx hb hml hown hts (okX11_burnOn l D a T h_25) (cwV 0 hts gX11_days_X11_burnOn rfl rfl rfl hdX11_burnOn ⟨Nat.le_of_ble_eq_true rfl, Nat.le_of_ble_eq_true rfl⟩) hK hA hP hD hS (ci := 11) (q0 := 0) rfl rfl rfl hl.1 rfl (Nat.le_of_ble_eq_true rfl) dX11_days_88 ⟨Nat.le_of_ble_eq_true rfl, Nat.le_of_ble_eq_true rfl⟩ (fun H locs hP hD hS => ?_)
      refine lv_iload hx hb dX11_days_91 (lv_at hl 3 rfl) ?_
      refine lv_aload_n hx hb dX11_days_93 rfl (lv_at hl 0 rfl) ?_
      refine mg (k := 34) (v := .int (gF st_24 34)) hx hb hts hin hown hK hP (by decide) f258 rfl dX11_days_94 rfl ?_
      refine lv_aload_n hx hb dX11_days_97 rfl (lv_at hl 0 rfl) ?_
      refine mg (k := 4) (v := .ref (a 5)) hx hb hts hin hown hK hP (by decide) f22 rfl dX11_days_98 rfl ?_
      refine lv_bipush (v := (6 : Int32)) hx hb dX11_days_101 (by decide) ?_
      obtain ⟨n_26, heq⟩ := inr_h heq
      refine mal (k := 4) (q := 5) (n := 7) hx hb hK hP rfl n_26 dX11_days_103 ?_
      refine lv_icmp_ne (tgt := 111) hx hb dX11_days_104 (by decide) (fun c_27 => ?_) (fun c_27 => ?_)
      · have heq := it_f c_27 heq
        refine lv_iconst (v := (0 : Int32)) hx hb dX11_days_111 (by decide) ?_
        exact b112 (fun st v1 v3 v4 v5 v6 => X11_days_p57  n st v1 v3 v4 v5 v6) ih st_24 v1 v3 v5 v6 v4 (0 : Int32) H locs ls hP hD hS (lv_sub hl [0, 1, 2, 4, 5] rfl) heq
      have heq := it_t c_27 heq
      refine lv_iconst (v := (1 : Int32)) hx hb dX11_days_107 (by decide) ?_
      refine lv_goto (tgt := 112) hx hb dX11_days_108 (by decide) ?_
      exact b112 (fun st v1 v3 v4 v5 v6 => X11_days_p57  n st v1 v3 v4 v5 v6) ih st_24 v1 v3 v5 v6 v4 (1 : Int32) H locs ls hP hD hS (lv_sub hl [0, 1, 2, 4, 5] rfl) heq
  obtain ⟨H, hH⟩ : ∃ H, H = s.heap := ⟨_, rfl⟩
  obtain ⟨locs, hlocs⟩ : ∃ z : List Loc, z = [] := ⟨_, rfl⟩
  have hS : va_S A s.heap H locs := by rw [hH, hlocs]; exact hS
  have hP : va_P D vwCl (mW a T st) H := by rw [hH]; exact hP
  suffices h9 : W p l e rmX11_days s m args below meth c H locs 0 0 Q (F0 m 0 ls []) by rw [hH, hlocs] at h9; exact h9
  clear hH hlocs
  unfold X11_days at heq
  refine lv_aload_n hx hb dX11_days_0 rfl (lv_at hl 0 rfl) ?_
  refine lv_iconst (v := (0 : Int32)) hx hb dX11_days_1 (by decide) ?_
  refine mp (k := 17) hx hb hts hin hown hK hP hD hS (by decide) f75 dX11_days_2 rfl rfl rfl rfl (mset_17 ..) (fun H locs hP hD hS => ?_)
  obtain ⟨st_28, est_28⟩ : ∃ z, z = sF st 17 (0 : Int32) := ⟨_, rfl⟩
  rw [← est_28] at hP hD
  have heq := nm_h est_28 heq
  refine lv_iload_n hx hb dX11_days_5 rfl (lv_at hl 1 rfl) ?_
  refine lv_i2l hx hb dX11_days_6 rfl ?_
  refine lv_lconst (v := (1 : Int64)) hx hb dX11_days_7 (by decide) ?_
  refine lv_ldc2 (v := (20 : Int64)) hx hb hown c329 dX11_days_8 ?_
  obtain ⟨y_29, h_30, heq⟩ := bd1_h heq
  refine g_si (own := RX11) (D := D) (As := [.long (v1.toInt64), .long (1 : Int64), .long (20 : Int64)]) (rest := []) hx hb hml hown hts (okX11_in l D h_30) (cwS 3 hts gX11_days_X11_in rfl rfl rfl hdX11_in ⟨Nat.le_of_ble_eq_true rfl, Nat.le_of_ble_eq_true rfl⟩) hK hA hP hS rfl hl.1 rfl (Nat.le_of_ble_eq_true rfl) dX11_days_11 ⟨Nat.le_of_ble_eq_true rfl, Nat.le_of_ble_eq_true rfl⟩ (fun H locs hP hS => ?_)
  refine lv_if_eq (tgt := 27) hx hb dX11_days_14 (by decide) (fun c_31 => ?_) (fun c_31 => ?_)
  · have heq := it_t c_31 heq
    refine lv_iconst (v := (-1 : Int32)) hx hb dX11_days_27 (by decide) ?_
    obtain ⟨heq, heq2⟩ := ret_h heq
    subst heq
    subst heq2
    exact hret 28 H locs ls hP hD hS rfl dX11_days_28
  have heq := it_f c_31 heq
  refine lv_iload_n hx hb dX11_days_17 rfl (lv_at hl 3 rfl) ?_
  refine lv_i2l hx hb dX11_days_18 rfl ?_
  refine lv_lconst (v := (0 : Int64)) hx hb dX11_days_19 (by decide) ?_
  refine lv_lconst (v := (1 : Int64)) hx hb dX11_days_20 (by decide) ?_
  obtain ⟨y_32, h_33, heq⟩ := bd1_h heq
  refine g_si (own := RX11) (D := D) (As := [.long (v3.toInt64), .long (0 : Int64), .long (1 : Int64)]) (rest := []) hx hb hml hown hts (okX11_in l D h_33) (cwS 3 hts gX11_days_X11_in rfl rfl rfl hdX11_in ⟨Nat.le_of_ble_eq_true rfl, Nat.le_of_ble_eq_true rfl⟩) hK hA hP hS rfl hl.1 rfl (Nat.le_of_ble_eq_true rfl) dX11_days_21 ⟨Nat.le_of_ble_eq_true rfl, Nat.le_of_ble_eq_true rfl⟩ (fun H locs hP hS => ?_)
  refine lv_if_ne (tgt := 29) hx hb dX11_days_24 (by decide) (fun c_34 => ?_) (fun c_34 => ?_)
  · have heq := it_f c_34 heq
    refine lv_aload_n hx hb dX11_days_29 rfl (lv_at hl 0 rfl) ?_
    refine mg (k := 7) (v := .int (gF st_28 7)) hx hb hts hin hown hK hP (by decide) f122 rfl dX11_days_30 rfl ?_
    refine lv_if_eq (tgt := 39) hx hb dX11_days_33 (by decide) (fun c_35 => ?_) (fun c_35 => ?_)
    · have heq := it_t c_35 heq
      refine lv_aload_n hx hb dX11_days_39 rfl (lv_at hl 0 rfl) ?_
      refine lv_iload_n hx hb dX11_days_40 rfl (lv_at hl 2 rfl) ?_
      refine mp (k := 35) hx hb hts hin hown hK hP hD hS (by decide) f323 dX11_days_41 rfl rfl rfl rfl (mset_35 ..) (fun H locs hP hD hS => ?_)
      obtain ⟨st_36, est_36⟩ : ∃ z, z = sF st_28 35 v2 := ⟨_, rfl⟩
      rw [← est_36] at hP hD
      have heq := nm_h est_36 heq
      refine lv_iconst (v := (0 : Int32)) hx hb dX11_days_44 (by decide) ?_
      refine lv_istore (lv' := [(4, .int (0 : Int32)), (0, .ref (a 0)), (1, .int v1), (2, .int v2), (3, .int v3)]) hx hb dX11_days_45 hl (by decide) rfl (fun ls hl => ?_)
      refine lv_iconst (v := (0 : Int32)) hx hb dX11_days_47 (by decide) ?_
      refine lv_istore (lv' := [(5, .int (0 : Int32)), (4, .int (0 : Int32)), (0, .ref (a 0)), (1, .int v1), (2, .int v2), (3, .int v3)]) hx hb dX11_days_48 hl (by decide) rfl (fun ls hl => ?_)
      refine lv_aload_n hx hb dX11_days_50 rfl (lv_at hl 2 rfl) ?_
      obtain ⟨⟨⟩, st_37, h_38, heq⟩ := bnd_h heq
      refine g_vv (own := RX11) (As := []) (rest := []) hx hb hml hown hts (okX11_open l D a T h_38) (cwV 0 hts gX11_days_X11_open rfl rfl rfl hdX11_open ⟨Nat.le_of_ble_eq_true rfl, Nat.le_of_ble_eq_true rfl⟩) hK hA hP hD hS (ci := 11) (q0 := 0) rfl rfl rfl hl.1 rfl (Nat.le_of_ble_eq_true rfl) dX11_days_51 ⟨Nat.le_of_ble_eq_true rfl, Nat.le_of_ble_eq_true rfl⟩ (fun H locs hP hD hS => ?_)
      refine lv_iconst (v := (0 : Int32)) hx hb dX11_days_54 (by decide) ?_
      refine lv_istore (lv' := [(6, .int (0 : Int32)), (5, .int (0 : Int32)), (4, .int (0 : Int32)), (0, .ref (a 0)), (1, .int v1), (2, .int v2), (3, .int v3)]) hx hb dX11_days_55 hl (by decide) rfl (fun ls hl => ?_)
      exact b57 5000 st_37 v1 v3 (0 : Int32) (0 : Int32) (0 : Int32) H locs ls hP hD hS (lv_sub hl [3, 4, 6, 2, 1, 0] rfl) heq
    have heq := it_f c_35 heq
    refine lv_bipush (v := (-3 : Int32)) hx hb dX11_days_36 (by decide) ?_
    obtain ⟨heq, heq2⟩ := ret_h heq
    subst heq
    subst heq2
    exact hret 38 H locs ls hP hD hS rfl dX11_days_38
  have heq := it_t c_34 heq
  refine lv_iconst (v := (-1 : Int32)) hx hb dX11_days_27 (by decide) ?_
  obtain ⟨heq, heq2⟩ := ret_h heq
  subst heq
  subst heq2
  exact hret 28 H locs ls hP hD hS rfl dX11_days_28
