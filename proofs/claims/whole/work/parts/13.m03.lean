set_option maxRecDepth 20000 in
theorem ggX11_town_X11_wrongRow : GoodIn wsX11_town wsX11_wrongRow := goodIn_r _ [14, 15, 16, 17, 18, 13, 19, 146, 147, 148, 149, 150, 151, 152, 153, 154, 155, 156, 157, 158, 159, 160, 161, 162, 163, 164, 165, 166, 167, 168, 169, 170, 171, 172, 173, 174, 175, 176, 177, 178, 179, 180, 181, 182] (by decide +kernel) (by decide +kernel)
set_option maxRecDepth 20000 in
theorem gX11_town_X11_wrongRow : GoodIn wsX11_town (wsV RX11 194 RX11 yX11_wrongRow wsX11_wrongRow) := goodIn_app (goodIn_of _ (by decide +kernel)) ggX11_town_X11_wrongRow
set_option maxRecDepth 20000 in
theorem ggX11_town_X11_readStatement : GoodIn wsX11_town wsX11_readStatement := goodIn_r _ [23, 6, 9, 4, 24, 5, 25, 26, 27, 13, 28, 7, 3, 29, 30, 31, 32, 33, 34, 35, 36, 37, 38, 39, 40, 41, 42, 43, 17, 18, 19, 146, 147, 148, 149, 150, 151, 152, 153, 154, 155, 156, 157, 158, 159, 160, 161, 162, 163, 164, 165, 166, 167, 168, 169, 170, 171, 172, 173, 174, 175, 176, 177, 178, 179, 180, 181, 182] (by decide +kernel) (by decide +kernel)
set_option maxRecDepth 20000 in
theorem gX11_town_X11_readStatement : GoodIn wsX11_town (wsV RX11 197 RX11 yX11_readStatement wsX11_readStatement) := goodIn_app (goodIn_of _ (by decide +kernel)) ggX11_town_X11_readStatement
set_option maxRecDepth 20000 in
theorem ggX11_town_X11_carryAll : GoodIn wsX11_town wsX11_carryAll := goodIn_r _ [47, 48, 49, 50, 51, 52, 53, 54, 55, 56, 57, 58, 59, 60, 61, 62, 13, 63, 146, 147, 148, 149, 150, 151, 152, 153, 154, 155, 156, 157, 158, 159, 160, 161, 162, 163, 164, 165, 166, 167, 168, 169, 170, 171, 172, 173, 174, 175, 176, 177, 178, 179, 180, 181, 182] (by decide +kernel) (by decide +kernel)
set_option maxRecDepth 20000 in
theorem gX11_town_X11_carryAll : GoodIn wsX11_town (wsV RX11 200 RX11 yX11_carryAll wsX11_carryAll) := goodIn_app (goodIn_of _ (by decide +kernel)) ggX11_town_X11_carryAll
set_option maxRecDepth 20000 in
theorem ggX11_town_X11_comes : GoodIn wsX11_town wsX11_comes := goodIn_r _ [67, 37, 53, 24, 51, 68, 69, 70, 13, 71, 72, 54, 58, 59, 73, 74, 75, 76, 17, 18, 19, 77, 78, 79, 80, 56, 57, 81, 82, 83, 84, 55, 85, 86, 87, 88, 89, 90, 91, 92, 93, 94, 52, 95, 96, 97, 98, 99, 100, 101, 102, 103, 104, 105, 106, 107, 108, 109, 110, 111, 112, 113, 114, 115, 116, 117, 118, 119, 120, 121, 122, 123, 124, 125, 126, 127, 128, 129, 130, 131, 132, 133, 134, 135, 136, 137, 138, 139, 140, 141, 142, 143, 144, 145, 146, 147, 148, 149, 150, 151, 152, 153, 154, 155, 156, 157, 158, 159, 160, 161, 162, 163, 164, 165, 166, 167, 168, 169, 170, 171, 172, 173, 174, 175, 176, 177, 178, 179, 180, 181, 182] (by decide +kernel) (by decide +kernel)
set_option maxRecDepth 20000 in
theorem gX11_town_X11_comes : GoodIn wsX11_town (wsV RX11 204 RX11 yX11_comes wsX11_comes) := goodIn_app (goodIn_of _ (by decide +kernel)) ggX11_town_X11_comes
theorem dX11_town_0 : decode cX11_town 0 = .ok (.aload_n 0, 1) := by decide +kernel
theorem dX11_town_1 : decode cX11_town 1 = .ok (.iconst 0, 1) := by decide +kernel
theorem dX11_town_2 : decode cX11_town 2 = .ok (.putfield 75, 3) := by decide +kernel
theorem dX11_town_5 : decode cX11_town 5 = .ok (.aload_n 0, 1) := by decide +kernel
theorem dX11_town_6 : decode cX11_town 6 = .ok (.iload_n 1, 1) := by decide +kernel
theorem dX11_town_7 : decode cX11_town 7 = .ok (.invokevirtual 194, 3) := by decide +kernel
theorem dX11_town_10 : decode cX11_town 10 = .ok (.istore_n 2, 1) := by decide +kernel
theorem dX11_town_11 : decode cX11_town 11 = .ok (.iload_n 2, 1) := by decide +kernel
theorem dX11_town_12 : decode cX11_town 12 = .ok (.ifCond .ne 17, 3) := by decide +kernel
theorem dX11_town_15 : decode cX11_town 15 = .ok (.aload_n 0, 1) := by decide +kernel
theorem dX11_town_16 : decode cX11_town 16 = .ok (.getfield 40, 3) := by decide +kernel
theorem dX11_town_19 : decode cX11_town 19 = .ok (.iload_n 1, 1) := by decide +kernel
theorem dX11_town_20 : decode cX11_town 20 = .ok (.iaload, 1) := by decide +kernel
theorem dX11_town_21 : decode cX11_town 21 = .ok (.ifCond .eq 8, 3) := by decide +kernel
theorem dX11_town_24 : decode cX11_town 24 = .ok (.bipush (-12), 2) := by decide +kernel
theorem dX11_town_26 : decode cX11_town 26 = .ok (.goto 4, 3) := by decide +kernel
theorem dX11_town_29 : decode cX11_town 29 = .ok (.iload_n 2, 1) := by decide +kernel
theorem dX11_town_30 : decode cX11_town 30 = .ok (.istore_n 2, 1) := by decide +kernel
theorem dX11_town_31 : decode cX11_town 31 = .ok (.iload_n 2, 1) := by decide +kernel
theorem dX11_town_32 : decode cX11_town 32 = .ok (.ifCond .ge 5, 3) := by decide +kernel
theorem dX11_town_35 : decode cX11_town 35 = .ok (.iload_n 2, 1) := by decide +kernel
theorem dX11_town_36 : decode cX11_town 36 = .ok (.ireturn, 1) := by decide +kernel
theorem dX11_town_37 : decode cX11_town 37 = .ok (.aload_n 0, 1) := by decide +kernel
theorem dX11_town_38 : decode cX11_town 38 = .ok (.iload_n 1, 1) := by decide +kernel
theorem dX11_town_39 : decode cX11_town 39 = .ok (.putfield 132, 3) := by decide +kernel
theorem dX11_town_42 : decode cX11_town 42 = .ok (.aload_n 0, 1) := by decide +kernel
theorem dX11_town_43 : decode cX11_town 43 = .ok (.iconst 0, 1) := by decide +kernel
theorem dX11_town_44 : decode cX11_town 44 = .ok (.putfield 129, 3) := by decide +kernel
theorem dX11_town_47 : decode cX11_town 47 = .ok (.aload_n 0, 1) := by decide +kernel
theorem dX11_town_48 : decode cX11_town 48 = .ok (.iconst 0, 1) := by decide +kernel
theorem dX11_town_49 : decode cX11_town 49 = .ok (.putfield 135, 3) := by decide +kernel
theorem dX11_town_52 : decode cX11_town 52 = .ok (.aload_n 0, 1) := by decide +kernel
theorem dX11_town_53 : decode cX11_town 53 = .ok (.iconst 0, 1) := by decide +kernel
theorem dX11_town_54 : decode cX11_town 54 = .ok (.putfield 148, 3) := by decide +kernel
theorem dX11_town_57 : decode cX11_town 57 = .ok (.aload_n 0, 1) := by decide +kernel
theorem dX11_town_58 : decode cX11_town 58 = .ok (.getfield 135, 3) := by decide +kernel
theorem dX11_town_61 : decode cX11_town 61 = .ok (.ifCond .ne 30, 3) := by decide +kernel
theorem dX11_town_64 : decode cX11_town 64 = .ok (.aload_n 0, 1) := by decide +kernel
theorem dX11_town_65 : decode cX11_town 65 = .ok (.getfield 148, 3) := by decide +kernel
theorem dX11_town_68 : decode cX11_town 68 = .ok (.ifCond .eq 16, 3) := by decide +kernel
theorem dX11_town_71 : decode cX11_town 71 = .ok (.aload_n 0, 1) := by decide +kernel
theorem dX11_town_72 : decode cX11_town 72 = .ok (.getfield 129, 3) := by decide +kernel
theorem dX11_town_75 : decode cX11_town 75 = .ok (.aload_n 0, 1) := by decide +kernel
theorem dX11_town_76 : decode cX11_town 76 = .ok (.getfield 43, 3) := by decide +kernel
theorem dX11_town_79 : decode cX11_town 79 = .ok (.iload_n 1, 1) := by decide +kernel
theorem dX11_town_80 : decode cX11_town 80 = .ok (.iaload, 1) := by decide +kernel
theorem dX11_town_81 : decode cX11_town 81 = .ok (.if_icmp .ge 10, 3) := by decide +kernel
theorem dX11_town_84 : decode cX11_town 84 = .ok (.aload_n 0, 1) := by decide +kernel
theorem dX11_town_85 : decode cX11_town 85 = .ok (.invokevirtual 197, 3) := by decide +kernel
theorem dX11_town_88 : decode cX11_town 88 = .ok (.goto (-31), 3) := by decide +kernel
theorem dX11_town_91 : decode cX11_town 91 = .ok (.aload_n 0, 1) := by decide +kernel
theorem dX11_town_92 : decode cX11_town 92 = .ok (.getfield 135, 3) := by decide +kernel
theorem dX11_town_95 : decode cX11_town 95 = .ok (.ifCond .eq 12, 3) := by decide +kernel
theorem dX11_town_98 : decode cX11_town 98 = .ok (.sipush (-1000), 3) := by decide +kernel
theorem dX11_town_101 : decode cX11_town 101 = .ok (.aload_n 0, 1) := by decide +kernel
theorem dX11_town_102 : decode cX11_town 102 = .ok (.getfield 129, 3) := by decide +kernel
theorem dX11_town_105 : decode cX11_town 105 = .ok (.isub, 1) := by decide +kernel
theorem dX11_town_106 : decode cX11_town 106 = .ok (.ireturn, 1) := by decide +kernel
theorem dX11_town_107 : decode cX11_town 107 = .ok (.aload_n 0, 1) := by decide +kernel
theorem dX11_town_108 : decode cX11_town 108 = .ok (.aload_n 0, 1) := by decide +kernel
theorem dX11_town_109 : decode cX11_town 109 = .ok (.getfield 62, 3) := by decide +kernel
theorem dX11_town_112 : decode cX11_town 112 = .ok (.iconst 1, 1) := by decide +kernel
theorem dX11_town_113 : decode cX11_town 113 = .ok (.invokevirtual 200, 3) := by decide +kernel
theorem dX11_town_116 : decode cX11_town 116 = .ok (.iconst 0, 1) := by decide +kernel
theorem dX11_town_117 : decode cX11_town 117 = .ok (.istore_n 3, 1) := by decide +kernel
theorem dX11_town_118 : decode cX11_town 118 = .ok (.iload_n 3, 1) := by decide +kernel
theorem dX11_town_119 : decode cX11_town 119 = .ok (.aload_n 0, 1) := by decide +kernel
theorem dX11_town_120 : decode cX11_town 120 = .ok (.getfield 148, 3) := by decide +kernel
theorem dX11_town_123 : decode cX11_town 123 = .ok (.if_icmp .ge 37, 3) := by decide +kernel
theorem dX11_town_126 : decode cX11_town 126 = .ok (.aload_n 0, 1) := by decide +kernel
theorem dX11_town_127 : decode cX11_town 127 = .ok (.iload_n 3, 1) := by decide +kernel
theorem dX11_town_128 : decode cX11_town 128 = .ok (.invokevirtual 204, 3) := by decide +kernel
theorem dX11_town_131 : decode cX11_town 131 = .ok (.ifCond .ne 23, 3) := by decide +kernel
theorem dX11_town_134 : decode cX11_town 134 = .ok (.aload_n 0, 1) := by decide +kernel
theorem dX11_town_135 : decode cX11_town 135 = .ok (.aload_n 0, 1) := by decide +kernel
theorem dX11_town_136 : decode cX11_town 136 = .ok (.getfield 62, 3) := by decide +kernel
theorem dX11_town_139 : decode cX11_town 139 = .ok (.iconst 0, 1) := by decide +kernel
theorem dX11_town_140 : decode cX11_town 140 = .ok (.invokevirtual 200, 3) := by decide +kernel
theorem dX11_town_143 : decode cX11_town 143 = .ok (.sipush (-2000), 3) := by decide +kernel
theorem dX11_town_146 : decode cX11_town 146 = .ok (.aload_n 0, 1) := by decide +kernel
theorem dX11_town_147 : decode cX11_town 147 = .ok (.getfield 53, 3) := by decide +kernel
theorem dX11_town_150 : decode cX11_town 150 = .ok (.iload_n 3, 1) := by decide +kernel
theorem dX11_town_151 : decode cX11_town 151 = .ok (.iaload, 1) := by decide +kernel
theorem dX11_town_152 : decode cX11_town 152 = .ok (.isub, 1) := by decide +kernel
theorem dX11_town_153 : decode cX11_town 153 = .ok (.ireturn, 1) := by decide +kernel
theorem dX11_town_154 : decode cX11_town 154 = .ok (.iinc 3 1, 3) := by decide +kernel
theorem dX11_town_157 : decode cX11_town 157 = .ok (.goto (-39), 3) := by decide +kernel
theorem dX11_town_160 : decode cX11_town 160 = .ok (.aload_n 0, 1) := by decide +kernel
theorem dX11_town_161 : decode cX11_town 161 = .ok (.getfield 148, 3) := by decide +kernel
theorem dX11_town_164 : decode cX11_town 164 = .ok (.ireturn, 1) := by decide +kernel
/-! town -/
def X11_town_p84 (k57 : MS → Int32 → Option (Int32 × MS)) (st : MS) (v1 : Int32) : Option (Int32 × MS) :=
    bnd (X11_readStatement st) fun _ st_1 =>
    k57 st_1 v1
def X11_town_p134 (st : MS) (v3 : Int32) : Option (Int32 × MS) :=
    bnd (X11_carryAll st 18 (0 : Int32)) fun _ st_3 =>
    inr v3 51 <|
    some (((-2000 : Int32) - (gA st_3 23 v3.toNatClampNeg)), st_3)
def X11_town_p160 (st : MS) : Option (Int32 × MS) :=
    some ((gF st 22), st)
def X11_town_p118 : Nat → MS → Int32 → Option (Int32 × MS)
  | 0, _, _ => none
  | n + 1, st, v3 =>
    if (gF st 22) ≤ v3 then
      (X11_town_p160 st)
    else
    bnd (X11_comes st v3) fun y_8 st_7 =>
    if y_8 = 0 then
      (X11_town_p134 st_7 v3)
    else
    nm (v3 + (1 : Int32)) fun x_11 =>
    X11_town_p118  n st_7 x_11
theorem X11_town_p118_s (n : Nat) (st : MS) (v3 : Int32) : X11_town_p118  (n + 1) st v3 =
    (if (gF st 22) ≤ v3 then
      (X11_town_p160 st)
    else
    bnd (X11_comes st v3) fun y_8 st_7 =>
    if y_8 = 0 then
      (X11_town_p134 st_7 v3)
    else
    nm (v3 + (1 : Int32)) fun x_11 =>
    X11_town_p118  n st_7 x_11) := rfl
def X11_town_p91 (st : MS) : Option (Int32 × MS) :=
    if (gF st 21) = 0 then
      (bnd (X11_carryAll st 18 (1 : Int32)) fun _ st_13 =>
      X11_town_p118 5000 st_13 (0 : Int32))
    else
    some (((-1000 : Int32) - (gF st 20)), st)
def X11_town_p57 : Nat → MS → Int32 → Option (Int32 × MS)
  | 0, _, _ => none
  | n + 1, st, v1 =>
    if (gF st 21) = 0 then
      (if (gF st 22) = 0 then
        (X11_town_p84 (fun st v1 => X11_town_p57  n st v1) st v1)
      else
      inr v1 8 <|
      if (gA st 15 v1.toNatClampNeg) ≤ (gF st 20) then
        (X11_town_p91 st)
      else
      X11_town_p84 (fun st v1 => X11_town_p57  n st v1) st v1)
    else
    X11_town_p91 st
theorem X11_town_p57_s (n : Nat) (st : MS) (v1 : Int32) : X11_town_p57  (n + 1) st v1 =
    (if (gF st 21) = 0 then
      (if (gF st 22) = 0 then
        (X11_town_p84 (fun st v1 => X11_town_p57  n st v1) st v1)
      else
      inr v1 8 <|
      if (gA st 15 v1.toNatClampNeg) ≤ (gF st 20) then
        (X11_town_p91 st)
      else
      X11_town_p84 (fun st v1 => X11_town_p57  n st v1) st v1)
    else
    X11_town_p91 st) := rfl
def X11_town_p30 (st : MS) (v1 : Int32) (t0 : Int32) : Option (Int32 × MS) :=
    if 0 ≤ t0 then
      (nm (sF st 19 v1) fun st_20 =>
      nm (sF st_20 20 (0 : Int32)) fun st_21 =>
      gz (0 : Int32) <|
      nm (sF st_21 21 (0 : Int32)) fun st_22 =>
      nm (sF st_22 22 (0 : Int32)) fun st_24 =>
      X11_town_p57 5000 st_24 v1)
    else
    some (t0, st)
def X11_town_p29 (st : MS) (v1 : Int32) (v2 : Int32) : Option (Int32 × MS) :=
    X11_town_p30 st v1 v2
def X11_town (st : MS) (v1 : Int32) : Option (Int32 × MS) :=
    nm (sF st 17 (0 : Int32)) fun st_25 =>
    bnd (X11_wrongRow st_25 v1) fun y_27 st_26 =>
    if y_27 = 0 then
      (inr v1 8 <|
      if (gA st_26 14 v1.toNatClampNeg) = 0 then
        (X11_town_p29 st_26 v1 y_27)
      else
      X11_town_p30 st_26 v1 (-12 : Int32))
    else
    X11_town_p29 st_26 v1 y_27
abbrev rmX11_town : Room := { frames := 11, cells := 0, slots := 0, locals := 239 }
theorem hdX11_town : yX11_town.cls = RX11 ∧ yX11_town.cls ≠ "java/lang/invoke/MethodHandle" ∧ yX11_town.cls ≠ "java/lang/invoke/VarHandle" ∧ (parseMethodDescriptor yX11_town.desc).map (fun d => d.parameters.length) = some 1 := by decide +kernel
set_option maxRecDepth 100000 in
set_option maxHeartbeats 4000000 in
theorem okX11_town (l : Launch) (D : va_G) (a : Nat → Nat) (T : mT3) {st : MS} {v1 : Int32} {r : Int32} {st' : MS} (heq : X11_town st v1 = some (r, st')) : gCi l D (mT T) yX11_town wsX11_town rmX11_town [.ref (a 0), .int v1] (mW a T st) r (mW a T st') := by
  refine g_body_i (by decide) rfl (Nat.le_of_ble_eq_true rfl) (fun p e s m args below meth c A Q hx hb hml hown hts hK hA hret ls hP hD hS hl => ?_)
  have hl : lv_has ls 4 [(0, .ref (a 0)), (1, .int v1)] := hl
  have hin : ∀ w ∈ wsX110, w ∈ wsX11_town := fun w h => List.mem_cons_of_mem _ (List.mem_append_right _ h)
  have f40 : (Cond.fieldLink RX11 40 RX11 (TX11 14).2.1 (TX11 14).2.2.1).before args s = true := hts (.fieldLink RX11 40 "LaidDownTheLaneModel" "rowSort" "[I") (by decide +kernel)
  have f43 : (Cond.fieldLink RX11 43 RX11 (TX11 15).2.1 (TX11 15).2.2.1).before args s = true := hts (.fieldLink RX11 43 "LaidDownTheLaneModel" "rowMany" "[I") (by decide +kernel)
  have f53 : (Cond.fieldLink RX11 53 RX11 (TX11 23).2.1 (TX11 23).2.2.1).before args s = true := hts (.fieldLink RX11 53 "LaidDownTheLaneModel" "placeIn" "[I") (by decide +kernel)
  have f62 : (Cond.fieldLink RX11 62 RX11 (TX11 26).2.1 (TX11 26).2.2.1).before args s = true := hts (.fieldLink RX11 62 "LaidDownTheLaneModel" "kept" "[I") (by decide +kernel)
  have f75 : (Cond.fieldLink RX11 75 RX11 (TX11 17).2.1 (TX11 17).2.2.1).before args s = true := hts (.fieldLink RX11 75 "LaidDownTheLaneModel" "thrown" "I") (by decide +kernel)
  have f129 : (Cond.fieldLink RX11 129 RX11 (TX11 20).2.1 (TX11 20).2.2.1).before args s = true := hts (.fieldLink RX11 129 "LaidDownTheLaneModel" "at" "I") (by decide +kernel)
  have f132 : (Cond.fieldLink RX11 132 RX11 (TX11 19).2.1 (TX11 19).2.2.1).before args s = true := hts (.fieldLink RX11 132 "LaidDownTheLaneModel" "reading" "I") (by decide +kernel)
  have f135 : (Cond.fieldLink RX11 135 RX11 (TX11 21).2.1 (TX11 21).2.2.1).before args s = true := hts (.fieldLink RX11 135 "LaidDownTheLaneModel" "isBad" "Z") (by decide +kernel)
  have f148 : (Cond.fieldLink RX11 148 RX11 (TX11 22).2.1 (TX11 22).2.2.1).before args s = true := hts (.fieldLink RX11 148 "LaidDownTheLaneModel" "statements" "I") (by decide +kernel)
  have b84 : ∀ (k57 : MS → Int32 → Option (Int32 × MS)) (hk57 : ∀ (st : MS) (v1 : Int32) (H : Heap) (locs : List Loc) (ls : Array Slot), va_P D vwCl (mW a T st) H → va_D A (mW a T st) → va_S A s.heap H locs → lv_has ls 4 [(0, .ref (a 0)), (1, .int v1)] → k57 st v1 = some (r, st') → W p l e rmX11_town s m args below meth c H locs 0 0 Q (F0 m 57 ls [])), ∀ (st : MS) (v1 : Int32) (H : Heap) (locs : List Loc) (ls : Array Slot), va_P D vwCl (mW a T st) H → va_D A (mW a T st) → va_S A s.heap H locs → lv_has ls 4 [(0, .ref (a 0)), (1, .int v1)] → X11_town_p84 k57 st v1 = some (r, st') → W p l e rmX11_town s m args below meth c H locs 0 0 Q (F0 m 84 ls []) := by
    intro k57 hk57 st v1 H locs ls hP hD hS hl heq
    unfold X11_town_p84 at heq
    refine lv_aload_n hx hb dX11_town_84 rfl (lv_at hl 0 rfl) ?_
    obtain ⟨⟨⟩, st_1, h_2, heq⟩ := bnd_h heq
    refine g_vv (own := RX11) (As := []) (rest := []) hx hb hml hown hts (okX11_readStatement l D a T h_2) (cwV 0 hts gX11_town_X11_readStatement rfl rfl rfl hdX11_readStatement ⟨Nat.le_of_ble_eq_true rfl, Nat.le_of_ble_eq_true rfl⟩) hK hA hP hD hS (ci := 11) (q0 := 0) rfl rfl rfl hl.1 rfl (Nat.le_of_ble_eq_true rfl) dX11_town_85 ⟨Nat.le_of_ble_eq_true rfl, Nat.le_of_ble_eq_true rfl⟩ (fun H locs hP hD hS => ?_)
    refine lv_goto (tgt := 57) hx hb dX11_town_88 (by decide) ?_
    exact hk57 st_1 v1 H locs ls hP hD hS (lv_sub hl [0, 1] rfl) heq
  have b134 : ∀ (st : MS) (v3 : Int32) (H : Heap) (locs : List Loc) (ls : Array Slot), va_P D vwCl (mW a T st) H → va_D A (mW a T st) → va_S A s.heap H locs → lv_has ls 4 [(0, .ref (a 0)), (3, .int v3)] → X11_town_p134  st v3 = some (r, st') → W p l e rmX11_town s m args below meth c H locs 0 0 Q (F0 m 134 ls []) := by
    intro st v3 H locs ls hP hD hS hl heq
    unfold X11_town_p134 at heq
    refine lv_aload_n hx hb dX11_town_134 rfl (lv_at hl 0 rfl) ?_
    refine lv_aload_n hx hb dX11_town_135 rfl (lv_at hl 0 rfl) ?_
    refine mg (k := 26) (v := .ref (a 18)) hx hb hts hin hown hK hP (by decide) f62 rfl dX11_town_136 rfl ?_
    refine lv_iconst (v := (0 : Int32)) hx hb dX11_town_139 (by decide) ?_
    obtain ⟨⟨⟩, st_3, h_4, heq⟩ := bnd_h heq
    refine g_vv (own := RX11) (As := [.ref (a 18), .int (0 : Int32)]) (rest := []) hx hb hml hown hts (okX11_carryAll l D a T h_4) (cwV 2 hts gX11_town_X11_carryAll rfl rfl rfl hdX11_carryAll ⟨Nat.le_of_ble_eq_true rfl, Nat.le_of_ble_eq_true rfl⟩) hK hA hP hD hS (ci := 11) (q0 := 0) rfl rfl rfl hl.1 rfl (Nat.le_of_ble_eq_true rfl) dX11_town_140 ⟨Nat.le_of_ble_eq_true rfl, Nat.le_of_ble_eq_true rfl⟩ (fun H locs hP hD hS => ?_)
    refine lv_sipush (v := (-2000 : Int32)) hx hb dX11_town_143 (by decide) ?_
    refine lv_aload_n hx hb dX11_town_146 rfl (lv_at hl 0 rfl) ?_
    refine mg (k := 23) (v := .ref (a 15)) hx hb hts hin hown hK hP (by decide) f53 rfl dX11_town_147 rfl ?_
    refine lv_iload_n hx hb dX11_town_150 rfl (lv_at hl 1 rfl) ?_
    obtain ⟨n_5, heq⟩ := inr_h heq
    refine mal (k := 23) (q := 15) (n := 51) hx hb hK hP rfl n_5 dX11_town_151 ?_
    refine lv_isub hx hb dX11_town_152 ?_
    obtain ⟨heq, heq2⟩ := ret_h heq
    subst heq
    subst heq2
    exact hret 153 H locs ls hP hD hS rfl dX11_town_153
  have b160 : ∀ (st : MS) (H : Heap) (locs : List Loc) (ls : Array Slot), va_P D vwCl (mW a T st) H → va_D A (mW a T st) → va_S A s.heap H locs → lv_has ls 4 [(0, .ref (a 0))] → X11_town_p160  st = some (r, st') → W p l e rmX11_town s m args below meth c H locs 0 0 Q (F0 m 160 ls []) := by
    intro st H locs ls hP hD hS hl heq
    unfold X11_town_p160 at heq
    refine lv_aload_n hx hb dX11_town_160 rfl (lv_at hl 0 rfl) ?_
    refine mg (k := 22) (v := .int (gF st 22)) hx hb hts hin hown hK hP (by decide) f148 rfl dX11_town_161 rfl ?_
    obtain ⟨heq, heq2⟩ := ret_h heq
    subst heq
    subst heq2
    exact hret 164 H locs ls hP hD hS rfl dX11_town_164
  have b118 : ∀ (n : Nat), ∀ (st : MS) (v3 : Int32) (H : Heap) (locs : List Loc) (ls : Array Slot), va_P D vwCl (mW a T st) H → va_D A (mW a T st) → va_S A s.heap H locs → lv_has ls 4 [(0, .ref (a 0)), (3, .int v3)] → X11_town_p118  n st v3 = some (r, st') → W p l e rmX11_town s m args below meth c H locs 0 0 Q (F0 m 118 ls []) := by
    intro n
    induction n with
    | zero => intro st v3 H locs ls hP hD hS hl heq; cases heq
    | succ n ih =>
      intro st v3 H locs ls hP hD hS hl heq
      rw [X11_town_p118_s] at heq
      refine lv_iload_n hx hb dX11_town_118 rfl (lv_at hl 1 rfl) ?_
      refine lv_aload_n hx hb dX11_town_119 rfl (lv_at hl 0 rfl) ?_
      refine mg (k := 22) (v := .int (gF st 22)) hx hb hts hin hown hK hP (by decide) f148 rfl dX11_town_120 rfl ?_
      refine lv_icmp_ge (tgt := 160) hx hb dX11_town_123 (by decide) (fun c_6 => ?_) (fun c_6 => ?_)
      · have heq := it_t c_6 heq
        exact b160 st H locs ls hP hD hS (lv_sub hl [0] rfl) heq
      have heq := it_f c_6 heq
      refine lv_aload_n hx hb dX11_town_126 rfl (lv_at hl 0 rfl) ?_
      refine lv_iload_n hx hb dX11_town_127 rfl (lv_at hl 1 rfl) ?_
      obtain ⟨y_8, st_7, h_9, heq⟩ := bnd_h heq
      refine g_vi (own := RX11) (As := [.int v3]) (rest := []) hx hb hml hown hts (okX11_comes l D a T h_9) (cwV 1 hts gX11_town_X11_comes rfl rfl rfl hdX11_comes ⟨Nat.le_of_ble_eq_true rfl, Nat.le_of_ble_eq_true rfl⟩) hK hA hP hD hS (ci := 11) (q0 := 0) rfl rfl rfl hl.1 rfl (Nat.le_of_ble_eq_true rfl) dX11_town_128 ⟨Nat.le_of_ble_eq_true rfl, Nat.le_of_ble_eq_true rfl⟩ (fun H locs hP hD hS => ?_)
      refine lv_if_ne (tgt := 154) hx hb dX11_town_131 (by decide) (fun c_10 => ?_) (fun c_10 => ?_)
      · have heq := it_f c_10 heq
        obtain ⟨x_11, ex_11⟩ : ∃ y : Int32, y = v3 + (1 : Int32) := ⟨_, rfl⟩
        have heq := nm_h ex_11 heq
        refine lv_iinc (v := x_11) (lv' := [(3, .int x_11), (0, .ref (a 0))]) hx hb dX11_town_154 hl (k := 1) rfl (by rw [ex_11]; rfl) (by decide) rfl (fun ls hl => ?_)
        refine lv_goto (tgt := 118) hx hb dX11_town_157 (by decide) ?_
        exact ih st_7 x_11 H locs ls hP hD hS (lv_sub hl [1, 0] rfl) heq
      have heq := it_t c_10 heq
      exact b134 st_7 v3 H locs ls hP hD hS (lv_sub hl [0, 1] rfl) heq
  have b91 : ∀ (st : MS) (H : Heap) (locs : List Loc) (ls : Array Slot), va_P D vwCl (mW a T st) H → va_D A (mW a T st) → va_S A s.heap H locs → lv_has ls 4 [(0, .ref (a 0))] → X11_town_p91  st = some (r, st') → W p l e rmX11_town s m args below meth c H locs 0 0 Q (F0 m 91 ls []) := by
    intro st H locs ls hP hD hS hl heq
    unfold X11_town_p91 at heq
    refine lv_aload_n hx hb dX11_town_91 rfl (lv_at hl 0 rfl) ?_
    refine mg (k := 21) (v := .int (gF st 21)) hx hb hts hin hown hK hP (by decide) f135 rfl dX11_town_92 rfl ?_
    refine lv_if_eq (tgt := 107) hx hb dX11_town_95 (by decide) (fun c_12 => ?_) (fun c_12 => ?_)
    · have heq := it_t c_12 heq
      refine lv_aload_n hx hb dX11_town_107 rfl (lv_at hl 0 rfl) ?_
      refine lv_aload_n hx hb dX11_town_108 rfl (lv_at hl 0 rfl) ?_
      refine mg (k := 26) (v := .ref (a 18)) hx hb hts hin hown hK hP (by decide) f62 rfl dX11_town_109 rfl ?_
      refine lv_iconst (v := (1 : Int32)) hx hb dX11_town_112 (by decide) ?_
      obtain ⟨⟨⟩, st_13, h_14, heq⟩ := bnd_h heq
      refine g_vv (own := RX11) (As := [.ref (a 18), .int (1 : Int32)]) (rest := []) hx hb hml hown hts (okX11_carryAll l D a T h_14) (cwV 2 hts gX11_town_X11_carryAll rfl rfl rfl hdX11_carryAll ⟨Nat.le_of_ble_eq_true rfl, Nat.le_of_ble_eq_true rfl⟩) hK hA hP hD hS (ci := 11) (q0 := 0) rfl rfl rfl hl.1 rfl (Nat.le_of_ble_eq_true rfl) dX11_town_113 ⟨Nat.le_of_ble_eq_true rfl, Nat.le_of_ble_eq_true rfl⟩ (fun H locs hP hD hS => ?_)
      refine lv_iconst (v := (0 : Int32)) hx hb dX11_town_116 (by decide) ?_
      refine lv_istore_n (lv' := [(3, .int (0 : Int32)), (0, .ref (a 0))]) hx hb dX11_town_117 rfl hl (by decide) rfl (fun ls hl => ?_)
      exact b118 5000 st_13 (0 : Int32) H locs ls hP hD hS (lv_sub hl [1, 0] rfl) heq
    have heq := it_f c_12 heq
    refine lv_sipush (v := (-1000 : Int32)) hx hb dX11_town_98 (by decide) ?_
    refine lv_aload_n hx hb dX11_town_101 rfl (lv_at hl 0 rfl) ?_
    refine mg (k := 20) (v := .int (gF st 20)) hx hb hts hin hown hK hP (by decide) f129 rfl dX11_town_102 rfl ?_
    refine lv_isub hx hb dX11_town_105 ?_
    obtain ⟨heq, heq2⟩ := ret_h heq
    subst heq
    subst heq2
    exact hret 106 H locs ls hP hD hS rfl dX11_town_106
  have b57 : ∀ (n : Nat), ∀ (st : MS) (v1 : Int32) (H : Heap) (locs : List Loc) (ls : Array Slot), va_P D vwCl (mW a T st) H → va_D A (mW a T st) → va_S A s.heap H locs → lv_has ls 4 [(0, .ref (a 0)), (1, .int v1)] → X11_town_p57  n st v1 = some (r, st') → W p l e rmX11_town s m args below meth c H locs 0 0 Q (F0 m 57 ls []) := by
    intro n
    induction n with
    | zero => intro st v1 H locs ls hP hD hS hl heq; cases heq
    | succ n ih =>
      intro st v1 H locs ls hP hD hS hl heq
      rw [X11_town_p57_s] at heq
      refine lv_aload_n hx hb dX11_town_57 rfl (lv_at hl 0 rfl) ?_
      refine mg (k := 21) (v := .int (gF st 21)) hx hb hts hin hown hK hP (by decide) f135 rfl dX11_town_58 rfl ?_
      refine lv_if_ne (tgt := 91) hx hb dX11_town_61 (by decide) (fun c_15 => ?_) (fun c_15 => ?_)
      · have heq := it_f c_15 heq
        exact b91 st H locs ls hP hD hS (lv_sub hl [0] rfl) heq
      have heq := it_t c_15 heq
      refine lv_aload_n hx hb dX11_town_64 rfl (lv_at hl 0 rfl) ?_
      refine mg (k := 22) (v := .int (gF st 22)) hx hb hts hin hown hK hP (by decide) f148 rfl dX11_town_65 rfl ?_
      refine lv_if_eq (tgt := 84) hx hb dX11_town_68 (by decide) (fun c_16 => ?_) (fun c_16 => ?_)
      · have heq := it_t c_16 heq
        exact b84 (fun st v1 => X11_town_p57  n st v1) ih st v1 H locs ls hP hD hS (lv_sub hl [0, 1] rfl) heq
      have heq := it_f c_16 heq
      refine lv_aload_n hx hb dX11_town_71 rfl (lv_at hl 0 rfl) ?_
      refine mg (k := 20) (v := .int (gF st 20)) hx hb hts hin hown hK hP (by decide) f129 rfl dX11_town_72 rfl ?_
      refine lv_aload_n hx hb dX11_town_75 rfl (lv_at hl 0 rfl) ?_
      refine mg (k := 15) (v := .ref (a 12)) hx hb hts hin hown hK hP (by decide) f43 rfl dX11_town_76 rfl ?_
      refine lv_iload_n hx hb dX11_town_79 rfl (lv_at hl 1 rfl) ?_
      obtain ⟨n_17, heq⟩ := inr_h heq
      refine mal (k := 15) (q := 12) (n := 8) hx hb hK hP rfl n_17 dX11_town_80 ?_
      refine lv_icmp_ge (tgt := 91) hx hb dX11_town_81 (by decide) (fun c_18 => ?_) (fun c_18 => ?_)
      · have heq := it_t c_18 heq
        exact b91 st H locs ls hP hD hS (lv_sub hl [0] rfl) heq
      have heq := it_f c_18 heq
      exact b84 (fun st v1 => X11_town_p57  n st v1) ih st v1 H locs ls hP hD hS (lv_sub hl [0, 1] rfl) heq
  have b30 : ∀ (st : MS) (v1 : Int32) (t0 : Int32) (H : Heap) (locs : List Loc) (ls : Array Slot), va_P D vwCl (mW a T st) H → va_D A (mW a T st) → va_S A s.heap H locs → lv_has ls 4 [(0, .ref (a 0)), (1, .int v1)] → X11_town_p30  st v1 t0 = some (r, st') → W p l e rmX11_town s m args below meth c H locs 0 0 Q (F0 m 30 ls [.int t0]) := by
    intro st v1 t0 H locs ls hP hD hS hl heq
    unfold X11_town_p30 at heq
    refine lv_istore_n (lv' := [(2, .int t0), (0, .ref (a 0)), (1, .int v1)]) hx hb dX11_town_30 rfl hl (by decide) rfl (fun ls hl => ?_)
    refine lv_iload_n hx hb dX11_town_31 rfl (lv_at hl 0 rfl) ?_
    refine lv_if_ge (tgt := 37) hx hb dX11_town_32 (by decide) (fun c_19 => ?_) (fun c_19 => ?_)
    · have heq := it_t c_19 heq
      refine lv_aload_n hx hb dX11_town_37 rfl (lv_at hl 1 rfl) ?_
      refine lv_iload_n hx hb dX11_town_38 rfl (lv_at hl 2 rfl) ?_
      refine mp (k := 19) hx hb hts hin hown hK hP hD hS (by decide) f132 dX11_town_39 rfl rfl rfl rfl (mset_19 ..) (fun H locs hP hD hS => ?_)
      obtain ⟨st_20, est_20⟩ : ∃ z, z = sF st 19 v1 := ⟨_, rfl⟩
      rw [← est_20] at hP hD
      have heq := nm_h est_20 heq
      refine lv_aload_n hx hb dX11_town_42 rfl (lv_at hl 1 rfl) ?_
      refine lv_iconst (v := (0 : Int32)) hx hb dX11_town_43 (by decide) ?_
      refine mp (k := 20) hx hb hts hin hown hK hP hD hS (by decide) f129 dX11_town_44 rfl rfl rfl rfl (mset_20 ..) (fun H locs hP hD hS => ?_)
      obtain ⟨st_21, est_21⟩ : ∃ z, z = sF st_20 20 (0 : Int32) := ⟨_, rfl⟩
      rw [← est_21] at hP hD
      have heq := nm_h est_21 heq
      refine lv_aload_n hx hb dX11_town_47 rfl (lv_at hl 1 rfl) ?_
      refine lv_iconst (v := (0 : Int32)) hx hb dX11_town_48 (by decide) ?_
      obtain ⟨n_23, n_23f, heq⟩ := gz_h heq
      refine mp (k := 21) hx hb hts hin hown hK hP hD hS (by decide) f135 dX11_town_49 rfl rfl n_23 n_23f (mset_21 ..) (fun H locs hP hD hS => ?_)
      obtain ⟨st_22, est_22⟩ : ∃ z, z = sF st_21 21 (0 : Int32) := ⟨_, rfl⟩
      rw [← est_22] at hP hD
      have heq := nm_h est_22 heq
      refine lv_aload_n hx hb dX11_town_52 rfl (lv_at hl 1 rfl) ?_
      refine lv_iconst (v := (0 : Int32)) hx hb dX11_town_53 (by decide) ?_
      refine mp (k := 22) hx hb hts hin hown hK hP hD hS (by decide) f148 dX11_town_54 rfl rfl rfl rfl (mset_22 ..) (fun H locs hP hD hS => ?_)
      obtain ⟨st_24, est_24⟩ : ∃ z, z = sF st_22 22 (0 : Int32) := ⟨_, rfl⟩
      rw [← est_24] at hP hD
      have heq := nm_h est_24 heq
      exact b57 5000 st_24 v1 H locs ls hP hD hS (lv_sub hl [1, 2] rfl) heq
    have heq := it_f c_19 heq
    refine lv_iload_n hx hb dX11_town_35 rfl (lv_at hl 0 rfl) ?_
    obtain ⟨heq, heq2⟩ := ret_h heq
    subst heq
    subst heq2
    exact hret 36 H locs ls hP hD hS rfl dX11_town_36
  have b29 : ∀ (st : MS) (v1 : Int32) (v2 : Int32) (H : Heap) (locs : List Loc) (ls : Array Slot), va_P D vwCl (mW a T st) H → va_D A (mW a T st) → va_S A s.heap H locs → lv_has ls 4 [(0, .ref (a 0)), (1, .int v1), (2, .int v2)] → X11_town_p29  st v1 v2 = some (r, st') → W p l e rmX11_town s m args below meth c H locs 0 0 Q (F0 m 29 ls []) := by
    intro st v1 v2 H locs ls hP hD hS hl heq
    unfold X11_town_p29 at heq
    refine lv_iload_n hx hb dX11_town_29 rfl (lv_at hl 2 rfl) ?_
    exact b30 st v1 v2 H locs ls hP hD hS (lv_sub hl [0, 1] rfl) heq
  obtain ⟨H, hH⟩ : ∃ H, H = s.heap := ⟨_, rfl⟩
  obtain ⟨locs, hlocs⟩ : ∃ z : List Loc, z = [] := ⟨_, rfl⟩
  have hS : va_S A s.heap H locs := by rw [hH, hlocs]; exact hS
  have hP : va_P D vwCl (mW a T st) H := by rw [hH]; exact hP
  suffices h9 : W p l e rmX11_town s m args below meth c H locs 0 0 Q (F0 m 0 ls []) by rw [hH, hlocs] at h9; exact h9
  clear hH hlocs
  unfold X11_town at heq
  refine lv_aload_n hx hb dX11_town_0 rfl (lv_at hl 0 rfl) ?_
  refine lv_iconst (v := (0 : Int32)) hx hb dX11_town_1 (by decide) ?_
  refine mp (k := 17) hx hb hts hin hown hK hP hD hS (by decide) f75 dX11_town_2 rfl rfl rfl rfl (mset_17 ..) (fun H locs hP hD hS => ?_)
  obtain ⟨st_25, est_25⟩ : ∃ z, z = sF st 17 (0 : Int32) := ⟨_, rfl⟩
  rw [← est_25] at hP hD
  have heq := nm_h est_25 heq
  refine lv_aload_n hx hb dX11_town_5 rfl (lv_at hl 0 rfl) ?_
  refine lv_iload_n hx hb dX11_town_6 rfl (lv_at hl 1 rfl) ?_
  obtain ⟨y_27, st_26, h_28, heq⟩ := bnd_h heq
  refine g_vi (own := RX11) (As := [.int v1]) (rest := []) hx hb hml hown hts (okX11_wrongRow l D a T h_28) (cwV 1 hts gX11_town_X11_wrongRow rfl rfl rfl hdX11_wrongRow ⟨Nat.le_of_ble_eq_true rfl, Nat.le_of_ble_eq_true rfl⟩) hK hA hP hD hS (ci := 11) (q0 := 0) rfl rfl rfl hl.1 rfl (Nat.le_of_ble_eq_true rfl) dX11_town_7 ⟨Nat.le_of_ble_eq_true rfl, Nat.le_of_ble_eq_true rfl⟩ (fun H locs hP hD hS => ?_)
  refine lv_istore_n (lv' := [(2, .int y_27), (0, .ref (a 0)), (1, .int v1)]) hx hb dX11_town_10 rfl hl (by decide) rfl (fun ls hl => ?_)
  refine lv_iload_n hx hb dX11_town_11 rfl (lv_at hl 0 rfl) ?_
  refine lv_if_ne (tgt := 29) hx hb dX11_town_12 (by decide) (fun c_29 => ?_) (fun c_29 => ?_)
  · have heq := it_f c_29 heq
    exact b29 st_26 v1 y_27 H locs ls hP hD hS (lv_sub hl [1, 2, 0] rfl) heq
  have heq := it_t c_29 heq
  refine lv_aload_n hx hb dX11_town_15 rfl (lv_at hl 1 rfl) ?_
  refine mg (k := 14) (v := .ref (a 11)) hx hb hts hin hown hK hP (by decide) f40 rfl dX11_town_16 rfl ?_
  refine lv_iload_n hx hb dX11_town_19 rfl (lv_at hl 2 rfl) ?_
  obtain ⟨n_30, heq⟩ := inr_h heq
  refine mal (k := 14) (q := 11) (n := 8) hx hb hK hP rfl n_30 dX11_town_20 ?_
  refine lv_if_eq (tgt := 29) hx hb dX11_town_21 (by decide) (fun c_31 => ?_) (fun c_31 => ?_)
  · have heq := it_t c_31 heq
    exact b29 st_26 v1 y_27 H locs ls hP hD hS (lv_sub hl [1, 2, 0] rfl) heq
  have heq := it_f c_31 heq
  refine lv_bipush (v := (-12 : Int32)) hx hb dX11_town_24 (by decide) ?_
  refine lv_goto (tgt := 30) hx hb dX11_town_26 (by decide) ?_
  exact b30 st_26 v1 (-12 : Int32) H locs ls hP hD hS (lv_sub hl [1, 2] rfl) heq
set_option maxRecDepth 20000 in
theorem ggX11_open_X11_carryAll : GoodIn wsX11_open wsX11_carryAll := goodIn_r _ [6, 7, 8, 9, 10, 11, 12, 13, 14, 15, 16, 17, 18, 19, 20, 21, 5, 22, 23, 24, 25, 26, 27, 28, 29, 30, 31, 32, 33, 34, 35, 36, 37, 38, 39, 40, 41, 42, 43, 44, 45, 46, 47, 48, 49, 50, 51, 52, 53, 54, 55, 56, 57, 58, 59] (by decide +kernel) (by decide +kernel)
set_option maxRecDepth 20000 in
theorem gX11_open_X11_carryAll : GoodIn wsX11_open (wsV RX11 200 RX11 yX11_carryAll wsX11_carryAll) := goodIn_app (goodIn_of _ (by decide +kernel)) ggX11_open_X11_carryAll
theorem dX11_open_0 : decode cX11_open 0 = .ok (.aload_n 0, 1) := by decide +kernel
theorem dX11_open_1 : decode cX11_open 1 = .ok (.aload_n 0, 1) := by decide +kernel
theorem dX11_open_2 : decode cX11_open 2 = .ok (.getfield 62, 3) := by decide +kernel
theorem dX11_open_5 : decode cX11_open 5 = .ok (.iconst 1, 1) := by decide +kernel
theorem dX11_open_6 : decode cX11_open 6 = .ok (.invokevirtual 200, 3) := by decide +kernel
theorem dX11_open_9 : decode cX11_open 9 = .ok (.return_, 1) := by decide +kernel
/-! open -/
def X11_open (st : MS) : Option (Unit × MS) :=
    bnd (X11_carryAll st 18 (1 : Int32)) fun _ st_1 =>
    some ((), st_1)
abbrev rmX11_open : Room := { frames := 2, cells := 0, slots := 0, locals := 44 }
theorem hdX11_open : yX11_open.cls = RX11 ∧ yX11_open.cls ≠ "java/lang/invoke/MethodHandle" ∧ yX11_open.cls ≠ "java/lang/invoke/VarHandle" ∧ (parseMethodDescriptor yX11_open.desc).map (fun d => d.parameters.length) = some 0 := by decide +kernel
set_option maxRecDepth 100000 in
set_option maxHeartbeats 4000000 in
theorem okX11_open (l : Launch) (D : va_G) (a : Nat → Nat) (T : mT3) {st : MS} {st' : MS} (heq : X11_open st = some ((), st')) : gCv l D (mT T) yX11_open wsX11_open rmX11_open [.ref (a 0)] (mW a T st) (mW a T st') := by
  refine g_body_v (by decide) rfl (Nat.le_of_ble_eq_true rfl) (fun p e s m args below meth c A Q hx hb hml hown hts hK hA _ hret ls hP hD hS hl => ?_)
  have hl : lv_has ls 1 [(0, .ref (a 0))] := hl
  have hin : ∀ w ∈ wsX110, w ∈ wsX11_open := fun w h => List.mem_cons_of_mem _ (List.mem_append_right _ h)
  have f62 : (Cond.fieldLink RX11 62 RX11 (TX11 26).2.1 (TX11 26).2.2.1).before args s = true := hts (.fieldLink RX11 62 "LaidDownTheLaneModel" "kept" "[I") (by decide +kernel)
  obtain ⟨H, hH⟩ : ∃ H, H = s.heap := ⟨_, rfl⟩
  obtain ⟨locs, hlocs⟩ : ∃ z : List Loc, z = [] := ⟨_, rfl⟩
  have hS : va_S A s.heap H locs := by rw [hH, hlocs]; exact hS
  have hP : va_P D vwCl (mW a T st) H := by rw [hH]; exact hP
  suffices h9 : W p l e rmX11_open s m args below meth c H locs 0 0 Q (F0 m 0 ls []) by rw [hH, hlocs] at h9; exact h9
  clear hH hlocs
  unfold X11_open at heq
  refine lv_aload_n hx hb dX11_open_0 rfl (lv_at hl 0 rfl) ?_
  refine lv_aload_n hx hb dX11_open_1 rfl (lv_at hl 0 rfl) ?_
  refine mg (k := 26) (v := .ref (a 18)) hx hb hts hin hown hK hP (by decide) f62 rfl dX11_open_2 rfl ?_
  refine lv_iconst (v := (1 : Int32)) hx hb dX11_open_5 (by decide) ?_
  obtain ⟨⟨⟩, st_1, h_2, heq⟩ := bnd_h heq
  refine g_vv (own := RX11) (As := [.ref (a 18), .int (1 : Int32)]) (rest := []) hx hb hml hown hts (okX11_carryAll l D a T h_2) (cwV 2 hts gX11_open_X11_carryAll rfl rfl rfl hdX11_carryAll ⟨Nat.le_of_ble_eq_true rfl, Nat.le_of_ble_eq_true rfl⟩) hK hA hP hD hS (ci := 11) (q0 := 0) rfl rfl rfl hl.1 rfl (Nat.le_of_ble_eq_true rfl) dX11_open_6 ⟨Nat.le_of_ble_eq_true rfl, Nat.le_of_ble_eq_true rfl⟩ (fun H locs hP hD hS => ?_)
  obtain ⟨-, heq2⟩ := ret_h heq
  subst heq2
  exact hret 9 H locs ls hP hD hS dX11_open_9
set_option maxRecDepth 20000 in
theorem ggX11_close_X11_carryAll : GoodIn wsX11_close wsX11_carryAll := goodIn_r _ [6, 7, 8, 9, 10, 11, 12, 13, 14, 15, 16, 17, 18, 19, 20, 21, 5, 22, 23, 24, 25, 26, 27, 28, 29, 30, 31, 32, 33, 34, 35, 36, 37, 38, 39, 40, 41, 42, 43, 44, 45, 46, 47, 48, 49, 50, 51, 52, 53, 54, 55, 56, 57, 58, 59] (by decide +kernel) (by decide +kernel)
set_option maxRecDepth 20000 in
theorem gX11_close_X11_carryAll : GoodIn wsX11_close (wsV RX11 200 RX11 yX11_carryAll wsX11_carryAll) := goodIn_app (goodIn_of _ (by decide +kernel)) ggX11_close_X11_carryAll
theorem dX11_close_0 : decode cX11_close 0 = .ok (.aload_n 0, 1) := by decide +kernel
theorem dX11_close_1 : decode cX11_close 1 = .ok (.aload_n 0, 1) := by decide +kernel
theorem dX11_close_2 : decode cX11_close 2 = .ok (.getfield 62, 3) := by decide +kernel
theorem dX11_close_5 : decode cX11_close 5 = .ok (.iconst 0, 1) := by decide +kernel
theorem dX11_close_6 : decode cX11_close 6 = .ok (.invokevirtual 200, 3) := by decide +kernel
theorem dX11_close_9 : decode cX11_close 9 = .ok (.return_, 1) := by decide +kernel
/-! close -/
def X11_close (st : MS) : Option (Unit × MS) :=
    bnd (X11_carryAll st 18 (0 : Int32)) fun _ st_1 =>
    some ((), st_1)
abbrev rmX11_close : Room := { frames := 2, cells := 0, slots := 0, locals := 44 }
theorem hdX11_close : yX11_close.cls = RX11 ∧ yX11_close.cls ≠ "java/lang/invoke/MethodHandle" ∧ yX11_close.cls ≠ "java/lang/invoke/VarHandle" ∧ (parseMethodDescriptor yX11_close.desc).map (fun d => d.parameters.length) = some 0 := by decide +kernel
set_option maxRecDepth 100000 in
set_option maxHeartbeats 4000000 in
theorem okX11_close (l : Launch) (D : va_G) (a : Nat → Nat) (T : mT3) {st : MS} {st' : MS} (heq : X11_close st = some ((), st')) : gCv l D (mT T) yX11_close wsX11_close rmX11_close [.ref (a 0)] (mW a T st) (mW a T st') := by
  refine g_body_v (by decide) rfl (Nat.le_of_ble_eq_true rfl) (fun p e s m args below meth c A Q hx hb hml hown hts hK hA _ hret ls hP hD hS hl => ?_)
  have hl : lv_has ls 1 [(0, .ref (a 0))] := hl
  have hin : ∀ w ∈ wsX110, w ∈ wsX11_close := fun w h => List.mem_cons_of_mem _ (List.mem_append_right _ h)
  have f62 : (Cond.fieldLink RX11 62 RX11 (TX11 26).2.1 (TX11 26).2.2.1).before args s = true := hts (.fieldLink RX11 62 "LaidDownTheLaneModel" "kept" "[I") (by decide +kernel)
  obtain ⟨H, hH⟩ : ∃ H, H = s.heap := ⟨_, rfl⟩
  obtain ⟨locs, hlocs⟩ : ∃ z : List Loc, z = [] := ⟨_, rfl⟩
  have hS : va_S A s.heap H locs := by rw [hH, hlocs]; exact hS
  have hP : va_P D vwCl (mW a T st) H := by rw [hH]; exact hP
  suffices h9 : W p l e rmX11_close s m args below meth c H locs 0 0 Q (F0 m 0 ls []) by rw [hH, hlocs] at h9; exact h9
  clear hH hlocs
  unfold X11_close at heq
  refine lv_aload_n hx hb dX11_close_0 rfl (lv_at hl 0 rfl) ?_
  refine lv_aload_n hx hb dX11_close_1 rfl (lv_at hl 0 rfl) ?_
  refine mg (k := 26) (v := .ref (a 18)) hx hb hts hin hown hK hP (by decide) f62 rfl dX11_close_2 rfl ?_
  refine lv_iconst (v := (0 : Int32)) hx hb dX11_close_5 (by decide) ?_
  obtain ⟨⟨⟩, st_1, h_2, heq⟩ := bnd_h heq
  refine g_vv (own := RX11) (As := [.ref (a 18), .int (0 : Int32)]) (rest := []) hx hb hml hown hts (okX11_carryAll l D a T h_2) (cwV 2 hts gX11_close_X11_carryAll rfl rfl rfl hdX11_carryAll ⟨Nat.le_of_ble_eq_true rfl, Nat.le_of_ble_eq_true rfl⟩) hK hA hP hD hS (ci := 11) (q0 := 0) rfl rfl rfl hl.1 rfl (Nat.le_of_ble_eq_true rfl) dX11_close_6 ⟨Nat.le_of_ble_eq_true rfl, Nat.le_of_ble_eq_true rfl⟩ (fun H locs hP hD hS => ?_)
  obtain ⟨-, heq2⟩ := ret_h heq
  subst heq2
  exact hret 9 H locs ls hP hD hS dX11_close_9
set_option maxRecDepth 20000 in
theorem ggX11_image_X11_carryAll : GoodIn wsX11_image wsX11_carryAll := goodIn_r _ [9, 10, 11, 12, 13, 4, 14, 15, 16, 17, 18, 19, 20, 21, 22, 23, 8, 24, 25, 26, 27, 28, 29, 30, 31, 32, 33, 34, 35, 36, 37, 38, 39, 40, 41, 42, 43, 44, 45, 46, 47, 48, 49, 50, 51, 52, 53, 54, 55, 56, 57, 58, 59, 60, 61] (by decide +kernel) (by decide +kernel)
set_option maxRecDepth 20000 in
theorem gX11_image_X11_carryAll : GoodIn wsX11_image (wsV RX11 200 RX11 yX11_carryAll wsX11_carryAll) := goodIn_app (goodIn_of _ (by decide +kernel)) ggX11_image_X11_carryAll
theorem dX11_image_0 : decode cX11_image 0 = .ok (.aload_n 0, 1) := by decide +kernel
theorem dX11_image_1 : decode cX11_image 1 = .ok (.iconst 0, 1) := by decide +kernel
theorem dX11_image_2 : decode cX11_image 2 = .ok (.putfield 75, 3) := by decide +kernel
theorem dX11_image_5 : decode cX11_image 5 = .ok (.aload_n 0, 1) := by decide +kernel
theorem dX11_image_6 : decode cX11_image 6 = .ok (.iconst 1, 1) := by decide +kernel
theorem dX11_image_7 : decode cX11_image 7 = .ok (.putfield 219, 3) := by decide +kernel
theorem dX11_image_10 : decode cX11_image 10 = .ok (.aload_n 0, 1) := by decide +kernel
theorem dX11_image_11 : decode cX11_image 11 = .ok (.aload_n 0, 1) := by decide +kernel
theorem dX11_image_12 : decode cX11_image 12 = .ok (.getfield 65, 3) := by decide +kernel
theorem dX11_image_15 : decode cX11_image 15 = .ok (.iconst 1, 1) := by decide +kernel
theorem dX11_image_16 : decode cX11_image 16 = .ok (.invokevirtual 200, 3) := by decide +kernel
theorem dX11_image_19 : decode cX11_image 19 = .ok (.aload_n 0, 1) := by decide +kernel
theorem dX11_image_20 : decode cX11_image 20 = .ok (.getfield 93, 3) := by decide +kernel
theorem dX11_image_23 : decode cX11_image 23 = .ok (.ireturn, 1) := by decide +kernel
/-! image -/
def X11_image (st : MS) : Option (Int32 × MS) :=
    nm (sF st 17 (0 : Int32)) fun st_1 =>
    gz (1 : Int32) <|
    nm (sF st_1 28 (1 : Int32)) fun st_2 =>
    bnd (X11_carryAll st_2 19 (1 : Int32)) fun _ st_4 =>
    some ((gF st_4 6), st_4)
abbrev rmX11_image : Room := { frames := 2, cells := 0, slots := 0, locals := 44 }
theorem hdX11_image : yX11_image.cls = RX11 ∧ yX11_image.cls ≠ "java/lang/invoke/MethodHandle" ∧ yX11_image.cls ≠ "java/lang/invoke/VarHandle" ∧ (parseMethodDescriptor yX11_image.desc).map (fun d => d.parameters.length) = some 0 := by decide +kernel
set_option maxRecDepth 100000 in
set_option maxHeartbeats 4000000 in
theorem okX11_image (l : Launch) (D : va_G) (a : Nat → Nat) (T : mT3) {st : MS} {r : Int32} {st' : MS} (heq : X11_image st = some (r, st')) : gCi l D (mT T) yX11_image wsX11_image rmX11_image [.ref (a 0)] (mW a T st) r (mW a T st') := by
  refine g_body_i (by decide) rfl (Nat.le_of_ble_eq_true rfl) (fun p e s m args below meth c A Q hx hb hml hown hts hK hA hret ls hP hD hS hl => ?_)
  have hl : lv_has ls 1 [(0, .ref (a 0))] := hl
  have hin : ∀ w ∈ wsX110, w ∈ wsX11_image := fun w h => List.mem_cons_of_mem _ (List.mem_append_right _ h)
  have f65 : (Cond.fieldLink RX11 65 RX11 (TX11 27).2.1 (TX11 27).2.2.1).before args s = true := hts (.fieldLink RX11 65 "LaidDownTheLaneModel" "imaged" "[I") (by decide +kernel)
  have f75 : (Cond.fieldLink RX11 75 RX11 (TX11 17).2.1 (TX11 17).2.2.1).before args s = true := hts (.fieldLink RX11 75 "LaidDownTheLaneModel" "thrown" "I") (by decide +kernel)
  have f93 : (Cond.fieldLink RX11 93 RX11 (TX11 6).2.1 (TX11 6).2.2.1).before args s = true := hts (.fieldLink RX11 93 "LaidDownTheLaneModel" "minute" "I") (by decide +kernel)
  have f219 : (Cond.fieldLink RX11 219 RX11 (TX11 28).2.1 (TX11 28).2.2.1).before args s = true := hts (.fieldLink RX11 219 "LaidDownTheLaneModel" "hasImage" "Z") (by decide +kernel)
  obtain ⟨H, hH⟩ : ∃ H, H = s.heap := ⟨_, rfl⟩
  obtain ⟨locs, hlocs⟩ : ∃ z : List Loc, z = [] := ⟨_, rfl⟩
  have hS : va_S A s.heap H locs := by rw [hH, hlocs]; exact hS
  have hP : va_P D vwCl (mW a T st) H := by rw [hH]; exact hP
  suffices h9 : W p l e rmX11_image s m args below meth c H locs 0 0 Q (F0 m 0 ls []) by rw [hH, hlocs] at h9; exact h9
  clear hH hlocs
  unfold X11_image at heq
  refine lv_aload_n hx hb dX11_image_0 rfl (lv_at hl 0 rfl) ?_
  refine lv_iconst (v := (0 : Int32)) hx hb dX11_image_1 (by decide) ?_
  refine mp (k := 17) hx hb hts hin hown hK hP hD hS (by decide) f75 dX11_image_2 rfl rfl rfl rfl (mset_17 ..) (fun H locs hP hD hS => ?_)
  obtain ⟨st_1, est_1⟩ : ∃ z, z = sF st 17 (0 : Int32) := ⟨_, rfl⟩
  rw [← est_1] at hP hD
  have heq := nm_h est_1 heq
  refine lv_aload_n hx hb dX11_image_5 rfl (lv_at hl 0 rfl) ?_
  refine lv_iconst (v := (1 : Int32)) hx hb dX11_image_6 (by decide) ?_
  obtain ⟨n_3, n_3f, heq⟩ := gz_h heq
  refine mp (k := 28) hx hb hts hin hown hK hP hD hS (by decide) f219 dX11_image_7 rfl rfl n_3 n_3f (mset_28 ..) (fun H locs hP hD hS => ?_)
  obtain ⟨st_2, est_2⟩ : ∃ z, z = sF st_1 28 (1 : Int32) := ⟨_, rfl⟩
  rw [← est_2] at hP hD
  have heq := nm_h est_2 heq
  refine lv_aload_n hx hb dX11_image_10 rfl (lv_at hl 0 rfl) ?_
  refine lv_aload_n hx hb dX11_image_11 rfl (lv_at hl 0 rfl) ?_
  refine mg (k := 27) (v := .ref (a 19)) hx hb hts hin hown hK hP (by decide) f65 rfl dX11_image_12 rfl ?_
  refine lv_iconst (v := (1 : Int32)) hx hb dX11_image_15 (by decide) ?_
  obtain ⟨⟨⟩, st_4, h_5, heq⟩ := bnd_h heq
  refine g_vv (own := RX11) (As := [.ref (a 19), .int (1 : Int32)]) (rest := []) hx hb hml hown hts (okX11_carryAll l D a T h_5) (cwV 2 hts gX11_image_X11_carryAll rfl rfl rfl hdX11_carryAll ⟨Nat.le_of_ble_eq_true rfl, Nat.le_of_ble_eq_true rfl⟩) hK hA hP hD hS (ci := 11) (q0 := 0) rfl rfl rfl hl.1 rfl (Nat.le_of_ble_eq_true rfl) dX11_image_16 ⟨Nat.le_of_ble_eq_true rfl, Nat.le_of_ble_eq_true rfl⟩ (fun H locs hP hD hS => ?_)
  refine lv_aload_n hx hb dX11_image_19 rfl (lv_at hl 0 rfl) ?_
  refine mg (k := 6) (v := .int (gF st_4 6)) hx hb hts hin hown hK hP (by decide) f93 rfl dX11_image_20 rfl ?_
  obtain ⟨heq, heq2⟩ := ret_h heq
  subst heq
  subst heq2
  exact hret 23 H locs ls hP hD hS rfl dX11_image_23
set_option maxRecDepth 20000 in
theorem ggX11_restore_X11_carryAll : GoodIn wsX11_restore wsX11_carryAll := goodIn_r _ [9, 10, 11, 12, 13, 4, 14, 15, 16, 17, 18, 19, 20, 21, 22, 23, 8, 24, 25, 26, 27, 28, 29, 30, 31, 32, 33, 34, 35, 36, 37, 38, 39, 40, 41, 42, 43, 44, 45, 46, 47, 48, 49, 50, 51, 52, 53, 54, 55, 56, 57, 58, 59, 60, 61] (by decide +kernel) (by decide +kernel)
set_option maxRecDepth 20000 in
theorem gX11_restore_X11_carryAll : GoodIn wsX11_restore (wsV RX11 200 RX11 yX11_carryAll wsX11_carryAll) := goodIn_app (goodIn_of _ (by decide +kernel)) ggX11_restore_X11_carryAll
theorem dX11_restore_0 : decode cX11_restore 0 = .ok (.aload_n 0, 1) := by decide +kernel
theorem dX11_restore_1 : decode cX11_restore 1 = .ok (.iconst 0, 1) := by decide +kernel
theorem dX11_restore_2 : decode cX11_restore 2 = .ok (.putfield 75, 3) := by decide +kernel
theorem dX11_restore_5 : decode cX11_restore 5 = .ok (.aload_n 0, 1) := by decide +kernel
theorem dX11_restore_6 : decode cX11_restore 6 = .ok (.getfield 219, 3) := by decide +kernel
theorem dX11_restore_9 : decode cX11_restore 9 = .ok (.ifCond .ne 6, 3) := by decide +kernel
theorem dX11_restore_12 : decode cX11_restore 12 = .ok (.bipush (-3), 2) := by decide +kernel
theorem dX11_restore_14 : decode cX11_restore 14 = .ok (.ireturn, 1) := by decide +kernel
theorem dX11_restore_15 : decode cX11_restore 15 = .ok (.aload_n 0, 1) := by decide +kernel
theorem dX11_restore_16 : decode cX11_restore 16 = .ok (.aload_n 0, 1) := by decide +kernel
theorem dX11_restore_17 : decode cX11_restore 17 = .ok (.getfield 65, 3) := by decide +kernel
theorem dX11_restore_20 : decode cX11_restore 20 = .ok (.iconst 0, 1) := by decide +kernel
theorem dX11_restore_21 : decode cX11_restore 21 = .ok (.invokevirtual 200, 3) := by decide +kernel
theorem dX11_restore_24 : decode cX11_restore 24 = .ok (.aload_n 0, 1) := by decide +kernel
theorem dX11_restore_25 : decode cX11_restore 25 = .ok (.getfield 93, 3) := by decide +kernel
theorem dX11_restore_28 : decode cX11_restore 28 = .ok (.ireturn, 1) := by decide +kernel
/-! restore -/
def X11_restore (st : MS) : Option (Int32 × MS) :=
    nm (sF st 17 (0 : Int32)) fun st_1 =>
    if (gF st_1 28) = 0 then
      (some ((-3 : Int32), st_1))
    else
    bnd (X11_carryAll st_1 19 (0 : Int32)) fun _ st_3 =>
    some ((gF st_3 6), st_3)
abbrev rmX11_restore : Room := { frames := 2, cells := 0, slots := 0, locals := 44 }
theorem hdX11_restore : yX11_restore.cls = RX11 ∧ yX11_restore.cls ≠ "java/lang/invoke/MethodHandle" ∧ yX11_restore.cls ≠ "java/lang/invoke/VarHandle" ∧ (parseMethodDescriptor yX11_restore.desc).map (fun d => d.parameters.length) = some 0 := by decide +kernel
set_option maxRecDepth 100000 in
set_option maxHeartbeats 4000000 in
theorem okX11_restore (l : Launch) (D : va_G) (a : Nat → Nat) (T : mT3) {st : MS} {r : Int32} {st' : MS} (heq : X11_restore st = some (r, st')) : gCi l D (mT T) yX11_restore wsX11_restore rmX11_restore [.ref (a 0)] (mW a T st) r (mW a T st') := by
  refine g_body_i (by decide) rfl (Nat.le_of_ble_eq_true rfl) (fun p e s m args below meth c A Q hx hb hml hown hts hK hA hret ls hP hD hS hl => ?_)
  have hl : lv_has ls 1 [(0, .ref (a 0))] := hl
  have hin : ∀ w ∈ wsX110, w ∈ wsX11_restore := fun w h => List.mem_cons_of_mem _ (List.mem_append_right _ h)
  have f65 : (Cond.fieldLink RX11 65 RX11 (TX11 27).2.1 (TX11 27).2.2.1).before args s = true := hts (.fieldLink RX11 65 "LaidDownTheLaneModel" "imaged" "[I") (by decide +kernel)
  have f75 : (Cond.fieldLink RX11 75 RX11 (TX11 17).2.1 (TX11 17).2.2.1).before args s = true := hts (.fieldLink RX11 75 "LaidDownTheLaneModel" "thrown" "I") (by decide +kernel)
  have f93 : (Cond.fieldLink RX11 93 RX11 (TX11 6).2.1 (TX11 6).2.2.1).before args s = true := hts (.fieldLink RX11 93 "LaidDownTheLaneModel" "minute" "I") (by decide +kernel)
  have f219 : (Cond.fieldLink RX11 219 RX11 (TX11 28).2.1 (TX11 28).2.2.1).before args s = true := hts (.fieldLink RX11 219 "LaidDownTheLaneModel" "hasImage" "Z") (by decide +kernel)
  obtain ⟨H, hH⟩ : ∃ H, H = s.heap := ⟨_, rfl⟩
  obtain ⟨locs, hlocs⟩ : ∃ z : List Loc, z = [] := ⟨_, rfl⟩
  have hS : va_S A s.heap H locs := by rw [hH, hlocs]; exact hS
  have hP : va_P D vwCl (mW a T st) H := by rw [hH]; exact hP
  suffices h9 : W p l e rmX11_restore s m args below meth c H locs 0 0 Q (F0 m 0 ls []) by rw [hH, hlocs] at h9; exact h9
  clear hH hlocs
  unfold X11_restore at heq
  refine lv_aload_n hx hb dX11_restore_0 rfl (lv_at hl 0 rfl) ?_
  refine lv_iconst (v := (0 : Int32)) hx hb dX11_restore_1 (by decide) ?_
  refine mp (k := 17) hx hb hts hin hown hK hP hD hS (by decide) f75 dX11_restore_2 rfl rfl rfl rfl (mset_17 ..) (fun H locs hP hD hS => ?_)
  obtain ⟨st_1, est_1⟩ : ∃ z, z = sF st 17 (0 : Int32) := ⟨_, rfl⟩
  rw [← est_1] at hP hD
  have heq := nm_h est_1 heq
  refine lv_aload_n hx hb dX11_restore_5 rfl (lv_at hl 0 rfl) ?_
  refine mg (k := 28) (v := .int (gF st_1 28)) hx hb hts hin hown hK hP (by decide) f219 rfl dX11_restore_6 rfl ?_
  refine lv_if_ne (tgt := 15) hx hb dX11_restore_9 (by decide) (fun c_2 => ?_) (fun c_2 => ?_)
  · have heq := it_f c_2 heq
    refine lv_aload_n hx hb dX11_restore_15 rfl (lv_at hl 0 rfl) ?_
    refine lv_aload_n hx hb dX11_restore_16 rfl (lv_at hl 0 rfl) ?_
    refine mg (k := 27) (v := .ref (a 19)) hx hb hts hin hown hK hP (by decide) f65 rfl dX11_restore_17 rfl ?_
    refine lv_iconst (v := (0 : Int32)) hx hb dX11_restore_20 (by decide) ?_
    obtain ⟨⟨⟩, st_3, h_4, heq⟩ := bnd_h heq
    refine g_vv (own := RX11) (As := [.ref (a 19), .int (0 : Int32)]) (rest := []) hx hb hml hown hts (okX11_carryAll l D a T h_4) (cwV 2 hts gX11_restore_X11_carryAll rfl rfl rfl hdX11_carryAll ⟨Nat.le_of_ble_eq_true rfl, Nat.le_of_ble_eq_true rfl⟩) hK hA hP hD hS (ci := 11) (q0 := 0) rfl rfl rfl hl.1 rfl (Nat.le_of_ble_eq_true rfl) dX11_restore_21 ⟨Nat.le_of_ble_eq_true rfl, Nat.le_of_ble_eq_true rfl⟩ (fun H locs hP hD hS => ?_)
    refine lv_aload_n hx hb dX11_restore_24 rfl (lv_at hl 0 rfl) ?_
    refine mg (k := 6) (v := .int (gF st_3 6)) hx hb hts hin hown hK hP (by decide) f93 rfl dX11_restore_25 rfl ?_
    obtain ⟨heq, heq2⟩ := ret_h heq
    subst heq
    subst heq2
    exact hret 28 H locs ls hP hD hS rfl dX11_restore_28
  have heq := it_t c_2 heq
  refine lv_bipush (v := (-3 : Int32)) hx hb dX11_restore_12 (by decide) ?_
  obtain ⟨heq, heq2⟩ := ret_h heq
  subst heq
  subst heq2
  exact hret 14 H locs ls hP hD hS rfl dX11_restore_14
set_option maxRecDepth 20000 in
theorem ggX11_cell_X11_isSide : GoodIn wsX11_cell wsX11_isSide := goodIn_r _ [7, 8, 9, 10, 6, 11] (by decide +kernel) (by decide +kernel)
set_option maxRecDepth 20000 in
theorem gX11_cell_X11_isSide : GoodIn wsX11_cell (va_wsS RX11 165 yX11_isSide wsX11_isSide) := goodIn_app (goodIn_of _ (by decide +kernel)) ggX11_cell_X11_isSide
set_option maxRecDepth 20000 in
theorem ggX11_cell_X11_bearsOf : GoodIn wsX11_cell wsX11_bearsOf := goodIn_r _ [15, 16, 17, 18, 19, 20, 21, 6, 22, 3, 2, 23, 24, 25, 26, 27, 28, 29, 30, 31, 32, 33, 34, 35, 36, 37, 38, 39, 40, 41, 42, 43, 44, 45, 46, 47, 48, 49, 50, 51, 52, 53, 54, 55, 56, 57, 58, 59, 60, 61, 62, 63] (by decide +kernel) (by decide +kernel)
set_option maxRecDepth 20000 in
theorem gX11_cell_X11_bearsOf : GoodIn wsX11_cell (wsV RX11 103 RX11 yX11_bearsOf wsX11_bearsOf) := goodIn_app (goodIn_of _ (by decide +kernel)) ggX11_cell_X11_bearsOf
set_option maxRecDepth 20000 in
theorem ggX11_cell_X11_burnsOf : GoodIn wsX11_cell wsX11_burnsOf := goodIn_r _ [22, 3, 2, 27, 28, 29, 30, 31, 32, 33, 34, 35, 36, 37, 38, 39, 40, 41, 42, 43, 44, 45, 46, 47, 48, 49, 50, 51, 52, 53, 54, 55, 56, 57, 58, 59, 60, 61, 62, 63] (by decide +kernel) (by decide +kernel)
set_option maxRecDepth 20000 in
theorem gX11_cell_X11_burnsOf : GoodIn wsX11_cell (wsV RX11 85 RX11 yX11_burnsOf wsX11_burnsOf) := goodIn_app (goodIn_of _ (by decide +kernel)) ggX11_cell_X11_burnsOf
theorem dX11_cell_0 : decode cX11_cell 0 = .ok (.aload_n 0, 1) := by decide +kernel
theorem dX11_cell_1 : decode cX11_cell 1 = .ok (.iconst 0, 1) := by decide +kernel
theorem dX11_cell_2 : decode cX11_cell 2 = .ok (.putfield 75, 3) := by decide +kernel
theorem dX11_cell_5 : decode cX11_cell 5 = .ok (.iload_n 1, 1) := by decide +kernel
theorem dX11_cell_6 : decode cX11_cell 6 = .ok (.invokestatic 165, 3) := by decide +kernel
theorem dX11_cell_9 : decode cX11_cell 9 = .ok (.ifCond .ne 5, 3) := by decide +kernel
theorem dX11_cell_12 : decode cX11_cell 12 = .ok (.iconst (-1), 1) := by decide +kernel
theorem dX11_cell_13 : decode cX11_cell 13 = .ok (.ireturn, 1) := by decide +kernel
theorem dX11_cell_14 : decode cX11_cell 14 = .ok (.iload_n 2, 1) := by decide +kernel
theorem dX11_cell_15 : decode cX11_cell 15 = .ok (.tableswitch 55 0 3 #[29, 36, 43, 49], 29) := by decide +kernel
theorem dX11_cell_44 : decode cX11_cell 44 = .ok (.aload_n 0, 1) := by decide +kernel
theorem dX11_cell_45 : decode cX11_cell 45 = .ok (.getfield 16, 3) := by decide +kernel
theorem dX11_cell_48 : decode cX11_cell 48 = .ok (.iload_n 1, 1) := by decide +kernel
theorem dX11_cell_49 : decode cX11_cell 49 = .ok (.iaload, 1) := by decide +kernel
theorem dX11_cell_50 : decode cX11_cell 50 = .ok (.ireturn, 1) := by decide +kernel
theorem dX11_cell_51 : decode cX11_cell 51 = .ok (.aload_n 0, 1) := by decide +kernel
theorem dX11_cell_52 : decode cX11_cell 52 = .ok (.getfield 19, 3) := by decide +kernel
theorem dX11_cell_55 : decode cX11_cell 55 = .ok (.iload_n 1, 1) := by decide +kernel
theorem dX11_cell_56 : decode cX11_cell 56 = .ok (.iaload, 1) := by decide +kernel
theorem dX11_cell_57 : decode cX11_cell 57 = .ok (.ireturn, 1) := by decide +kernel
theorem dX11_cell_58 : decode cX11_cell 58 = .ok (.aload_n 0, 1) := by decide +kernel
theorem dX11_cell_59 : decode cX11_cell 59 = .ok (.iload_n 1, 1) := by decide +kernel
theorem dX11_cell_60 : decode cX11_cell 60 = .ok (.invokevirtual 103, 3) := by decide +kernel
theorem dX11_cell_63 : decode cX11_cell 63 = .ok (.ireturn, 1) := by decide +kernel
theorem dX11_cell_64 : decode cX11_cell 64 = .ok (.aload_n 0, 1) := by decide +kernel
theorem dX11_cell_65 : decode cX11_cell 65 = .ok (.iload_n 1, 1) := by decide +kernel
theorem dX11_cell_66 : decode cX11_cell 66 = .ok (.invokevirtual 85, 3) := by decide +kernel
theorem dX11_cell_69 : decode cX11_cell 69 = .ok (.ireturn, 1) := by decide +kernel
theorem dX11_cell_70 : decode cX11_cell 70 = .ok (.iconst (-1), 1) := by decide +kernel
theorem dX11_cell_71 : decode cX11_cell 71 = .ok (.ireturn, 1) := by decide +kernel
/-! cell -/
def X11_cell (st : MS) (v1 : Int32) (v2 : Int32) : Option (Int32 × MS) :=
    nm (sF st 17 (0 : Int32)) fun st_1 =>
    bd1 (X11_isSide v1) fun y_2 =>
    if y_2 = 0 then
      (some ((-1 : Int32), st_1))
    else
    if v2 = (0 : Int32) then
      (inr v1 12 <|
      some ((gA st_1 2 v1.toNatClampNeg), st_1))
    else
    if v2 = (1 : Int32) then
      (inr v1 12 <|
      some ((gA st_1 3 v1.toNatClampNeg), st_1))
    else
    if v2 = (2 : Int32) then
      (bnd (X11_bearsOf st_1 v1) fun y_11 st_10 =>
      some (y_11, st_10))
    else
    if v2 = (3 : Int32) then
      (bnd (X11_burnsOf st_1 v1) fun y_15 st_14 =>
      some (y_15, st_14))
    else
    some ((-1 : Int32), st_1)
abbrev rmX11_cell : Room := { frames := 2, cells := 0, slots := 0, locals := 45 }
theorem hdX11_cell : yX11_cell.cls = RX11 ∧ yX11_cell.cls ≠ "java/lang/invoke/MethodHandle" ∧ yX11_cell.cls ≠ "java/lang/invoke/VarHandle" ∧ (parseMethodDescriptor yX11_cell.desc).map (fun d => d.parameters.length) = some 2 := by decide +kernel
set_option maxRecDepth 100000 in
set_option maxHeartbeats 4000000 in
theorem okX11_cell (l : Launch) (D : va_G) (a : Nat → Nat) (T : mT3) {st : MS} {v1 : Int32} {v2 : Int32} {r : Int32} {st' : MS} (heq : X11_cell st v1 v2 = some (r, st')) : gCi l D (mT T) yX11_cell wsX11_cell rmX11_cell [.ref (a 0), .int v1, .int v2] (mW a T st) r (mW a T st') := by
  refine g_body_i (by decide) rfl (Nat.le_of_ble_eq_true rfl) (fun p e s m args below meth c A Q hx hb hml hown hts hK hA hret ls hP hD hS hl => ?_)
  have hl : lv_has ls 3 [(0, .ref (a 0)), (1, .int v1), (2, .int v2)] := hl
  have hin : ∀ w ∈ wsX110, w ∈ wsX11_cell := fun w h => List.mem_cons_of_mem _ (List.mem_append_right _ h)
  have f16 : (Cond.fieldLink RX11 16 RX11 (TX11 2).2.1 (TX11 2).2.2.1).before args s = true := hts (.fieldLink RX11 16 "LaidDownTheLaneModel" "kinds" "[I") (by decide +kernel)
  have f19 : (Cond.fieldLink RX11 19 RX11 (TX11 3).2.1 (TX11 3).2.2.1).before args s = true := hts (.fieldLink RX11 19 "LaidDownTheLaneModel" "figures" "[I") (by decide +kernel)
  have f75 : (Cond.fieldLink RX11 75 RX11 (TX11 17).2.1 (TX11 17).2.2.1).before args s = true := hts (.fieldLink RX11 75 "LaidDownTheLaneModel" "thrown" "I") (by decide +kernel)
  obtain ⟨H, hH⟩ : ∃ H, H = s.heap := ⟨_, rfl⟩
  obtain ⟨locs, hlocs⟩ : ∃ z : List Loc, z = [] := ⟨_, rfl⟩
  have hS : va_S A s.heap H locs := by rw [hH, hlocs]; exact hS
  have hP : va_P D vwCl (mW a T st) H := by rw [hH]; exact hP
  suffices h9 : W p l e rmX11_cell s m args below meth c H locs 0 0 Q (F0 m 0 ls []) by rw [hH, hlocs] at h9; exact h9
  clear hH hlocs
  unfold X11_cell at heq
  refine lv_aload_n hx hb dX11_cell_0 rfl (lv_at hl 0 rfl) ?_
  refine lv_iconst (v := (0 : Int32)) hx hb dX11_cell_1 (by decide) ?_
  refine mp (k := 17) hx hb hts hin hown hK hP hD hS (by decide) f75 dX11_cell_2 rfl rfl rfl rfl (mset_17 ..) (fun H locs hP hD hS => ?_)
  obtain ⟨st_1, est_1⟩ : ∃ z, z = sF st 17 (0 : Int32) := ⟨_, rfl⟩
  rw [← est_1] at hP hD
  have heq := nm_h est_1 heq
  refine lv_iload_n hx hb dX11_cell_5 rfl (lv_at hl 1 rfl) ?_
  obtain ⟨y_2, h_3, heq⟩ := bd1_h heq
  refine g_si (own := RX11) (D := D) (As := [.int v1]) (rest := []) hx hb hml hown hts (okX11_isSide l D h_3) (cwS 1 hts gX11_cell_X11_isSide rfl rfl rfl hdX11_isSide ⟨Nat.le_of_ble_eq_true rfl, Nat.le_of_ble_eq_true rfl⟩) hK hA hP hS rfl hl.1 rfl (Nat.le_of_ble_eq_true rfl) dX11_cell_6 ⟨Nat.le_of_ble_eq_true rfl, Nat.le_of_ble_eq_true rfl⟩ (fun H locs hP hS => ?_)
  refine lv_if_ne (tgt := 14) hx hb dX11_cell_9 (by decide) (fun c_4 => ?_) (fun c_4 => ?_)
  · have heq := it_f c_4 heq
    refine lv_iload_n hx hb dX11_cell_14 rfl (lv_at hl 2 rfl) ?_
    by_cases c_5 : v2 = (0 : Int32)
    · have heq := it_t c_5 heq
      refine lv_tableIn (tgt := 44) hx hb dX11_cell_15 (by rw [c_5]; decide) (by rw [c_5]; decide) (by rw [c_5]; rfl) (by decide) ?_
      refine lv_aload_n hx hb dX11_cell_44 rfl (lv_at hl 0 rfl) ?_
      refine mg (k := 2) (v := .ref (a 3)) hx hb hts hin hown hK hP (by decide) f16 rfl dX11_cell_45 rfl ?_
      refine lv_iload_n hx hb dX11_cell_48 rfl (lv_at hl 1 rfl) ?_
      obtain ⟨n_6, heq⟩ := inr_h heq
      refine mal (k := 2) (q := 3) (n := 12) hx hb hK hP rfl n_6 dX11_cell_49 ?_
      obtain ⟨heq, heq2⟩ := ret_h heq
      subst heq
      subst heq2
      exact hret 50 H locs ls hP hD hS rfl dX11_cell_50
    have heq := it_f c_5 heq
    by_cases c_7 : v2 = (1 : Int32)
    · have heq := it_t c_7 heq
      refine lv_tableIn (tgt := 51) hx hb dX11_cell_15 (by rw [c_7]; decide) (by rw [c_7]; decide) (by rw [c_7]; rfl) (by decide) ?_
      refine lv_aload_n hx hb dX11_cell_51 rfl (lv_at hl 0 rfl) ?_
      refine mg (k := 3) (v := .ref (a 4)) hx hb hts hin hown hK hP (by decide) f19 rfl dX11_cell_52 rfl ?_
      refine lv_iload_n hx hb dX11_cell_55 rfl (lv_at hl 1 rfl) ?_
      obtain ⟨n_8, heq⟩ := inr_h heq
      refine mal (k := 3) (q := 4) (n := 12) hx hb hK hP rfl n_8 dX11_cell_56 ?_
      obtain ⟨heq, heq2⟩ := ret_h heq
      subst heq
      subst heq2
      exact hret 57 H locs ls hP hD hS rfl dX11_cell_57
    have heq := it_f c_7 heq
    by_cases c_9 : v2 = (2 : Int32)
    · have heq := it_t c_9 heq
      refine lv_tableIn (tgt := 58) hx hb dX11_cell_15 (by rw [c_9]; decide) (by rw [c_9]; decide) (by rw [c_9]; rfl) (by decide) ?_
      refine lv_aload_n hx hb dX11_cell_58 rfl (lv_at hl 0 rfl) ?_
      refine lv_iload_n hx hb dX11_cell_59 rfl (lv_at hl 1 rfl) ?_
      obtain ⟨y_11, st_10, h_12, heq⟩ := bnd_h heq
      refine g_vi (own := RX11) (As := [.int v1]) (rest := []) hx hb hml hown hts (okX11_bearsOf l D a T h_12) (cwV 1 hts gX11_cell_X11_bearsOf rfl rfl rfl hdX11_bearsOf ⟨Nat.le_of_ble_eq_true rfl, Nat.le_of_ble_eq_true rfl⟩) hK hA hP hD hS (ci := 11) (q0 := 0) rfl rfl rfl hl.1 rfl (Nat.le_of_ble_eq_true rfl) dX11_cell_60 ⟨Nat.le_of_ble_eq_true rfl, Nat.le_of_ble_eq_true rfl⟩ (fun H locs hP hD hS => ?_)
      obtain ⟨heq, heq2⟩ := ret_h heq
      subst heq
      subst heq2
      exact hret 63 H locs ls hP hD hS rfl dX11_cell_63
    have heq := it_f c_9 heq
    by_cases c_13 : v2 = (3 : Int32)
    · have heq := it_t c_13 heq
      refine lv_tableIn (tgt := 64) hx hb dX11_cell_15 (by rw [c_13]; decide) (by rw [c_13]; decide) (by rw [c_13]; rfl) (by decide) ?_
      refine lv_aload_n hx hb dX11_cell_64 rfl (lv_at hl 0 rfl) ?_
      refine lv_iload_n hx hb dX11_cell_65 rfl (lv_at hl 1 rfl) ?_
      obtain ⟨y_15, st_14, h_16, heq⟩ := bnd_h heq
      refine g_vi (own := RX11) (As := [.int v1]) (rest := []) hx hb hml hown hts (okX11_burnsOf l D a T h_16) (cwV 1 hts gX11_cell_X11_burnsOf rfl rfl rfl hdX11_burnsOf ⟨Nat.le_of_ble_eq_true rfl, Nat.le_of_ble_eq_true rfl⟩) hK hA hP hD hS (ci := 11) (q0 := 0) rfl rfl rfl hl.1 rfl (Nat.le_of_ble_eq_true rfl) dX11_cell_66 ⟨Nat.le_of_ble_eq_true rfl, Nat.le_of_ble_eq_true rfl⟩ (fun H locs hP hD hS => ?_)
      obtain ⟨heq, heq2⟩ := ret_h heq
      subst heq
      subst heq2
      exact hret 69 H locs ls hP hD hS rfl dX11_cell_69
    have heq := it_f c_13 heq
    refine lv_tableOut (tgt := 70) hx hb dX11_cell_15 (sw_out fun k h1 h2 => ?_) (by decide) ?_
    · rcases (show k = 0 ∨ k = 1 ∨ k = 2 ∨ k = 3 by omega) with rfl | rfl | rfl | rfl
      · exact c_5
      · exact c_7
      · exact c_9
      · exact c_13
    refine lv_iconst (v := (-1 : Int32)) hx hb dX11_cell_70 (by decide) ?_
    obtain ⟨heq, heq2⟩ := ret_h heq
    subst heq
    subst heq2
    exact hret 71 H locs ls hP hD hS rfl dX11_cell_71
  have heq := it_t c_4 heq
  refine lv_iconst (v := (-1 : Int32)) hx hb dX11_cell_12 (by decide) ?_
  obtain ⟨heq, heq2⟩ := ret_h heq
  subst heq
  subst heq2
  exact hret 13 H locs ls hP hD hS rfl dX11_cell_13
theorem dX11_cut_0 : decode cX11_cut 0 = .ok (.aload_n 0, 1) := by decide +kernel
theorem dX11_cut_1 : decode cX11_cut 1 = .ok (.getfield 16, 3) := by decide +kernel
theorem dX11_cut_4 : decode cX11_cut 4 = .ok (.iload_n 1, 1) := by decide +kernel
theorem dX11_cut_5 : decode cX11_cut 5 = .ok (.iconst 1, 1) := by decide +kernel
theorem dX11_cut_6 : decode cX11_cut 6 = .ok (.iastore, 1) := by decide +kernel
theorem dX11_cut_7 : decode cX11_cut 7 = .ok (.aload_n 0, 1) := by decide +kernel
theorem dX11_cut_8 : decode cX11_cut 8 = .ok (.getfield 19, 3) := by decide +kernel
theorem dX11_cut_11 : decode cX11_cut 11 = .ok (.iload_n 1, 1) := by decide +kernel
theorem dX11_cut_12 : decode cX11_cut 12 = .ok (.iconst 0, 1) := by decide +kernel
theorem dX11_cut_13 : decode cX11_cut 13 = .ok (.iastore, 1) := by decide +kernel
theorem dX11_cut_14 : decode cX11_cut 14 = .ok (.return_, 1) := by decide +kernel
/-! cut -/
def X11_cut (st : MS) (v1 : Int32) : Option (Unit × MS) :=
    inr v1 12 <|
    nm (sA st 2 v1.toNatClampNeg (1 : Int32)) fun st_2 =>
    inr v1 12 <|
    nm (sA st_2 3 v1.toNatClampNeg (0 : Int32)) fun st_4 =>
    some ((), st_4)
abbrev rmX11_cut : Room := { frames := 0, cells := 0, slots := 0, locals := 0 }
theorem hdX11_cut : yX11_cut.cls = RX11 ∧ yX11_cut.cls ≠ "java/lang/invoke/MethodHandle" ∧ yX11_cut.cls ≠ "java/lang/invoke/VarHandle" ∧ (parseMethodDescriptor yX11_cut.desc).map (fun d => d.parameters.length) = some 1 := by decide +kernel
set_option maxRecDepth 100000 in
set_option maxHeartbeats 4000000 in
theorem okX11_cut (l : Launch) (D : va_G) (a : Nat → Nat) (T : mT3) {st : MS} {v1 : Int32} {st' : MS} (heq : X11_cut st v1 = some ((), st')) : gCv l D (mT T) yX11_cut wsX11_cut rmX11_cut [.ref (a 0), .int v1] (mW a T st) (mW a T st') := by
  refine g_body_v (by decide) rfl (Nat.le_of_ble_eq_true rfl) (fun p e s m args below meth c A Q hx hb hml hown hts hK hA _ hret ls hP hD hS hl => ?_)
  have hl : lv_has ls 2 [(0, .ref (a 0)), (1, .int v1)] := hl
  have hin : ∀ w ∈ wsX110, w ∈ wsX11_cut := fun w h => List.mem_cons_of_mem _ (List.mem_append_right _ h)
  have f16 : (Cond.fieldLink RX11 16 RX11 (TX11 2).2.1 (TX11 2).2.2.1).before args s = true := hts (.fieldLink RX11 16 "LaidDownTheLaneModel" "kinds" "[I") (by decide +kernel)
  have f19 : (Cond.fieldLink RX11 19 RX11 (TX11 3).2.1 (TX11 3).2.2.1).before args s = true := hts (.fieldLink RX11 19 "LaidDownTheLaneModel" "figures" "[I") (by decide +kernel)
  obtain ⟨H, hH⟩ : ∃ H, H = s.heap := ⟨_, rfl⟩
  obtain ⟨locs, hlocs⟩ : ∃ z : List Loc, z = [] := ⟨_, rfl⟩
  have hS : va_S A s.heap H locs := by rw [hH, hlocs]; exact hS
  have hP : va_P D vwCl (mW a T st) H := by rw [hH]; exact hP
  suffices h9 : W p l e rmX11_cut s m args below meth c H locs 0 0 Q (F0 m 0 ls []) by rw [hH, hlocs] at h9; exact h9
  clear hH hlocs
  unfold X11_cut at heq
  refine lv_aload_n hx hb dX11_cut_0 rfl (lv_at hl 0 rfl) ?_
  refine mg (k := 2) (v := .ref (a 3)) hx hb hts hin hown hK hP (by decide) f16 rfl dX11_cut_1 rfl ?_
  refine lv_iload_n hx hb dX11_cut_4 rfl (lv_at hl 1 rfl) ?_
  refine lv_iconst (v := (1 : Int32)) hx hb dX11_cut_5 (by decide) ?_
  obtain ⟨n_1, heq⟩ := inr_h heq
  refine mas (k := 2) (q := 3) (n := 12) hx hb hK hP hD hS rfl (maset_2 ..) n_1 dX11_cut_6 (fun H locs hP hD hS => ?_)
  obtain ⟨st_2, est_2⟩ : ∃ z, z = sA st 2 v1.toNatClampNeg (1 : Int32) := ⟨_, rfl⟩
  rw [← est_2] at hP hD
  have heq := nm_h est_2 heq
  refine lv_aload_n hx hb dX11_cut_7 rfl (lv_at hl 0 rfl) ?_
  refine mg (k := 3) (v := .ref (a 4)) hx hb hts hin hown hK hP (by decide) f19 rfl dX11_cut_8 rfl ?_
  refine lv_iload_n hx hb dX11_cut_11 rfl (lv_at hl 1 rfl) ?_
  refine lv_iconst (v := (0 : Int32)) hx hb dX11_cut_12 (by decide) ?_
  obtain ⟨n_3, heq⟩ := inr_h heq
  refine mas (k := 3) (q := 4) (n := 12) hx hb hK hP hD hS rfl (maset_3 ..) n_3 dX11_cut_13 (fun H locs hP hD hS => ?_)
  obtain ⟨st_4, est_4⟩ : ∃ z, z = sA st_2 3 v1.toNatClampNeg (0 : Int32) := ⟨_, rfl⟩
  rw [← est_4] at hP hD
  have heq := nm_h est_4 heq
  obtain ⟨-, heq2⟩ := ret_h heq
  subst heq2
  exact hret 14 H locs ls hP hD hS dX11_cut_14
set_option maxRecDepth 20000 in
theorem ggX11_cutAll_X11_hasBit : GoodIn wsX11_cutAll wsX11_hasBit := goodIn_r _ [4] (by decide +kernel) (by decide +kernel)
set_option maxRecDepth 20000 in
theorem gX11_cutAll_X11_hasBit : GoodIn wsX11_cutAll (va_wsS RX11 222 yX11_hasBit wsX11_hasBit) := goodIn_app (goodIn_of _ (by decide +kernel)) ggX11_cutAll_X11_hasBit
set_option maxRecDepth 20000 in
theorem ggX11_cutAll_X11_cut : GoodIn wsX11_cutAll wsX11_cut := goodIn_r _ [8, 9, 10, 11, 12, 13, 14, 15, 16, 17, 18, 19, 20, 21, 22, 23, 24, 25, 26, 27, 28, 29, 30, 31, 32, 33, 34, 35, 36, 37, 38, 39, 40, 41, 42, 43, 44, 45, 46, 47] (by decide +kernel) (by decide +kernel)
set_option maxRecDepth 20000 in
theorem gX11_cutAll_X11_cut : GoodIn wsX11_cutAll (wsV RX11 225 RX11 yX11_cut wsX11_cut) := goodIn_app (goodIn_of _ (by decide +kernel)) ggX11_cutAll_X11_cut
theorem dX11_cutAll_0 : decode cX11_cutAll 0 = .ok (.iconst 0, 1) := by decide +kernel
theorem dX11_cutAll_1 : decode cX11_cutAll 1 = .ok (.istore_n 2, 1) := by decide +kernel
theorem dX11_cutAll_2 : decode cX11_cutAll 2 = .ok (.iload_n 2, 1) := by decide +kernel
theorem dX11_cutAll_3 : decode cX11_cutAll 3 = .ok (.bipush 12, 2) := by decide +kernel
theorem dX11_cutAll_5 : decode cX11_cutAll 5 = .ok (.if_icmp .ge 22, 3) := by decide +kernel
theorem dX11_cutAll_8 : decode cX11_cutAll 8 = .ok (.iload_n 1, 1) := by decide +kernel
theorem dX11_cutAll_9 : decode cX11_cutAll 9 = .ok (.iload_n 2, 1) := by decide +kernel
theorem dX11_cutAll_10 : decode cX11_cutAll 10 = .ok (.invokestatic 222, 3) := by decide +kernel
theorem dX11_cutAll_13 : decode cX11_cutAll 13 = .ok (.ifCond .eq 8, 3) := by decide +kernel
theorem dX11_cutAll_16 : decode cX11_cutAll 16 = .ok (.aload_n 0, 1) := by decide +kernel
theorem dX11_cutAll_17 : decode cX11_cutAll 17 = .ok (.iload_n 2, 1) := by decide +kernel
theorem dX11_cutAll_18 : decode cX11_cutAll 18 = .ok (.invokevirtual 225, 3) := by decide +kernel
theorem dX11_cutAll_21 : decode cX11_cutAll 21 = .ok (.iinc 2 1, 3) := by decide +kernel
theorem dX11_cutAll_24 : decode cX11_cutAll 24 = .ok (.goto (-22), 3) := by decide +kernel
theorem dX11_cutAll_27 : decode cX11_cutAll 27 = .ok (.return_, 1) := by decide +kernel
/-! cutAll -/
def X11_cutAll_p21 (k2 : MS → Int32 → Int32 → Option (Unit × MS)) (st : MS) (v1 : Int32) (v2 : Int32) : Option (Unit × MS) :=
    nm (v2 + (1 : Int32)) fun x_1 =>
    k2 st v1 x_1
def X11_cutAll_p27 (st : MS) : Option (Unit × MS) :=
    some ((), st)
def X11_cutAll_p2 : Nat → MS → Int32 → Int32 → Option (Unit × MS)
  | 0, _, _, _ => none
  | n + 1, st, v1, v2 =>
    if (12 : Int32) ≤ v2 then
      (X11_cutAll_p27 st)
    else
    bd1 (X11_hasBit v1 v2) fun y_3 =>
    if y_3 = 0 then
      (X11_cutAll_p21 (fun st v1 v2 => X11_cutAll_p2  n st v1 v2) st v1 v2)
    else
    bnd (X11_cut st v2) fun _ st_6 =>
    X11_cutAll_p21 (fun st v1 v2 => X11_cutAll_p2  n st v1 v2) st_6 v1 v2
theorem X11_cutAll_p2_s (n : Nat) (st : MS) (v1 : Int32) (v2 : Int32) : X11_cutAll_p2  (n + 1) st v1 v2 =
    (if (12 : Int32) ≤ v2 then
      (X11_cutAll_p27 st)
    else
    bd1 (X11_hasBit v1 v2) fun y_3 =>
    if y_3 = 0 then
      (X11_cutAll_p21 (fun st v1 v2 => X11_cutAll_p2  n st v1 v2) st v1 v2)
    else
    bnd (X11_cut st v2) fun _ st_6 =>
    X11_cutAll_p21 (fun st v1 v2 => X11_cutAll_p2  n st v1 v2) st_6 v1 v2) := rfl
def X11_cutAll (st : MS) (v1 : Int32) : Option (Unit × MS) :=
    X11_cutAll_p2 13 st v1 (0 : Int32)
abbrev rmX11_cutAll : Room := { frames := 1, cells := 0, slots := 0, locals := 21 }
theorem hdX11_cutAll : yX11_cutAll.cls = RX11 ∧ yX11_cutAll.cls ≠ "java/lang/invoke/MethodHandle" ∧ yX11_cutAll.cls ≠ "java/lang/invoke/VarHandle" ∧ (parseMethodDescriptor yX11_cutAll.desc).map (fun d => d.parameters.length) = some 1 := by decide +kernel
set_option maxRecDepth 100000 in
set_option maxHeartbeats 4000000 in
theorem okX11_cutAll (l : Launch) (D : va_G) (a : Nat → Nat) (T : mT3) {st : MS} {v1 : Int32} {st' : MS} (heq : X11_cutAll st v1 = some ((), st')) : gCv l D (mT T) yX11_cutAll wsX11_cutAll rmX11_cutAll [.ref (a 0), .int v1] (mW a T st) (mW a T st') := by
  refine g_body_v (by decide) rfl (Nat.le_of_ble_eq_true rfl) (fun p e s m args below meth c A Q hx hb hml hown hts hK hA _ hret ls hP hD hS hl => ?_)
  have hl : lv_has ls 3 [(0, .ref (a 0)), (1, .int v1)] := hl
  have b21 : ∀ (k2 : MS → Int32 → Int32 → Option (Unit × MS)) (hk2 : ∀ (st : MS) (v1 : Int32) (v2 : Int32) (H : Heap) (locs : List Loc) (ls : Array Slot), va_P D vwCl (mW a T st) H → va_D A (mW a T st) → va_S A s.heap H locs → lv_has ls 3 [(0, .ref (a 0)), (1, .int v1), (2, .int v2)] → k2 st v1 v2 = some ((), st') → W p l e rmX11_cutAll s m args below meth c H locs 0 0 Q (F0 m 2 ls [])), ∀ (st : MS) (v1 : Int32) (v2 : Int32) (H : Heap) (locs : List Loc) (ls : Array Slot), va_P D vwCl (mW a T st) H → va_D A (mW a T st) → va_S A s.heap H locs → lv_has ls 3 [(0, .ref (a 0)), (1, .int v1), (2, .int v2)] → X11_cutAll_p21 k2 st v1 v2 = some ((), st') → W p l e rmX11_cutAll s m args below meth c H locs 0 0 Q (F0 m 21 ls []) := by
    intro k2 hk2 st v1 v2 H locs ls hP hD hS hl heq
    unfold X11_cutAll_p21 at heq
    obtain ⟨x_1, ex_1⟩ : ∃ y : Int32, y = v2 + (1 : Int32) := ⟨_, rfl⟩
    have heq := nm_h ex_1 heq
    refine lv_iinc (v := x_1) (lv' := [(2, .int x_1), (0, .ref (a 0)), (1, .int v1)]) hx hb dX11_cutAll_21 hl (k := 2) rfl (by rw [ex_1]; rfl) (by decide) rfl (fun ls hl => ?_)
    refine lv_goto (tgt := 2) hx hb dX11_cutAll_24 (by decide) ?_
    exact hk2 st v1 x_1 H locs ls hP hD hS (lv_sub hl [1, 2, 0] rfl) heq
  have b27 : ∀ (st : MS) (H : Heap) (locs : List Loc) (ls : Array Slot), va_P D vwCl (mW a T st) H → va_D A (mW a T st) → va_S A s.heap H locs → lv_has ls 3 [] → X11_cutAll_p27  st = some ((), st') → W p l e rmX11_cutAll s m args below meth c H locs 0 0 Q (F0 m 27 ls []) := by
    intro st H locs ls hP hD hS hl heq
    unfold X11_cutAll_p27 at heq
    obtain ⟨-, heq2⟩ := ret_h heq
    subst heq2
    exact hret 27 H locs ls hP hD hS dX11_cutAll_27
  have b2 : ∀ (n : Nat), ∀ (st : MS) (v1 : Int32) (v2 : Int32) (H : Heap) (locs : List Loc) (ls : Array Slot), va_P D vwCl (mW a T st) H → va_D A (mW a T st) → va_S A s.heap H locs → lv_has ls 3 [(0, .ref (a 0)), (1, .int v1), (2, .int v2)] → X11_cutAll_p2  n st v1 v2 = some ((), st') → W p l e rmX11_cutAll s m args below meth c H locs 0 0 Q (F0 m 2 ls []) := by
    intro n
    induction n with
    | zero => intro st v1 v2 H locs ls hP hD hS hl heq; cases heq
    | succ n ih =>
      intro st v1 v2 H locs ls hP hD hS hl heq
      rw [X11_cutAll_p2_s] at heq
      refine lv_iload_n hx hb dX11_cutAll_2 rfl (lv_at hl 2 rfl) ?_
      refine lv_bipush (v := (12 : Int32)) hx hb dX11_cutAll_3 (by decide) ?_
      refine lv_icmp_ge (tgt := 27) hx hb dX11_cutAll_5 (by decide) (fun c_2 => ?_) (fun c_2 => ?_)
      · have heq := it_t c_2 heq
        exact b27 st H locs ls hP hD hS (lv_sub hl [] rfl) heq
      have heq := it_f c_2 heq
      refine lv_iload_n hx hb dX11_cutAll_8 rfl (lv_at hl 1 rfl) ?_
      refine lv_iload_n hx hb dX11_cutAll_9 rfl (lv_at hl 2 rfl) ?_
      obtain ⟨y_3, h_4, heq⟩ := bd1_h heq
      refine g_si (own := RX11) (D := D) (As := [.int v1, .int v2]) (rest := []) hx hb hml hown hts (okX11_hasBit l D h_4) (cwS 2 hts gX11_cutAll_X11_hasBit rfl rfl rfl hdX11_hasBit ⟨Nat.le_of_ble_eq_true rfl, Nat.le_of_ble_eq_true rfl⟩) hK hA hP hS rfl hl.1 rfl (Nat.le_of_ble_eq_true rfl) dX11_cutAll_10 ⟨Nat.le_of_ble_eq_true rfl, Nat.le_of_ble_eq_true rfl⟩ (fun H locs hP hS => ?_)
      refine lv_if_eq (tgt := 21) hx hb dX11_cutAll_13 (by decide) (fun c_5 => ?_) (fun c_5 => ?_)
      · have heq := it_t c_5 heq
        exact b21 (fun st v1 v2 => X11_cutAll_p2  n st v1 v2) ih st v1 v2 H locs ls hP hD hS (lv_sub hl [0, 1, 2] rfl) heq
      have heq := it_f c_5 heq
      refine lv_aload_n hx hb dX11_cutAll_16 rfl (lv_at hl 0 rfl) ?_
      refine lv_iload_n hx hb dX11_cutAll_17 rfl (lv_at hl 2 rfl) ?_
      obtain ⟨⟨⟩, st_6, h_7, heq⟩ := bnd_h heq
      refine g_vv (own := RX11) (As := [.int v2]) (rest := []) hx hb hml hown hts (okX11_cut l D a T h_7) (cwV 1 hts gX11_cutAll_X11_cut rfl rfl rfl hdX11_cut ⟨Nat.le_of_ble_eq_true rfl, Nat.le_of_ble_eq_true rfl⟩) hK hA hP hD hS (ci := 11) (q0 := 0) rfl rfl rfl hl.1 rfl (Nat.le_of_ble_eq_true rfl) dX11_cutAll_18 ⟨Nat.le_of_ble_eq_true rfl, Nat.le_of_ble_eq_true rfl⟩ (fun H locs hP hD hS => ?_)
      exact b21 (fun st v1 v2 => X11_cutAll_p2  n st v1 v2) ih st_6 v1 v2 H locs ls hP hD hS (lv_sub hl [0, 1, 2] rfl) heq
  obtain ⟨H, hH⟩ : ∃ H, H = s.heap := ⟨_, rfl⟩
  obtain ⟨locs, hlocs⟩ : ∃ z : List Loc, z = [] := ⟨_, rfl⟩
  have hS : va_S A s.heap H locs := by rw [hH, hlocs]; exact hS
  have hP : va_P D vwCl (mW a T st) H := by rw [hH]; exact hP
  suffices h9 : W p l e rmX11_cutAll s m args below meth c H locs 0 0 Q (F0 m 0 ls []) by rw [hH, hlocs] at h9; exact h9
  clear hH hlocs
  unfold X11_cutAll at heq
  refine lv_iconst (v := (0 : Int32)) hx hb dX11_cutAll_0 (by decide) ?_
  refine lv_istore_n (lv' := [(2, .int (0 : Int32)), (0, .ref (a 0)), (1, .int v1)]) hx hb dX11_cutAll_1 rfl hl (by decide) rfl (fun ls hl => ?_)
  exact b2 13 st v1 (0 : Int32) H locs ls hP hD hS (lv_sub hl [1, 2, 0] rfl) heq
set_option maxRecDepth 20000 in
theorem ggX11_cuts_X11_isSide : GoodIn wsX11_cuts wsX11_isSide := goodIn_r _ [7, 8, 9, 10, 6, 11] (by decide +kernel) (by decide +kernel)
set_option maxRecDepth 20000 in
theorem gX11_cuts_X11_isSide : GoodIn wsX11_cuts (va_wsS RX11 165 yX11_isSide wsX11_isSide) := goodIn_app (goodIn_of _ (by decide +kernel)) ggX11_cuts_X11_isSide
set_option maxRecDepth 20000 in
theorem ggX11_cuts_X11_cut : GoodIn wsX11_cuts wsX11_cut := goodIn_r _ [15, 3, 16, 67, 68, 69, 70, 71, 72, 73, 74, 75, 76, 77, 78, 79, 80, 81, 82, 83, 84, 85, 86, 87, 88, 89, 90, 91, 92, 93, 94, 95, 96, 97, 98, 99, 100, 101, 102, 103] (by decide +kernel) (by decide +kernel)
set_option maxRecDepth 20000 in
theorem gX11_cuts_X11_cut : GoodIn wsX11_cuts (wsV RX11 225 RX11 yX11_cut wsX11_cut) := goodIn_app (goodIn_of _ (by decide +kernel)) ggX11_cuts_X11_cut
set_option maxRecDepth 20000 in
theorem ggX11_cuts_X11_settle : GoodIn wsX11_cuts wsX11_settle := goodIn_r _ [20, 2, 21, 22, 23, 6, 24, 25, 26, 27, 28, 29, 30, 31, 32, 33, 34, 35, 36, 37, 38, 39, 40, 41, 42, 43, 44, 45, 46, 47, 48, 49, 50, 51, 52, 53, 54, 55, 56, 57, 58, 59, 60, 61, 62, 16, 3, 63, 64, 65, 66, 67, 68, 69, 70, 71, 72, 73, 74, 75, 76, 77, 78, 79, 80, 81, 82, 83, 84, 85, 86, 87, 88, 89, 90, 91, 92, 93, 94, 95, 96, 97, 98, 99, 100, 101, 102, 103] (by decide +kernel) (by decide +kernel)
set_option maxRecDepth 20000 in
theorem gX11_cuts_X11_settle : GoodIn wsX11_cuts (wsV RX11 173 RX11 yX11_settle wsX11_settle) := goodIn_app (goodIn_of _ (by decide +kernel)) ggX11_cuts_X11_settle
theorem dX11_cuts_0 : decode cX11_cuts 0 = .ok (.aload_n 0, 1) := by decide +kernel
theorem dX11_cuts_1 : decode cX11_cuts 1 = .ok (.iconst 0, 1) := by decide +kernel
theorem dX11_cuts_2 : decode cX11_cuts 2 = .ok (.putfield 75, 3) := by decide +kernel
theorem dX11_cuts_5 : decode cX11_cuts 5 = .ok (.iload_n 1, 1) := by decide +kernel
theorem dX11_cuts_6 : decode cX11_cuts 6 = .ok (.invokestatic 165, 3) := by decide +kernel
theorem dX11_cuts_9 : decode cX11_cuts 9 = .ok (.ifCond .ne 5, 3) := by decide +kernel
theorem dX11_cuts_12 : decode cX11_cuts 12 = .ok (.iconst (-1), 1) := by decide +kernel
theorem dX11_cuts_13 : decode cX11_cuts 13 = .ok (.ireturn, 1) := by decide +kernel
theorem dX11_cuts_14 : decode cX11_cuts 14 = .ok (.aload_n 0, 1) := by decide +kernel
theorem dX11_cuts_15 : decode cX11_cuts 15 = .ok (.getfield 122, 3) := by decide +kernel
theorem dX11_cuts_18 : decode cX11_cuts 18 = .ok (.ifCond .eq 6, 3) := by decide +kernel
theorem dX11_cuts_21 : decode cX11_cuts 21 = .ok (.bipush (-3), 2) := by decide +kernel
theorem dX11_cuts_23 : decode cX11_cuts 23 = .ok (.ireturn, 1) := by decide +kernel
theorem dX11_cuts_24 : decode cX11_cuts 24 = .ok (.aload_n 0, 1) := by decide +kernel
theorem dX11_cuts_25 : decode cX11_cuts 25 = .ok (.getfield 16, 3) := by decide +kernel
theorem dX11_cuts_28 : decode cX11_cuts 28 = .ok (.iload_n 1, 1) := by decide +kernel
theorem dX11_cuts_29 : decode cX11_cuts 29 = .ok (.iaload, 1) := by decide +kernel
theorem dX11_cuts_30 : decode cX11_cuts 30 = .ok (.istore_n 2, 1) := by decide +kernel
theorem dX11_cuts_31 : decode cX11_cuts 31 = .ok (.aload_n 0, 1) := by decide +kernel
theorem dX11_cuts_32 : decode cX11_cuts 32 = .ok (.iload_n 1, 1) := by decide +kernel
theorem dX11_cuts_33 : decode cX11_cuts 33 = .ok (.invokevirtual 225, 3) := by decide +kernel
theorem dX11_cuts_36 : decode cX11_cuts 36 = .ok (.aload_n 0, 1) := by decide +kernel
theorem dX11_cuts_37 : decode cX11_cuts 37 = .ok (.invokevirtual 173, 3) := by decide +kernel
theorem dX11_cuts_40 : decode cX11_cuts 40 = .ok (.iload_n 2, 1) := by decide +kernel
theorem dX11_cuts_41 : decode cX11_cuts 41 = .ok (.ireturn, 1) := by decide +kernel
/-! cuts -/
def X11_cuts (st : MS) (v1 : Int32) : Option (Int32 × MS) :=
    nm (sF st 17 (0 : Int32)) fun st_1 =>
    bd1 (X11_isSide v1) fun y_2 =>
    if y_2 = 0 then
      (some ((-1 : Int32), st_1))
    else
    if (gF st_1 7) = 0 then
      (inr v1 12 <|
      nm ((gA st_1 2 v1.toNatClampNeg)) fun x_7 =>
      bnd (X11_cut st_1 v1) fun _ st_8 =>
      bnd (X11_settle st_8) fun _ st_10 =>
      some (x_7, st_10))
    else
    some ((-3 : Int32), st_1)
abbrev rmX11_cuts : Room := { frames := 8, cells := 0, slots := 0, locals := 171 }
theorem hdX11_cuts : yX11_cuts.cls = RX11 ∧ yX11_cuts.cls ≠ "java/lang/invoke/MethodHandle" ∧ yX11_cuts.cls ≠ "java/lang/invoke/VarHandle" ∧ (parseMethodDescriptor yX11_cuts.desc).map (fun d => d.parameters.length) = some 1 := by decide +kernel
set_option maxRecDepth 100000 in
set_option maxHeartbeats 4000000 in
theorem okX11_cuts (l : Launch) (D : va_G) (a : Nat → Nat) (T : mT3) {st : MS} {v1 : Int32} {r : Int32} {st' : MS} (heq : X11_cuts st v1 = some (r, st')) : gCi l D (mT T) yX11_cuts wsX11_cuts rmX11_cuts [.ref (a 0), .int v1] (mW a T st) r (mW a T st') := by
  refine g_body_i (by decide) rfl (Nat.le_of_ble_eq_true rfl) (fun p e s m args below meth c A Q hx hb hml hown hts hK hA hret ls hP hD hS hl => ?_)
  have hl : lv_has ls 3 [(0, .ref (a 0)), (1, .int v1)] := hl
  have hin : ∀ w ∈ wsX110, w ∈ wsX11_cuts := fun w h => List.mem_cons_of_mem _ (List.mem_append_right _ h)
  have f16 : (Cond.fieldLink RX11 16 RX11 (TX11 2).2.1 (TX11 2).2.2.1).before args s = true := hts (.fieldLink RX11 16 "LaidDownTheLaneModel" "kinds" "[I") (by decide +kernel)
  have f75 : (Cond.fieldLink RX11 75 RX11 (TX11 17).2.1 (TX11 17).2.2.1).before args s = true := hts (.fieldLink RX11 75 "LaidDownTheLaneModel" "thrown" "I") (by decide +kernel)
  have f122 : (Cond.fieldLink RX11 122 RX11 (TX11 7).2.1 (TX11 7).2.2.1).before args s = true := hts (.fieldLink RX11 122 "LaidDownTheLaneModel" "isDown" "Z") (by decide +kernel)
  obtain ⟨H, hH⟩ : ∃ H, H = s.heap := ⟨_, rfl⟩
  obtain ⟨locs, hlocs⟩ : ∃ z : List Loc, z = [] := ⟨_, rfl⟩
  have hS : va_S A s.heap H locs := by rw [hH, hlocs]; exact hS
  have hP : va_P D vwCl (mW a T st) H := by rw [hH]; exact hP
  suffices h9 : W p l e rmX11_cuts s m args below meth c H locs 0 0 Q (F0 m 0 ls []) by rw [hH, hlocs] at h9; exact h9
  clear hH hlocs
  unfold X11_cuts at heq
  refine lv_aload_n hx hb dX11_cuts_0 rfl (lv_at hl 0 rfl) ?_
  refine lv_iconst (v := (0 : Int32)) hx hb dX11_cuts_1 (by decide) ?_
  refine mp (k := 17) hx hb hts hin hown hK hP hD hS (by decide) f75 dX11_cuts_2 rfl rfl rfl rfl (mset_17 ..) (fun H locs hP hD hS => ?_)
  obtain ⟨st_1, est_1⟩ : ∃ z, z = sF st 17 (0 : Int32) := ⟨_, rfl⟩
  rw [← est_1] at hP hD
  have heq := nm_h est_1 heq
  refine lv_iload_n hx hb dX11_cuts_5 rfl (lv_at hl 1 rfl) ?_
  obtain ⟨y_2, h_3, heq⟩ := bd1_h heq
  refine g_si (own := RX11) (D := D) (As := [.int v1]) (rest := []) hx hb hml hown hts (okX11_isSide l D h_3) (cwS 1 hts gX11_cuts_X11_isSide rfl rfl rfl hdX11_isSide ⟨Nat.le_of_ble_eq_true rfl, Nat.le_of_ble_eq_true rfl⟩) hK hA hP hS rfl hl.1 rfl (Nat.le_of_ble_eq_true rfl) dX11_cuts_6 ⟨Nat.le_of_ble_eq_true rfl, Nat.le_of_ble_eq_true rfl⟩ (fun H locs hP hS => ?_)
  refine lv_if_ne (tgt := 14) hx hb dX11_cuts_9 (by decide) (fun c_4 => ?_) (fun c_4 => ?_)
  · have heq := it_f c_4 heq
    refine lv_aload_n hx hb dX11_cuts_14 rfl (lv_at hl 0 rfl) ?_
    refine mg (k := 7) (v := .int (gF st_1 7)) hx hb hts hin hown hK hP (by decide) f122 rfl dX11_cuts_15 rfl ?_
    refine lv_if_eq (tgt := 24) hx hb dX11_cuts_18 (by decide) (fun c_5 => ?_) (fun c_5 => ?_)
    · have heq := it_t c_5 heq
      refine lv_aload_n hx hb dX11_cuts_24 rfl (lv_at hl 0 rfl) ?_
      refine mg (k := 2) (v := .ref (a 3)) hx hb hts hin hown hK hP (by decide) f16 rfl dX11_cuts_25 rfl ?_
      refine lv_iload_n hx hb dX11_cuts_28 rfl (lv_at hl 1 rfl) ?_
      obtain ⟨n_6, heq⟩ := inr_h heq
      refine mal (k := 2) (q := 3) (n := 12) hx hb hK hP rfl n_6 dX11_cuts_29 ?_
      refine lv_topi (fun x_7 ex_7 => ?_)
      have heq := nm_h ex_7 heq
      refine lv_istore_n (lv' := [(2, .int x_7), (0, .ref (a 0)), (1, .int v1)]) hx hb dX11_cuts_30 rfl hl (by decide) rfl (fun ls hl => ?_)
      refine lv_aload_n hx hb dX11_cuts_31 rfl (lv_at hl 1 rfl) ?_
      refine lv_iload_n hx hb dX11_cuts_32 rfl (lv_at hl 2 rfl) ?_
      obtain ⟨⟨⟩, st_8, h_9, heq⟩ := bnd_h heq
      refine g_vv (own := RX11) (As := [.int v1]) (rest := []) hx hb hml hown hts (okX11_cut l D a T h_9) (cwV 1 hts gX11_cuts_X11_cut rfl rfl rfl hdX11_cut ⟨Nat.le_of_ble_eq_true rfl, Nat.le_of_ble_eq_true rfl⟩) hK hA hP hD hS (ci := 11) (q0 := 0) rfl rfl rfl hl.1 rfl (Nat.le_of_ble_eq_true rfl) dX11_cuts_33 ⟨Nat.le_of_ble_eq_true rfl, Nat.le_of_ble_eq_true rfl⟩ (fun H locs hP hD hS => ?_)
      refine lv_aload_n hx hb dX11_cuts_36 rfl (lv_at hl 1 rfl) ?_
      obtain ⟨⟨⟩, st_10, h_11, heq⟩ := bnd_h heq
      refine g_vv (own := RX11) (As := []) (rest := []) hx hb hml hown hts (okX11_settle l D a T h_11) (cwV 0 hts gX11_cuts_X11_settle rfl rfl rfl hdX11_settle ⟨Nat.le_of_ble_eq_true rfl, Nat.le_of_ble_eq_true rfl⟩) hK hA hP hD hS (ci := 11) (q0 := 0) rfl rfl rfl hl.1 rfl (Nat.le_of_ble_eq_true rfl) dX11_cuts_37 ⟨Nat.le_of_ble_eq_true rfl, Nat.le_of_ble_eq_true rfl⟩ (fun H locs hP hD hS => ?_)
      refine lv_iload_n hx hb dX11_cuts_40 rfl (lv_at hl 0 rfl) ?_
      obtain ⟨heq, heq2⟩ := ret_h heq
      subst heq
      subst heq2
      exact hret 41 H locs ls hP hD hS rfl dX11_cuts_41
    have heq := it_f c_5 heq
    refine lv_bipush (v := (-3 : Int32)) hx hb dX11_cuts_21 (by decide) ?_
    obtain ⟨heq, heq2⟩ := ret_h heq
    subst heq
    subst heq2
    exact hret 23 H locs ls hP hD hS rfl dX11_cuts_23
  have heq := it_t c_4 heq
  refine lv_iconst (v := (-1 : Int32)) hx hb dX11_cuts_12 (by decide) ?_
  obtain ⟨heq, heq2⟩ := ret_h heq
  subst heq
  subst heq2
  exact hret 13 H locs ls hP hD hS rfl dX11_cuts_13
set_option maxRecDepth 20000 in
theorem ggX11_wrongKept_X11_in : GoodIn wsX11_wrongKept wsX11_in := goodIn_r _ [6] (by decide +kernel) (by decide +kernel)
set_option maxRecDepth 20000 in
theorem gX11_wrongKept_X11_in : GoodIn wsX11_wrongKept (va_wsS RX11 81 yX11_in wsX11_in) := goodIn_app (goodIn_of _ (by decide +kernel)) ggX11_wrongKept_X11_in
theorem dX11_wrongKept_0 : decode cX11_wrongKept 0 = .ok (.iload_n 1, 1) := by decide +kernel
theorem dX11_wrongKept_1 : decode cX11_wrongKept 1 = .ok (.i2l, 1) := by decide +kernel
theorem dX11_wrongKept_2 : decode cX11_wrongKept 2 = .ok (.lconst 0, 1) := by decide +kernel
theorem dX11_wrongKept_3 : decode cX11_wrongKept 3 = .ok (.ldc2_w 228, 3) := by decide +kernel
theorem dX11_wrongKept_6 : decode cX11_wrongKept 6 = .ok (.invokestatic 81, 3) := by decide +kernel
theorem dX11_wrongKept_9 : decode cX11_wrongKept 9 = .ok (.ifCond .ne 7, 3) := by decide +kernel
theorem dX11_wrongKept_12 : decode cX11_wrongKept 12 = .ok (.iconst (-1), 1) := by decide +kernel
theorem dX11_wrongKept_13 : decode cX11_wrongKept 13 = .ok (.goto 33, 3) := by decide +kernel
theorem dX11_wrongKept_16 : decode cX11_wrongKept 16 = .ok (.aload_n 0, 1) := by decide +kernel
theorem dX11_wrongKept_17 : decode cX11_wrongKept 17 = .ok (.getfield 31, 3) := by decide +kernel
theorem dX11_wrongKept_20 : decode cX11_wrongKept 20 = .ok (.iload_n 1, 1) := by decide +kernel
theorem dX11_wrongKept_21 : decode cX11_wrongKept 21 = .ok (.iaload, 1) := by decide +kernel
theorem dX11_wrongKept_22 : decode cX11_wrongKept 22 = .ok (.ifCond .ne 8, 3) := by decide +kernel
theorem dX11_wrongKept_25 : decode cX11_wrongKept 25 = .ok (.bipush (-11), 2) := by decide +kernel
theorem dX11_wrongKept_27 : decode cX11_wrongKept 27 = .ok (.goto 19, 3) := by decide +kernel
theorem dX11_wrongKept_30 : decode cX11_wrongKept 30 = .ok (.aload_n 0, 1) := by decide +kernel
theorem dX11_wrongKept_31 : decode cX11_wrongKept 31 = .ok (.getfield 31, 3) := by decide +kernel
theorem dX11_wrongKept_34 : decode cX11_wrongKept 34 = .ok (.iload_n 1, 1) := by decide +kernel
theorem dX11_wrongKept_35 : decode cX11_wrongKept 35 = .ok (.iaload, 1) := by decide +kernel
theorem dX11_wrongKept_36 : decode cX11_wrongKept 36 = .ok (.iconst 1, 1) := by decide +kernel
theorem dX11_wrongKept_37 : decode cX11_wrongKept 37 = .ok (.if_icmp .eq 8, 3) := by decide +kernel
theorem dX11_wrongKept_40 : decode cX11_wrongKept 40 = .ok (.bipush (-12), 2) := by decide +kernel
theorem dX11_wrongKept_42 : decode cX11_wrongKept 42 = .ok (.goto 4, 3) := by decide +kernel
theorem dX11_wrongKept_45 : decode cX11_wrongKept 45 = .ok (.iconst 0, 1) := by decide +kernel
theorem dX11_wrongKept_46 : decode cX11_wrongKept 46 = .ok (.ireturn, 1) := by decide +kernel
/-! wrongKept -/
def X11_wrongKept_p46 (st : MS) (t0 : Int32) : Option (Int32 × MS) :=
    some (t0, st)
def X11_wrongKept (st : MS) (v1 : Int32) : Option (Int32 × MS) :=
    bd1 (X11_in (v1.toInt64) (0 : Int64) (7 : Int64)) fun y_1 =>
    if y_1 = 0 then
      (X11_wrongKept_p46 st (-1 : Int32))
    else
    inr v1 8 <|
    if (gA st 11 v1.toNatClampNeg) = 0 then
      (X11_wrongKept_p46 st (-11 : Int32))
    else
    inr v1 8 <|
    if (gA st 11 v1.toNatClampNeg) = (1 : Int32) then
      (X11_wrongKept_p46 st (0 : Int32))
    else
    X11_wrongKept_p46 st (-12 : Int32)
abbrev rmX11_wrongKept : Room := { frames := 1, cells := 0, slots := 0, locals := 25 }
theorem hdX11_wrongKept : yX11_wrongKept.cls = RX11 ∧ yX11_wrongKept.cls ≠ "java/lang/invoke/MethodHandle" ∧ yX11_wrongKept.cls ≠ "java/lang/invoke/VarHandle" ∧ (parseMethodDescriptor yX11_wrongKept.desc).map (fun d => d.parameters.length) = some 1 := by decide +kernel
set_option maxRecDepth 100000 in
set_option maxHeartbeats 4000000 in
theorem okX11_wrongKept (l : Launch) (D : va_G) (a : Nat → Nat) (T : mT3) {st : MS} {v1 : Int32} {r : Int32} {st' : MS} (heq : X11_wrongKept st v1 = some (r, st')) : gCi l D (mT T) yX11_wrongKept wsX11_wrongKept rmX11_wrongKept [.ref (a 0), .int v1] (mW a T st) r (mW a T st') := by
  refine g_body_i (by decide) rfl (Nat.le_of_ble_eq_true rfl) (fun p e s m args below meth c A Q hx hb hml hown hts hK hA hret ls hP hD hS hl => ?_)
  have hl : lv_has ls 2 [(0, .ref (a 0)), (1, .int v1)] := hl
  have hin : ∀ w ∈ wsX110, w ∈ wsX11_wrongKept := fun w h => List.mem_cons_of_mem _ (List.mem_append_right _ h)
  have f31 : (Cond.fieldLink RX11 31 RX11 (TX11 11).2.1 (TX11 11).2.2.1).before args s = true := hts (.fieldLink RX11 31 "LaidDownTheLaneModel" "holdsWhat" "[I") (by decide +kernel)
  have c228 := hts (.constantLong RX11 228 (7)) (by decide +kernel)
  have b46 : ∀ (st : MS) (t0 : Int32) (H : Heap) (locs : List Loc) (ls : Array Slot), va_P D vwCl (mW a T st) H → va_D A (mW a T st) → va_S A s.heap H locs → lv_has ls 2 [] → X11_wrongKept_p46  st t0 = some (r, st') → W p l e rmX11_wrongKept s m args below meth c H locs 0 0 Q (F0 m 46 ls [.int t0]) := by
    intro st t0 H locs ls hP hD hS hl heq
    unfold X11_wrongKept_p46 at heq
    obtain ⟨heq, heq2⟩ := ret_h heq
    subst heq
    subst heq2
    exact hret 46 H locs ls hP hD hS rfl dX11_wrongKept_46
  obtain ⟨H, hH⟩ : ∃ H, H = s.heap := ⟨_, rfl⟩
  obtain ⟨locs, hlocs⟩ : ∃ z : List Loc, z = [] := ⟨_, rfl⟩
  have hS : va_S A s.heap H locs := by rw [hH, hlocs]; exact hS
  have hP : va_P D vwCl (mW a T st) H := by rw [hH]; exact hP
  suffices h9 : W p l e rmX11_wrongKept s m args below meth c H locs 0 0 Q (F0 m 0 ls []) by rw [hH, hlocs] at h9; exact h9
  clear hH hlocs
  unfold X11_wrongKept at heq
  refine lv_iload_n hx hb dX11_wrongKept_0 rfl (lv_at hl 1 rfl) ?_
  refine lv_i2l hx hb dX11_wrongKept_1 rfl ?_
  refine lv_lconst (v := (0 : Int64)) hx hb dX11_wrongKept_2 (by decide) ?_
  refine lv_ldc2 (v := (7 : Int64)) hx hb hown c228 dX11_wrongKept_3 ?_
  obtain ⟨y_1, h_2, heq⟩ := bd1_h heq
  refine g_si (own := RX11) (D := D) (As := [.long (v1.toInt64), .long (0 : Int64), .long (7 : Int64)]) (rest := []) hx hb hml hown hts (okX11_in l D h_2) (cwS 3 hts gX11_wrongKept_X11_in rfl rfl rfl hdX11_in ⟨Nat.le_of_ble_eq_true rfl, Nat.le_of_ble_eq_true rfl⟩) hK hA hP hS rfl hl.1 rfl (Nat.le_of_ble_eq_true rfl) dX11_wrongKept_6 ⟨Nat.le_of_ble_eq_true rfl, Nat.le_of_ble_eq_true rfl⟩ (fun H locs hP hS => ?_)
  refine lv_if_ne (tgt := 16) hx hb dX11_wrongKept_9 (by decide) (fun c_3 => ?_) (fun c_3 => ?_)
  · have heq := it_f c_3 heq
    refine lv_aload_n hx hb dX11_wrongKept_16 rfl (lv_at hl 0 rfl) ?_
    refine mg (k := 11) (v := .ref (a 8)) hx hb hts hin hown hK hP (by decide) f31 rfl dX11_wrongKept_17 rfl ?_
    refine lv_iload_n hx hb dX11_wrongKept_20 rfl (lv_at hl 1 rfl) ?_
    obtain ⟨n_4, heq⟩ := inr_h heq
    refine mal (k := 11) (q := 8) (n := 8) hx hb hK hP rfl n_4 dX11_wrongKept_21 ?_
    refine lv_if_ne (tgt := 30) hx hb dX11_wrongKept_22 (by decide) (fun c_5 => ?_) (fun c_5 => ?_)
    · have heq := it_f c_5 heq
      refine lv_aload_n hx hb dX11_wrongKept_30 rfl (lv_at hl 0 rfl) ?_
      refine mg (k := 11) (v := .ref (a 8)) hx hb hts hin hown hK hP (by decide) f31 rfl dX11_wrongKept_31 rfl ?_
      refine lv_iload_n hx hb dX11_wrongKept_34 rfl (lv_at hl 1 rfl) ?_
      obtain ⟨n_6, heq⟩ := inr_h heq
      refine mal (k := 11) (q := 8) (n := 8) hx hb hK hP rfl n_6 dX11_wrongKept_35 ?_
      refine lv_iconst (v := (1 : Int32)) hx hb dX11_wrongKept_36 (by decide) ?_
      refine lv_icmp_eq (tgt := 45) hx hb dX11_wrongKept_37 (by decide) (fun c_7 => ?_) (fun c_7 => ?_)
      · have heq := it_t c_7 heq
        refine lv_iconst (v := (0 : Int32)) hx hb dX11_wrongKept_45 (by decide) ?_
        exact b46 st (0 : Int32) H locs ls hP hD hS (lv_sub hl [] rfl) heq
      have heq := it_f c_7 heq
      refine lv_bipush (v := (-12 : Int32)) hx hb dX11_wrongKept_40 (by decide) ?_
      refine lv_goto (tgt := 46) hx hb dX11_wrongKept_42 (by decide) ?_
      exact b46 st (-12 : Int32) H locs ls hP hD hS (lv_sub hl [] rfl) heq
    have heq := it_t c_5 heq
    refine lv_bipush (v := (-11 : Int32)) hx hb dX11_wrongKept_25 (by decide) ?_
    refine lv_goto (tgt := 46) hx hb dX11_wrongKept_27 (by decide) ?_
    exact b46 st (-11 : Int32) H locs ls hP hD hS (lv_sub hl [] rfl) heq
  have heq := it_t c_3 heq
  refine lv_iconst (v := (-1 : Int32)) hx hb dX11_wrongKept_12 (by decide) ?_
  refine lv_goto (tgt := 46) hx hb dX11_wrongKept_13 (by decide) ?_
  exact b46 st (-1 : Int32) H locs ls hP hD hS (lv_sub hl [] rfl) heq
set_option maxRecDepth 20000 in
theorem ggX11_lays_X11_isSide : GoodIn wsX11_lays wsX11_isSide := goodIn_r _ [10, 11, 12, 13, 9, 14] (by decide +kernel) (by decide +kernel)
set_option maxRecDepth 20000 in
theorem gX11_lays_X11_isSide : GoodIn wsX11_lays (va_wsS RX11 165 yX11_isSide wsX11_isSide) := goodIn_app (goodIn_of _ (by decide +kernel)) ggX11_lays_X11_isSide
set_option maxRecDepth 20000 in
theorem ggX11_lays_X11_wrongKept : GoodIn wsX11_lays wsX11_wrongKept := goodIn_r _ [18, 19, 20, 12, 13, 9, 14, 71, 72, 73, 74, 75, 76, 77, 78, 79, 80, 81, 82, 83, 84, 85, 86, 87, 88, 89, 90, 91, 92, 93, 94, 95, 96, 97, 98, 99, 100, 101, 102, 103, 104, 105, 106, 107] (by decide +kernel) (by decide +kernel)
set_option maxRecDepth 20000 in
theorem gX11_lays_X11_wrongKept : GoodIn wsX11_lays (wsV RX11 230 RX11 yX11_wrongKept wsX11_wrongKept) := goodIn_app (goodIn_of _ (by decide +kernel)) ggX11_lays_X11_wrongKept
set_option maxRecDepth 20000 in
theorem ggX11_lays_X11_settle : GoodIn wsX11_lays wsX11_settle := goodIn_r _ [24, 2, 25, 26, 27, 9, 28, 29, 30, 31, 32, 33, 34, 35, 36, 37, 38, 39, 40, 41, 42, 43, 44, 45, 46, 47, 48, 49, 50, 51, 52, 53, 54, 55, 56, 57, 58, 59, 60, 61, 62, 63, 64, 65, 66, 5, 3, 67, 68, 69, 70, 71, 72, 73, 74, 75, 76, 77, 78, 79, 80, 81, 82, 83, 84, 85, 86, 87, 88, 89, 90, 91, 92, 93, 94, 95, 96, 97, 98, 99, 100, 101, 102, 103, 104, 105, 106, 107] (by decide +kernel) (by decide +kernel)
set_option maxRecDepth 20000 in
theorem gX11_lays_X11_settle : GoodIn wsX11_lays (wsV RX11 173 RX11 yX11_settle wsX11_settle) := goodIn_app (goodIn_of _ (by decide +kernel)) ggX11_lays_X11_settle
theorem dX11_lays_0 : decode cX11_lays 0 = .ok (.aload_n 0, 1) := by decide +kernel
theorem dX11_lays_1 : decode cX11_lays 1 = .ok (.iconst 0, 1) := by decide +kernel
theorem dX11_lays_2 : decode cX11_lays 2 = .ok (.putfield 75, 3) := by decide +kernel
theorem dX11_lays_5 : decode cX11_lays 5 = .ok (.iload_n 2, 1) := by decide +kernel
theorem dX11_lays_6 : decode cX11_lays 6 = .ok (.invokestatic 165, 3) := by decide +kernel
theorem dX11_lays_9 : decode cX11_lays 9 = .ok (.ifCond .eq 11, 3) := by decide +kernel
theorem dX11_lays_12 : decode cX11_lays 12 = .ok (.aload_n 0, 1) := by decide +kernel
theorem dX11_lays_13 : decode cX11_lays 13 = .ok (.iload_n 1, 1) := by decide +kernel
theorem dX11_lays_14 : decode cX11_lays 14 = .ok (.invokevirtual 230, 3) := by decide +kernel
theorem dX11_lays_17 : decode cX11_lays 17 = .ok (.goto 4, 3) := by decide +kernel
theorem dX11_lays_20 : decode cX11_lays 20 = .ok (.iconst (-1), 1) := by decide +kernel
theorem dX11_lays_21 : decode cX11_lays 21 = .ok (.istore_n 3, 1) := by decide +kernel
theorem dX11_lays_22 : decode cX11_lays 22 = .ok (.iload_n 3, 1) := by decide +kernel
theorem dX11_lays_23 : decode cX11_lays 23 = .ok (.ifCond .ne 15, 3) := by decide +kernel
theorem dX11_lays_26 : decode cX11_lays 26 = .ok (.aload_n 0, 1) := by decide +kernel
theorem dX11_lays_27 : decode cX11_lays 27 = .ok (.getfield 122, 3) := by decide +kernel
theorem dX11_lays_30 : decode cX11_lays 30 = .ok (.ifCond .eq 8, 3) := by decide +kernel
theorem dX11_lays_33 : decode cX11_lays 33 = .ok (.bipush (-3), 2) := by decide +kernel
theorem dX11_lays_35 : decode cX11_lays 35 = .ok (.goto 4, 3) := by decide +kernel
theorem dX11_lays_38 : decode cX11_lays 38 = .ok (.iload_n 3, 1) := by decide +kernel
theorem dX11_lays_39 : decode cX11_lays 39 = .ok (.istore_n 3, 1) := by decide +kernel
theorem dX11_lays_40 : decode cX11_lays 40 = .ok (.iload_n 3, 1) := by decide +kernel
theorem dX11_lays_41 : decode cX11_lays 41 = .ok (.ifCond .ge 5, 3) := by decide +kernel
theorem dX11_lays_44 : decode cX11_lays 44 = .ok (.iload_n 3, 1) := by decide +kernel
theorem dX11_lays_45 : decode cX11_lays 45 = .ok (.ireturn, 1) := by decide +kernel
theorem dX11_lays_46 : decode cX11_lays 46 = .ok (.aload_n 0, 1) := by decide +kernel
theorem dX11_lays_47 : decode cX11_lays 47 = .ok (.getfield 16, 3) := by decide +kernel
theorem dX11_lays_50 : decode cX11_lays 50 = .ok (.iload_n 2, 1) := by decide +kernel
theorem dX11_lays_51 : decode cX11_lays 51 = .ok (.iaload, 1) := by decide +kernel
theorem dX11_lays_52 : decode cX11_lays 52 = .ok (.istore 4, 2) := by decide +kernel
theorem dX11_lays_54 : decode cX11_lays 54 = .ok (.aload_n 0, 1) := by decide +kernel
theorem dX11_lays_55 : decode cX11_lays 55 = .ok (.getfield 16, 3) := by decide +kernel
theorem dX11_lays_58 : decode cX11_lays 58 = .ok (.iload_n 2, 1) := by decide +kernel
theorem dX11_lays_59 : decode cX11_lays 59 = .ok (.aload_n 0, 1) := by decide +kernel
theorem dX11_lays_60 : decode cX11_lays 60 = .ok (.getfield 34, 3) := by decide +kernel
theorem dX11_lays_63 : decode cX11_lays 63 = .ok (.iload_n 1, 1) := by decide +kernel
theorem dX11_lays_64 : decode cX11_lays 64 = .ok (.iaload, 1) := by decide +kernel
theorem dX11_lays_65 : decode cX11_lays 65 = .ok (.iastore, 1) := by decide +kernel
theorem dX11_lays_66 : decode cX11_lays 66 = .ok (.aload_n 0, 1) := by decide +kernel
theorem dX11_lays_67 : decode cX11_lays 67 = .ok (.getfield 19, 3) := by decide +kernel
theorem dX11_lays_70 : decode cX11_lays 70 = .ok (.iload_n 2, 1) := by decide +kernel
theorem dX11_lays_71 : decode cX11_lays 71 = .ok (.aload_n 0, 1) := by decide +kernel
theorem dX11_lays_72 : decode cX11_lays 72 = .ok (.getfield 37, 3) := by decide +kernel
theorem dX11_lays_75 : decode cX11_lays 75 = .ok (.iload_n 1, 1) := by decide +kernel
theorem dX11_lays_76 : decode cX11_lays 76 = .ok (.iaload, 1) := by decide +kernel
theorem dX11_lays_77 : decode cX11_lays 77 = .ok (.iastore, 1) := by decide +kernel
theorem dX11_lays_78 : decode cX11_lays 78 = .ok (.aload_n 0, 1) := by decide +kernel
theorem dX11_lays_79 : decode cX11_lays 79 = .ok (.invokevirtual 173, 3) := by decide +kernel
theorem dX11_lays_82 : decode cX11_lays 82 = .ok (.iload 4, 2) := by decide +kernel
theorem dX11_lays_84 : decode cX11_lays 84 = .ok (.ireturn, 1) := by decide +kernel
/-! lays -/
def X11_lays_p39 (st : MS) (v1 : Int32) (v2 : Int32) (t0 : Int32) : Option (Int32 × MS) :=
    if 0 ≤ t0 then
      (inr v2 12 <|
      nm ((gA st 2 v2.toNatClampNeg)) fun x_3 =>
      inr v1 8 <|
      inr v2 12 <|
      nm (sA st 2 v2.toNatClampNeg (gA st 12 v1.toNatClampNeg)) fun st_6 =>
      inr v1 8 <|
      inr v2 12 <|
      nm (sA st_6 3 v2.toNatClampNeg (gA st_6 13 v1.toNatClampNeg)) fun st_9 =>
      bnd (X11_settle st_9) fun _ st_10 =>
      some (x_3, st_10))
    else
    some (t0, st)
def X11_lays_p38 (st : MS) (v1 : Int32) (v2 : Int32) (v3 : Int32) : Option (Int32 × MS) :=
    X11_lays_p39 st v1 v2 v3
def X11_lays_p21 (st : MS) (v1 : Int32) (v2 : Int32) (t0 : Int32) : Option (Int32 × MS) :=
    if t0 = 0 then
      (if (gF st 7) = 0 then
        (X11_lays_p38 st v1 v2 t0)
      else
      X11_lays_p39 st v1 v2 (-3 : Int32))
    else
    X11_lays_p38 st v1 v2 t0
def X11_lays (st : MS) (v1 : Int32) (v2 : Int32) : Option (Int32 × MS) :=
    nm (sF st 17 (0 : Int32)) fun st_14 =>
    bd1 (X11_isSide v2) fun y_15 =>
    if y_15 = 0 then
      (X11_lays_p21 st_14 v1 v2 (-1 : Int32))
    else
    bnd (X11_wrongKept st_14 v1) fun y_19 st_18 =>
    X11_lays_p21 st_18 v1 v2 y_19
abbrev rmX11_lays : Room := { frames := 8, cells := 0, slots := 0, locals := 171 }
theorem hdX11_lays : yX11_lays.cls = RX11 ∧ yX11_lays.cls ≠ "java/lang/invoke/MethodHandle" ∧ yX11_lays.cls ≠ "java/lang/invoke/VarHandle" ∧ (parseMethodDescriptor yX11_lays.desc).map (fun d => d.parameters.length) = some 2 := by decide +kernel
set_option maxRecDepth 100000 in
set_option maxHeartbeats 4000000 in
theorem okX11_lays (l : Launch) (D : va_G) (a : Nat → Nat) (T : mT3) {st : MS} {v1 : Int32} {v2 : Int32} {r : Int32} {st' : MS} (heq : X11_lays st v1 v2 = some (r, st')) : gCi l D (mT T) yX11_lays wsX11_lays rmX11_lays [.ref (a 0), .int v1, .int v2] (mW a T st) r (mW a T st') := by
  refine g_body_i (by decide) rfl (Nat.le_of_ble_eq_true rfl) (fun p e s m args below meth c A Q hx hb hml hown hts hK hA hret ls hP hD hS hl => ?_)
  have hl : lv_has ls 5 [(0, .ref (a 0)), (1, .int v1), (2, .int v2)] := hl
  have hin : ∀ w ∈ wsX110, w ∈ wsX11_lays := fun w h => List.mem_cons_of_mem _ (List.mem_append_right _ h)
  have f16 : (Cond.fieldLink RX11 16 RX11 (TX11 2).2.1 (TX11 2).2.2.1).before args s = true := hts (.fieldLink RX11 16 "LaidDownTheLaneModel" "kinds" "[I") (by decide +kernel)
  have f19 : (Cond.fieldLink RX11 19 RX11 (TX11 3).2.1 (TX11 3).2.2.1).before args s = true := hts (.fieldLink RX11 19 "LaidDownTheLaneModel" "figures" "[I") (by decide +kernel)
  have f34 : (Cond.fieldLink RX11 34 RX11 (TX11 12).2.1 (TX11 12).2.2.1).before args s = true := hts (.fieldLink RX11 34 "LaidDownTheLaneModel" "keptKind" "[I") (by decide +kernel)
  have f37 : (Cond.fieldLink RX11 37 RX11 (TX11 13).2.1 (TX11 13).2.2.1).before args s = true := hts (.fieldLink RX11 37 "LaidDownTheLaneModel" "keptFigure" "[I") (by decide +kernel)
  have f75 : (Cond.fieldLink RX11 75 RX11 (TX11 17).2.1 (TX11 17).2.2.1).before args s = true := hts (.fieldLink RX11 75 "LaidDownTheLaneModel" "thrown" "I") (by decide +kernel)
  have f122 : (Cond.fieldLink RX11 122 RX11 (TX11 7).2.1 (TX11 7).2.2.1).before args s = true := hts (.fieldLink RX11 122 "LaidDownTheLaneModel" "isDown" "Z") (by decide +kernel)
  have b39 : ∀ (st : MS) (v1 : Int32) (v2 : Int32) (t0 : Int32) (H : Heap) (locs : List Loc) (ls : Array Slot), va_P D vwCl (mW a T st) H → va_D A (mW a T st) → va_S A s.heap H locs → lv_has ls 5 [(0, .ref (a 0)), (1, .int v1), (2, .int v2)] → X11_lays_p39  st v1 v2 t0 = some (r, st') → W p l e rmX11_lays s m args below meth c H locs 0 0 Q (F0 m 39 ls [.int t0]) := by
    intro st v1 v2 t0 H locs ls hP hD hS hl heq
    unfold X11_lays_p39 at heq
    refine lv_istore_n (lv' := [(3, .int t0), (0, .ref (a 0)), (1, .int v1), (2, .int v2)]) hx hb dX11_lays_39 rfl hl (by decide) rfl (fun ls hl => ?_)
    refine lv_iload_n hx hb dX11_lays_40 rfl (lv_at hl 0 rfl) ?_
    refine lv_if_ge (tgt := 46) hx hb dX11_lays_41 (by decide) (fun c_1 => ?_) (fun c_1 => ?_)
    · have heq := it_t c_1 heq
      refine lv_aload_n hx hb dX11_lays_46 rfl (lv_at hl 1 rfl) ?_
      refine mg (k := 2) (v := .ref (a 3)) hx hb hts hin hown hK hP (by decide) f16 rfl dX11_lays_47 rfl ?_
      refine lv_iload_n hx hb dX11_lays_50 rfl (lv_at hl 3 rfl) ?_
      obtain ⟨n_2, heq⟩ := inr_h heq
      refine mal (k := 2) (q := 3) (n := 12) hx hb hK hP rfl n_2 dX11_lays_51 ?_
      refine lv_topi (fun x_3 ex_3 => ?_)
      have heq := nm_h ex_3 heq
      refine lv_istore (lv' := [(4, .int x_3), (3, .int t0), (0, .ref (a 0)), (1, .int v1), (2, .int v2)]) hx hb dX11_lays_52 hl (by decide) rfl (fun ls hl => ?_)
      refine lv_aload_n hx hb dX11_lays_54 rfl (lv_at hl 2 rfl) ?_
      refine mg (k := 2) (v := .ref (a 3)) hx hb hts hin hown hK hP (by decide) f16 rfl dX11_lays_55 rfl ?_
      refine lv_iload_n hx hb dX11_lays_58 rfl (lv_at hl 4 rfl) ?_
      refine lv_aload_n hx hb dX11_lays_59 rfl (lv_at hl 2 rfl) ?_
      refine mg (k := 12) (v := .ref (a 9)) hx hb hts hin hown hK hP (by decide) f34 rfl dX11_lays_60 rfl ?_
      refine lv_iload_n hx hb dX11_lays_63 rfl (lv_at hl 3 rfl) ?_
      obtain ⟨n_4, heq⟩ := inr_h heq
      refine mal (k := 12) (q := 9) (n := 8) hx hb hK hP rfl n_4 dX11_lays_64 ?_
      obtain ⟨n_5, heq⟩ := inr_h heq
      refine mas (k := 2) (q := 3) (n := 12) hx hb hK hP hD hS rfl (maset_2 ..) n_5 dX11_lays_65 (fun H locs hP hD hS => ?_)
      obtain ⟨st_6, est_6⟩ : ∃ z, z = sA st 2 v2.toNatClampNeg (gA st 12 v1.toNatClampNeg) := ⟨_, rfl⟩
      rw [← est_6] at hP hD
      have heq := nm_h est_6 heq
      refine lv_aload_n hx hb dX11_lays_66 rfl (lv_at hl 2 rfl) ?_
      refine mg (k := 3) (v := .ref (a 4)) hx hb hts hin hown hK hP (by decide) f19 rfl dX11_lays_67 rfl ?_
      refine lv_iload_n hx hb dX11_lays_70 rfl (lv_at hl 4 rfl) ?_
      refine lv_aload_n hx hb dX11_lays_71 rfl (lv_at hl 2 rfl) ?_
      refine mg (k := 13) (v := .ref (a 10)) hx hb hts hin hown hK hP (by decide) f37 rfl dX11_lays_72 rfl ?_
      refine lv_iload_n hx hb dX11_lays_75 rfl (lv_at hl 3 rfl) ?_
      obtain ⟨n_7, heq⟩ := inr_h heq
      refine mal (k := 13) (q := 10) (n := 8) hx hb hK hP rfl n_7 dX11_lays_76 ?_
      obtain ⟨n_8, heq⟩ := inr_h heq
      refine mas (k := 3) (q := 4) (n := 12) hx hb hK hP hD hS rfl (maset_3 ..) n_8 dX11_lays_77 (fun H locs hP hD hS => ?_)
      obtain ⟨st_9, est_9⟩ : ∃ z, z = sA st_6 3 v2.toNatClampNeg (gA st_6 13 v1.toNatClampNeg) := ⟨_, rfl⟩
      rw [← est_9] at hP hD
      have heq := nm_h est_9 heq
      refine lv_aload_n hx hb dX11_lays_78 rfl (lv_at hl 2 rfl) ?_
      obtain ⟨⟨⟩, st_10, h_11, heq⟩ := bnd_h heq
      refine g_vv (own := RX11) (As := []) (rest := []) hx hb hml hown hts (okX11_settle l D a T h_11) (cwV 0 hts gX11_lays_X11_settle rfl rfl rfl hdX11_settle ⟨Nat.le_of_ble_eq_true rfl, Nat.le_of_ble_eq_true rfl⟩) hK hA hP hD hS (ci := 11) (q0 := 0) rfl rfl rfl hl.1 rfl (Nat.le_of_ble_eq_true rfl) dX11_lays_79 ⟨Nat.le_of_ble_eq_true rfl, Nat.le_of_ble_eq_true rfl⟩ (fun H locs hP hD hS => ?_)
      refine lv_iload hx hb dX11_lays_82 (lv_at hl 0 rfl) ?_
      obtain ⟨heq, heq2⟩ := ret_h heq
      subst heq
      subst heq2
      exact hret 84 H locs ls hP hD hS rfl dX11_lays_84
    have heq := it_f c_1 heq
    refine lv_iload_n hx hb dX11_lays_44 rfl (lv_at hl 0 rfl) ?_
    obtain ⟨heq, heq2⟩ := ret_h heq
    subst heq
    subst heq2
    exact hret 45 H locs ls hP hD hS rfl dX11_lays_45
  have b38 : ∀ (st : MS) (v1 : Int32) (v2 : Int32) (v3 : Int32) (H : Heap) (locs : List Loc) (ls : Array Slot), va_P D vwCl (mW a T st) H → va_D A (mW a T st) → va_S A s.heap H locs → lv_has ls 5 [(0, .ref (a 0)), (1, .int v1), (2, .int v2), (3, .int v3)] → X11_lays_p38  st v1 v2 v3 = some (r, st') → W p l e rmX11_lays s m args below meth c H locs 0 0 Q (F0 m 38 ls []) := by
    intro st v1 v2 v3 H locs ls hP hD hS hl heq
    unfold X11_lays_p38 at heq
    refine lv_iload_n hx hb dX11_lays_38 rfl (lv_at hl 3 rfl) ?_
    exact b39 st v1 v2 v3 H locs ls hP hD hS (lv_sub hl [0, 1, 2] rfl) heq
  have b21 : ∀ (st : MS) (v1 : Int32) (v2 : Int32) (t0 : Int32) (H : Heap) (locs : List Loc) (ls : Array Slot), va_P D vwCl (mW a T st) H → va_D A (mW a T st) → va_S A s.heap H locs → lv_has ls 5 [(0, .ref (a 0)), (1, .int v1), (2, .int v2)] → X11_lays_p21  st v1 v2 t0 = some (r, st') → W p l e rmX11_lays s m args below meth c H locs 0 0 Q (F0 m 21 ls [.int t0]) := by
    intro st v1 v2 t0 H locs ls hP hD hS hl heq
    unfold X11_lays_p21 at heq
    refine lv_istore_n (lv' := [(3, .int t0), (0, .ref (a 0)), (1, .int v1), (2, .int v2)]) hx hb dX11_lays_21 rfl hl (by decide) rfl (fun ls hl => ?_)
    refine lv_iload_n hx hb dX11_lays_22 rfl (lv_at hl 0 rfl) ?_
    refine lv_if_ne (tgt := 38) hx hb dX11_lays_23 (by decide) (fun c_12 => ?_) (fun c_12 => ?_)
    · have heq := it_f c_12 heq
      exact b38 st v1 v2 t0 H locs ls hP hD hS (lv_sub hl [1, 2, 3, 0] rfl) heq
    have heq := it_t c_12 heq
    refine lv_aload_n hx hb dX11_lays_26 rfl (lv_at hl 1 rfl) ?_
    refine mg (k := 7) (v := .int (gF st 7)) hx hb hts hin hown hK hP (by decide) f122 rfl dX11_lays_27 rfl ?_
    refine lv_if_eq (tgt := 38) hx hb dX11_lays_30 (by decide) (fun c_13 => ?_) (fun c_13 => ?_)
    · have heq := it_t c_13 heq
      exact b38 st v1 v2 t0 H locs ls hP hD hS (lv_sub hl [1, 2, 3, 0] rfl) heq
    have heq := it_f c_13 heq
    refine lv_bipush (v := (-3 : Int32)) hx hb dX11_lays_33 (by decide) ?_
    refine lv_goto (tgt := 39) hx hb dX11_lays_35 (by decide) ?_
    exact b39 st v1 v2 (-3 : Int32) H locs ls hP hD hS (lv_sub hl [1, 2, 3] rfl) heq
  obtain ⟨H, hH⟩ : ∃ H, H = s.heap := ⟨_, rfl⟩
  obtain ⟨locs, hlocs⟩ : ∃ z : List Loc, z = [] := ⟨_, rfl⟩
  have hS : va_S A s.heap H locs := by rw [hH, hlocs]; exact hS
  have hP : va_P D vwCl (mW a T st) H := by rw [hH]; exact hP
  suffices h9 : W p l e rmX11_lays s m args below meth c H locs 0 0 Q (F0 m 0 ls []) by rw [hH, hlocs] at h9; exact h9
  clear hH hlocs
  unfold X11_lays at heq
  refine lv_aload_n hx hb dX11_lays_0 rfl (lv_at hl 0 rfl) ?_
  refine lv_iconst (v := (0 : Int32)) hx hb dX11_lays_1 (by decide) ?_
  refine mp (k := 17) hx hb hts hin hown hK hP hD hS (by decide) f75 dX11_lays_2 rfl rfl rfl rfl (mset_17 ..) (fun H locs hP hD hS => ?_)
  obtain ⟨st_14, est_14⟩ : ∃ z, z = sF st 17 (0 : Int32) := ⟨_, rfl⟩
  rw [← est_14] at hP hD
  have heq := nm_h est_14 heq
  refine lv_iload_n hx hb dX11_lays_5 rfl (lv_at hl 2 rfl) ?_
  obtain ⟨y_15, h_16, heq⟩ := bd1_h heq
  refine g_si (own := RX11) (D := D) (As := [.int v2]) (rest := []) hx hb hml hown hts (okX11_isSide l D h_16) (cwS 1 hts gX11_lays_X11_isSide rfl rfl rfl hdX11_isSide ⟨Nat.le_of_ble_eq_true rfl, Nat.le_of_ble_eq_true rfl⟩) hK hA hP hS rfl hl.1 rfl (Nat.le_of_ble_eq_true rfl) dX11_lays_6 ⟨Nat.le_of_ble_eq_true rfl, Nat.le_of_ble_eq_true rfl⟩ (fun H locs hP hS => ?_)
  refine lv_if_eq (tgt := 20) hx hb dX11_lays_9 (by decide) (fun c_17 => ?_) (fun c_17 => ?_)
  · have heq := it_t c_17 heq
    refine lv_iconst (v := (-1 : Int32)) hx hb dX11_lays_20 (by decide) ?_
    exact b21 st_14 v1 v2 (-1 : Int32) H locs ls hP hD hS (lv_sub hl [0, 1, 2] rfl) heq
  have heq := it_f c_17 heq
  refine lv_aload_n hx hb dX11_lays_12 rfl (lv_at hl 0 rfl) ?_
  refine lv_iload_n hx hb dX11_lays_13 rfl (lv_at hl 1 rfl) ?_
  obtain ⟨y_19, st_18, h_20, heq⟩ := bnd_h heq
  refine g_vi (own := RX11) (As := [.int v1]) (rest := []) hx hb hml hown hts (okX11_wrongKept l D a T h_20) (cwV 1 hts gX11_lays_X11_wrongKept rfl rfl rfl hdX11_wrongKept ⟨Nat.le_of_ble_eq_true rfl, Nat.le_of_ble_eq_true rfl⟩) hK hA hP hD hS (ci := 11) (q0 := 0) rfl rfl rfl hl.1 rfl (Nat.le_of_ble_eq_true rfl) dX11_lays_14 ⟨Nat.le_of_ble_eq_true rfl, Nat.le_of_ble_eq_true rfl⟩ (fun H locs hP hD hS => ?_)
  refine lv_goto (tgt := 21) hx hb dX11_lays_17 (by decide) ?_
  exact b21 st_18 v1 v2 y_19 H locs ls hP hD hS (lv_sub hl [0, 1, 2] rfl) heq
set_option maxRecDepth 20000 in
theorem ggX11_set_X11_in : GoodIn wsX11_set wsX11_in := goodIn_r _ [8] (by decide +kernel) (by decide +kernel)
set_option maxRecDepth 20000 in
theorem gX11_set_X11_in : GoodIn wsX11_set (va_wsS RX11 81 yX11_in wsX11_in) := goodIn_app (goodIn_of _ (by decide +kernel)) ggX11_set_X11_in
set_option maxRecDepth 20000 in
theorem ggX11_set_X11_leastOf : GoodIn wsX11_set wsX11_leastOf := goodIn_r _ [11] (by decide +kernel) (by decide +kernel)
set_option maxRecDepth 20000 in
theorem gX11_set_X11_leastOf : GoodIn wsX11_set (va_wsS RX11 159 yX11_leastOf wsX11_leastOf) := goodIn_app (goodIn_of _ (by decide +kernel)) ggX11_set_X11_leastOf
set_option maxRecDepth 20000 in
theorem ggX11_set_X11_mostOf : GoodIn wsX11_set wsX11_mostOf := goodIn_r _ [14] (by decide +kernel) (by decide +kernel)
set_option maxRecDepth 20000 in
theorem gX11_set_X11_mostOf : GoodIn wsX11_set (va_wsS RX11 162 yX11_mostOf wsX11_mostOf) := goodIn_app (goodIn_of _ (by decide +kernel)) ggX11_set_X11_mostOf
set_option maxRecDepth 20000 in
theorem ggX11_set_X11_settle : GoodIn wsX11_set wsX11_settle := goodIn_r _ [18, 3, 19, 20, 21, 7, 22, 23, 24, 25, 26, 27, 28, 29, 30, 31, 32, 33, 34, 35, 36, 37, 38, 4, 39, 40, 41, 42, 43, 44, 45, 46, 47, 48, 49, 50, 51, 52, 53, 54, 55, 56, 57, 58, 59, 60, 61, 62, 63, 64, 65, 66, 67, 68, 69, 70, 71, 72, 73, 74, 75, 76, 77, 78, 79, 80, 81, 82, 83, 84, 85, 86, 87, 88, 89, 90, 91, 92, 93, 94, 95, 96, 97, 98, 99, 100, 101, 102] (by decide +kernel) (by decide +kernel)
set_option maxRecDepth 20000 in
theorem gX11_set_X11_settle : GoodIn wsX11_set (wsV RX11 173 RX11 yX11_settle wsX11_settle) := goodIn_app (goodIn_of _ (by decide +kernel)) ggX11_set_X11_settle
theorem dX11_set_0 : decode cX11_set 0 = .ok (.aload_n 0, 1) := by decide +kernel
theorem dX11_set_1 : decode cX11_set 1 = .ok (.iconst 0, 1) := by decide +kernel
theorem dX11_set_2 : decode cX11_set 2 = .ok (.putfield 75, 3) := by decide +kernel
theorem dX11_set_5 : decode cX11_set 5 = .ok (.iload_n 1, 1) := by decide +kernel
theorem dX11_set_6 : decode cX11_set 6 = .ok (.i2l, 1) := by decide +kernel
theorem dX11_set_7 : decode cX11_set 7 = .ok (.lconst 0, 1) := by decide +kernel
theorem dX11_set_8 : decode cX11_set 8 = .ok (.ldc2_w 233, 3) := by decide +kernel
theorem dX11_set_11 : decode cX11_set 11 = .ok (.invokestatic 81, 3) := by decide +kernel
theorem dX11_set_14 : decode cX11_set 14 = .ok (.ifCond .eq 21, 3) := by decide +kernel
theorem dX11_set_17 : decode cX11_set 17 = .ok (.iload_n 2, 1) := by decide +kernel
theorem dX11_set_18 : decode cX11_set 18 = .ok (.i2l, 1) := by decide +kernel
theorem dX11_set_19 : decode cX11_set 19 = .ok (.iload_n 1, 1) := by decide +kernel
theorem dX11_set_20 : decode cX11_set 20 = .ok (.invokestatic 159, 3) := by decide +kernel
theorem dX11_set_23 : decode cX11_set 23 = .ok (.i2l, 1) := by decide +kernel
theorem dX11_set_24 : decode cX11_set 24 = .ok (.iload_n 1, 1) := by decide +kernel
theorem dX11_set_25 : decode cX11_set 25 = .ok (.invokestatic 162, 3) := by decide +kernel
theorem dX11_set_28 : decode cX11_set 28 = .ok (.i2l, 1) := by decide +kernel
theorem dX11_set_29 : decode cX11_set 29 = .ok (.invokestatic 81, 3) := by decide +kernel
theorem dX11_set_32 : decode cX11_set 32 = .ok (.ifCond .ne 5, 3) := by decide +kernel
theorem dX11_set_35 : decode cX11_set 35 = .ok (.iconst (-1), 1) := by decide +kernel
theorem dX11_set_36 : decode cX11_set 36 = .ok (.ireturn, 1) := by decide +kernel
theorem dX11_set_37 : decode cX11_set 37 = .ok (.aload_n 0, 1) := by decide +kernel
theorem dX11_set_38 : decode cX11_set 38 = .ok (.getfield 122, 3) := by decide +kernel
theorem dX11_set_41 : decode cX11_set 41 = .ok (.ifCond .eq 6, 3) := by decide +kernel
theorem dX11_set_44 : decode cX11_set 44 = .ok (.bipush (-3), 2) := by decide +kernel
theorem dX11_set_46 : decode cX11_set 46 = .ok (.ireturn, 1) := by decide +kernel
theorem dX11_set_47 : decode cX11_set 47 = .ok (.aload_n 0, 1) := by decide +kernel
theorem dX11_set_48 : decode cX11_set 48 = .ok (.getfield 22, 3) := by decide +kernel
theorem dX11_set_51 : decode cX11_set 51 = .ok (.iload_n 1, 1) := by decide +kernel
theorem dX11_set_52 : decode cX11_set 52 = .ok (.iaload, 1) := by decide +kernel
theorem dX11_set_53 : decode cX11_set 53 = .ok (.istore_n 3, 1) := by decide +kernel
theorem dX11_set_54 : decode cX11_set 54 = .ok (.aload_n 0, 1) := by decide +kernel
theorem dX11_set_55 : decode cX11_set 55 = .ok (.getfield 22, 3) := by decide +kernel
theorem dX11_set_58 : decode cX11_set 58 = .ok (.iload_n 1, 1) := by decide +kernel
theorem dX11_set_59 : decode cX11_set 59 = .ok (.iload_n 2, 1) := by decide +kernel
theorem dX11_set_60 : decode cX11_set 60 = .ok (.iastore, 1) := by decide +kernel
theorem dX11_set_61 : decode cX11_set 61 = .ok (.aload_n 0, 1) := by decide +kernel
theorem dX11_set_62 : decode cX11_set 62 = .ok (.invokevirtual 173, 3) := by decide +kernel
theorem dX11_set_65 : decode cX11_set 65 = .ok (.iload_n 3, 1) := by decide +kernel
theorem dX11_set_66 : decode cX11_set 66 = .ok (.ireturn, 1) := by decide +kernel
/-! set -/
def X11_set (st : MS) (v1 : Int32) (v2 : Int32) : Option (Int32 × MS) :=
    nm (sF st 17 (0 : Int32)) fun st_1 =>
    bd1 (X11_in (v1.toInt64) (0 : Int64) (6 : Int64)) fun y_2 =>
    if y_2 = 0 then
      (some ((-1 : Int32), st_1))
    else
    bd1 (X11_leastOf v1) fun y_5 =>
    bd1 (X11_mostOf v1) fun y_7 =>
    bd1 (X11_in (v2.toInt64) (y_5.toInt64) (y_7.toInt64)) fun y_9 =>
    if y_9 = 0 then
      (some ((-1 : Int32), st_1))
    else
    if (gF st_1 7) = 0 then
      (inr v1 7 <|
      nm ((gA st_1 4 v1.toNatClampNeg)) fun x_14 =>
      inr v1 7 <|
      nm (sA st_1 4 v1.toNatClampNeg v2) fun st_16 =>
      bnd (X11_settle st_16) fun _ st_17 =>
      some (x_14, st_17))
    else
    some ((-3 : Int32), st_1)
abbrev rmX11_set : Room := { frames := 8, cells := 0, slots := 0, locals := 171 }
theorem hdX11_set : yX11_set.cls = RX11 ∧ yX11_set.cls ≠ "java/lang/invoke/MethodHandle" ∧ yX11_set.cls ≠ "java/lang/invoke/VarHandle" ∧ (parseMethodDescriptor yX11_set.desc).map (fun d => d.parameters.length) = some 2 := by decide +kernel
set_option maxRecDepth 100000 in
set_option maxHeartbeats 4000000 in
theorem okX11_set (l : Launch) (D : va_G) (a : Nat → Nat) (T : mT3) {st : MS} {v1 : Int32} {v2 : Int32} {r : Int32} {st' : MS} (heq : X11_set st v1 v2 = some (r, st')) : gCi l D (mT T) yX11_set wsX11_set rmX11_set [.ref (a 0), .int v1, .int v2] (mW a T st) r (mW a T st') := by
  refine g_body_i (by decide) rfl (Nat.le_of_ble_eq_true rfl) (fun p e s m args below meth c A Q hx hb hml hown hts hK hA hret ls hP hD hS hl => ?_)
  have hl : lv_has ls 4 [(0, .ref (a 0)), (1, .int v1), (2, .int v2)] := hl
  have hin : ∀ w ∈ wsX110, w ∈ wsX11_set := fun w h => List.mem_cons_of_mem _ (List.mem_append_right _ h)
  have f22 : (Cond.fieldLink RX11 22 RX11 (TX11 4).2.1 (TX11 4).2.2.1).before args s = true := hts (.fieldLink RX11 22 "LaidDownTheLaneModel" "settings" "[I") (by decide +kernel)
  have f75 : (Cond.fieldLink RX11 75 RX11 (TX11 17).2.1 (TX11 17).2.2.1).before args s = true := hts (.fieldLink RX11 75 "LaidDownTheLaneModel" "thrown" "I") (by decide +kernel)
  have f122 : (Cond.fieldLink RX11 122 RX11 (TX11 7).2.1 (TX11 7).2.2.1).before args s = true := hts (.fieldLink RX11 122 "LaidDownTheLaneModel" "isDown" "Z") (by decide +kernel)
  have c233 := hts (.constantLong RX11 233 (6)) (by decide +kernel)
  obtain ⟨H, hH⟩ : ∃ H, H = s.heap := ⟨_, rfl⟩
  obtain ⟨locs, hlocs⟩ : ∃ z : List Loc, z = [] := ⟨_, rfl⟩
  have hS : va_S A s.heap H locs := by rw [hH, hlocs]; exact hS
  have hP : va_P D vwCl (mW a T st) H := by rw [hH]; exact hP
  suffices h9 : W p l e rmX11_set s m args below meth c H locs 0 0 Q (F0 m 0 ls []) by rw [hH, hlocs] at h9; exact h9
  clear hH hlocs
  unfold X11_set at heq
  refine lv_aload_n hx hb dX11_set_0 rfl (lv_at hl 0 rfl) ?_
  refine lv_iconst (v := (0 : Int32)) hx hb dX11_set_1 (by decide) ?_
  refine mp (k := 17) hx hb hts hin hown hK hP hD hS (by decide) f75 dX11_set_2 rfl rfl rfl rfl (mset_17 ..) (fun H locs hP hD hS => ?_)
  obtain ⟨st_1, est_1⟩ : ∃ z, z = sF st 17 (0 : Int32) := ⟨_, rfl⟩
  rw [← est_1] at hP hD
  have heq := nm_h est_1 heq
  refine lv_iload_n hx hb dX11_set_5 rfl (lv_at hl 1 rfl) ?_
  refine lv_i2l hx hb dX11_set_6 rfl ?_
  refine lv_lconst (v := (0 : Int64)) hx hb dX11_set_7 (by decide) ?_
  refine lv_ldc2 (v := (6 : Int64)) hx hb hown c233 dX11_set_8 ?_
  obtain ⟨y_2, h_3, heq⟩ := bd1_h heq
  refine g_si (own := RX11) (D := D) (As := [.long (v1.toInt64), .long (0 : Int64), .long (6 : Int64)]) (rest := []) hx hb hml hown hts (okX11_in l D h_3) (cwS 3 hts gX11_set_X11_in rfl rfl rfl hdX11_in ⟨Nat.le_of_ble_eq_true rfl, Nat.le_of_ble_eq_true rfl⟩) hK hA hP hS rfl hl.1 rfl (Nat.le_of_ble_eq_true rfl) dX11_set_11 ⟨Nat.le_of_ble_eq_true rfl, Nat.le_of_ble_eq_true rfl⟩ (fun H locs hP hS => ?_)
  refine lv_if_eq (tgt := 35) hx hb dX11_set_14 (by decide) (fun c_4 => ?_) (fun c_4 => ?_)
  · have heq := it_t c_4 heq
    refine lv_iconst (v := (-1 : Int32)) hx hb dX11_set_35 (by decide) ?_
    obtain ⟨heq, heq2⟩ := ret_h heq
    subst heq
    subst heq2
    exact hret 36 H locs ls hP hD hS rfl dX11_set_36
  have heq := it_f c_4 heq
  refine lv_iload_n hx hb dX11_set_17 rfl (lv_at hl 2 rfl) ?_
  refine lv_i2l hx hb dX11_set_18 rfl ?_
  refine lv_iload_n hx hb dX11_set_19 rfl (lv_at hl 1 rfl) ?_
  obtain ⟨y_5, h_6, heq⟩ := bd1_h heq
  refine g_si (own := RX11) (D := D) (As := [.int v1]) (rest := [.long (v2.toInt64)]) hx hb hml hown hts (okX11_leastOf l D h_6) (cwS 1 hts gX11_set_X11_leastOf rfl rfl rfl hdX11_leastOf ⟨Nat.le_of_ble_eq_true rfl, Nat.le_of_ble_eq_true rfl⟩) hK hA hP hS rfl hl.1 rfl (Nat.le_of_ble_eq_true rfl) dX11_set_20 ⟨Nat.le_of_ble_eq_true rfl, Nat.le_of_ble_eq_true rfl⟩ (fun H locs hP hS => ?_)
  refine lv_i2l hx hb dX11_set_23 rfl ?_
  refine lv_iload_n hx hb dX11_set_24 rfl (lv_at hl 1 rfl) ?_
  obtain ⟨y_7, h_8, heq⟩ := bd1_h heq
  refine g_si (own := RX11) (D := D) (As := [.int v1]) (rest := [.long (y_5.toInt64), .long (v2.toInt64)]) hx hb hml hown hts (okX11_mostOf l D h_8) (cwS 1 hts gX11_set_X11_mostOf rfl rfl rfl hdX11_mostOf ⟨Nat.le_of_ble_eq_true rfl, Nat.le_of_ble_eq_true rfl⟩) hK hA hP hS rfl hl.1 rfl (Nat.le_of_ble_eq_true rfl) dX11_set_25 ⟨Nat.le_of_ble_eq_true rfl, Nat.le_of_ble_eq_true rfl⟩ (fun H locs hP hS => ?_)
  refine lv_i2l hx hb dX11_set_28 rfl ?_
  obtain ⟨y_9, h_10, heq⟩ := bd1_h heq
  refine g_si (own := RX11) (D := D) (As := [.long (v2.toInt64), .long (y_5.toInt64), .long (y_7.toInt64)]) (rest := []) hx hb hml hown hts (okX11_in l D h_10) (cwS 3 hts gX11_set_X11_in rfl rfl rfl hdX11_in ⟨Nat.le_of_ble_eq_true rfl, Nat.le_of_ble_eq_true rfl⟩) hK hA hP hS rfl hl.1 rfl (Nat.le_of_ble_eq_true rfl) dX11_set_29 ⟨Nat.le_of_ble_eq_true rfl, Nat.le_of_ble_eq_true rfl⟩ (fun H locs hP hS => ?_)
  refine lv_if_ne (tgt := 37) hx hb dX11_set_32 (by decide) (fun c_11 => ?_) (fun c_11 => ?_)
  · have heq := it_f c_11 heq
    refine lv_aload_n hx hb dX11_set_37 rfl (lv_at hl 0 rfl) ?_
    refine mg (k := 7) (v := .int (gF st_1 7)) hx hb hts hin hown hK hP (by decide) f122 rfl dX11_set_38 rfl ?_
    refine lv_if_eq (tgt := 47) hx hb dX11_set_41 (by decide) (fun c_12 => ?_) (fun c_12 => ?_)
    · have heq := it_t c_12 heq
      refine lv_aload_n hx hb dX11_set_47 rfl (lv_at hl 0 rfl) ?_
      refine mg (k := 4) (v := .ref (a 5)) hx hb hts hin hown hK hP (by decide) f22 rfl dX11_set_48 rfl ?_
      refine lv_iload_n hx hb dX11_set_51 rfl (lv_at hl 1 rfl) ?_
      obtain ⟨n_13, heq⟩ := inr_h heq
      refine mal (k := 4) (q := 5) (n := 7) hx hb hK hP rfl n_13 dX11_set_52 ?_
      refine lv_topi (fun x_14 ex_14 => ?_)
      have heq := nm_h ex_14 heq
      refine lv_istore_n (lv' := [(3, .int x_14), (0, .ref (a 0)), (1, .int v1), (2, .int v2)]) hx hb dX11_set_53 rfl hl (by decide) rfl (fun ls hl => ?_)
      refine lv_aload_n hx hb dX11_set_54 rfl (lv_at hl 1 rfl) ?_
      refine mg (k := 4) (v := .ref (a 5)) hx hb hts hin hown hK hP (by decide) f22 rfl dX11_set_55 rfl ?_
      refine lv_iload_n hx hb dX11_set_58 rfl (lv_at hl 2 rfl) ?_
      refine lv_iload_n hx hb dX11_set_59 rfl (lv_at hl 3 rfl) ?_
      obtain ⟨n_15, heq⟩ := inr_h heq
      refine mas (k := 4) (q := 5) (n := 7) hx hb hK hP hD hS rfl (maset_4 ..) n_15 dX11_set_60 (fun H locs hP hD hS => ?_)
      obtain ⟨st_16, est_16⟩ : ∃ z, z = sA st_1 4 v1.toNatClampNeg v2 := ⟨_, rfl⟩
      rw [← est_16] at hP hD
      have heq := nm_h est_16 heq
      refine lv_aload_n hx hb dX11_set_61 rfl (lv_at hl 1 rfl) ?_
      obtain ⟨⟨⟩, st_17, h_18, heq⟩ := bnd_h heq
      refine g_vv (own := RX11) (As := []) (rest := []) hx hb hml hown hts (okX11_settle l D a T h_18) (cwV 0 hts gX11_set_X11_settle rfl rfl rfl hdX11_settle ⟨Nat.le_of_ble_eq_true rfl, Nat.le_of_ble_eq_true rfl⟩) hK hA hP hD hS (ci := 11) (q0 := 0) rfl rfl rfl hl.1 rfl (Nat.le_of_ble_eq_true rfl) dX11_set_62 ⟨Nat.le_of_ble_eq_true rfl, Nat.le_of_ble_eq_true rfl⟩ (fun H locs hP hD hS => ?_)
      refine lv_iload_n hx hb dX11_set_65 rfl (lv_at hl 0 rfl) ?_
      obtain ⟨heq, heq2⟩ := ret_h heq
      subst heq
      subst heq2
      exact hret 66 H locs ls hP hD hS rfl dX11_set_66
    have heq := it_f c_12 heq
    refine lv_bipush (v := (-3 : Int32)) hx hb dX11_set_44 (by decide) ?_
    obtain ⟨heq, heq2⟩ := ret_h heq
    subst heq
    subst heq2
    exact hret 46 H locs ls hP hD hS rfl dX11_set_46
  have heq := it_t c_11 heq
  refine lv_iconst (v := (-1 : Int32)) hx hb dX11_set_35 (by decide) ?_
  obtain ⟨heq, heq2⟩ := ret_h heq
  subst heq
  subst heq2
  exact hret 36 H locs ls hP hD hS rfl dX11_set_36
set_option maxRecDepth 20000 in
theorem ggX11_house_X11_isSide : GoodIn wsX11_house wsX11_isSide := goodIn_r _ [7, 8, 9, 10, 6, 11] (by decide +kernel) (by decide +kernel)
set_option maxRecDepth 20000 in
theorem gX11_house_X11_isSide : GoodIn wsX11_house (va_wsS RX11 165 yX11_isSide wsX11_isSide) := goodIn_app (goodIn_of _ (by decide +kernel)) ggX11_house_X11_isSide
set_option maxRecDepth 20000 in
theorem ggX11_house_X11_in : GoodIn wsX11_house wsX11_in := goodIn_r _ [11] (by decide +kernel) (by decide +kernel)
set_option maxRecDepth 20000 in
theorem gX11_house_X11_in : GoodIn wsX11_house (va_wsS RX11 81 yX11_in wsX11_in) := goodIn_app (goodIn_of _ (by decide +kernel)) ggX11_house_X11_in
set_option maxRecDepth 20000 in
theorem ggX11_house_X11_houseComes : GoodIn wsX11_house wsX11_houseComes := goodIn_r _ [15, 2, 3, 16, 17, 4, 5, 6, 7, 8, 9, 10, 11, 18, 19, 20, 21, 22, 23, 24, 25, 26, 27, 28, 29, 30, 31, 32, 33, 34, 35, 36, 37, 38, 39, 40, 41, 42, 43, 44, 45, 46, 47, 48, 49, 50, 51, 52, 53, 54] (by decide +kernel) (by decide +kernel)
set_option maxRecDepth 20000 in
theorem gX11_house_X11_houseComes : GoodIn wsX11_house (wsV RX11 180 RX11 yX11_houseComes wsX11_houseComes) := goodIn_app (goodIn_of _ (by decide +kernel)) ggX11_house_X11_houseComes
theorem dX11_house_0 : decode cX11_house 0 = .ok (.aload_n 0, 1) := by decide +kernel
theorem dX11_house_1 : decode cX11_house 1 = .ok (.iconst 0, 1) := by decide +kernel
theorem dX11_house_2 : decode cX11_house 2 = .ok (.putfield 75, 3) := by decide +kernel
theorem dX11_house_5 : decode cX11_house 5 = .ok (.iload_n 1, 1) := by decide +kernel
theorem dX11_house_6 : decode cX11_house 6 = .ok (.invokestatic 165, 3) := by decide +kernel
theorem dX11_house_9 : decode cX11_house 9 = .ok (.ifCond .eq 15, 3) := by decide +kernel
theorem dX11_house_12 : decode cX11_house 12 = .ok (.iload_n 2, 1) := by decide +kernel
theorem dX11_house_13 : decode cX11_house 13 = .ok (.i2l, 1) := by decide +kernel
theorem dX11_house_14 : decode cX11_house 14 = .ok (.lconst 0, 1) := by decide +kernel
theorem dX11_house_15 : decode cX11_house 15 = .ok (.ldc2_w 168, 3) := by decide +kernel
theorem dX11_house_18 : decode cX11_house 18 = .ok (.invokestatic 81, 3) := by decide +kernel
theorem dX11_house_21 : decode cX11_house 21 = .ok (.ifCond .ne 5, 3) := by decide +kernel
theorem dX11_house_24 : decode cX11_house 24 = .ok (.iconst (-1), 1) := by decide +kernel
theorem dX11_house_25 : decode cX11_house 25 = .ok (.ireturn, 1) := by decide +kernel
theorem dX11_house_26 : decode cX11_house 26 = .ok (.aload_n 0, 1) := by decide +kernel
theorem dX11_house_27 : decode cX11_house 27 = .ok (.iload_n 1, 1) := by decide +kernel
theorem dX11_house_28 : decode cX11_house 28 = .ok (.iload_n 2, 1) := by decide +kernel
theorem dX11_house_29 : decode cX11_house 29 = .ok (.invokevirtual 180, 3) := by decide +kernel
theorem dX11_house_32 : decode cX11_house 32 = .ok (.ifCond .eq 12, 3) := by decide +kernel
theorem dX11_house_35 : decode cX11_house 35 = .ok (.aload_n 0, 1) := by decide +kernel
theorem dX11_house_36 : decode cX11_house 36 = .ok (.getfield 170, 3) := by decide +kernel
theorem dX11_house_39 : decode cX11_house 39 = .ok (.iconst 1, 1) := by decide +kernel
theorem dX11_house_40 : decode cX11_house 40 = .ok (.isub, 1) := by decide +kernel
theorem dX11_house_41 : decode cX11_house 41 = .ok (.goto 5, 3) := by decide +kernel
theorem dX11_house_44 : decode cX11_house 44 = .ok (.bipush (-2), 2) := by decide +kernel
theorem dX11_house_46 : decode cX11_house 46 = .ok (.ireturn, 1) := by decide +kernel
/-! house -/
def X11_house_p46 (st : MS) (t0 : Int32) : Option (Int32 × MS) :=
    some (t0, st)
def X11_house (st : MS) (v1 : Int32) (v2 : Int32) : Option (Int32 × MS) :=
    nm (sF st 17 (0 : Int32)) fun st_1 =>
    bd1 (X11_isSide v1) fun y_2 =>
    if y_2 = 0 then
      (some ((-1 : Int32), st_1))
    else
    bd1 (X11_in (v2.toInt64) (0 : Int64) (240 : Int64)) fun y_5 =>
    if y_5 = 0 then
      (some ((-1 : Int32), st_1))
    else
    bnd (X11_houseComes st_1 v1 v2) fun y_9 st_8 =>
    if y_9 = 0 then
      (X11_house_p46 st_8 (-2 : Int32))
    else
    X11_house_p46 st_8 ((gF st_8 8) - (1 : Int32))
abbrev rmX11_house : Room := { frames := 3, cells := 0, slots := 0, locals := 68 }
theorem hdX11_house : yX11_house.cls = RX11 ∧ yX11_house.cls ≠ "java/lang/invoke/MethodHandle" ∧ yX11_house.cls ≠ "java/lang/invoke/VarHandle" ∧ (parseMethodDescriptor yX11_house.desc).map (fun d => d.parameters.length) = some 2 := by decide +kernel
set_option maxRecDepth 100000 in
set_option maxHeartbeats 4000000 in
theorem okX11_house (l : Launch) (D : va_G) (a : Nat → Nat) (T : mT3) {st : MS} {v1 : Int32} {v2 : Int32} {r : Int32} {st' : MS} (heq : X11_house st v1 v2 = some (r, st')) : gCi l D (mT T) yX11_house wsX11_house rmX11_house [.ref (a 0), .int v1, .int v2] (mW a T st) r (mW a T st') := by
  refine g_body_i (by decide) rfl (Nat.le_of_ble_eq_true rfl) (fun p e s m args below meth c A Q hx hb hml hown hts hK hA hret ls hP hD hS hl => ?_)
  have hl : lv_has ls 3 [(0, .ref (a 0)), (1, .int v1), (2, .int v2)] := hl
  have hin : ∀ w ∈ wsX110, w ∈ wsX11_house := fun w h => List.mem_cons_of_mem _ (List.mem_append_right _ h)
  have f75 : (Cond.fieldLink RX11 75 RX11 (TX11 17).2.1 (TX11 17).2.2.1).before args s = true := hts (.fieldLink RX11 75 "LaidDownTheLaneModel" "thrown" "I") (by decide +kernel)
  have f170 : (Cond.fieldLink RX11 170 RX11 (TX11 8).2.1 (TX11 8).2.2.1).before args s = true := hts (.fieldLink RX11 170 "LaidDownTheLaneModel" "houses" "I") (by decide +kernel)
  have c168 := hts (.constantLong RX11 168 (240)) (by decide +kernel)
  have b46 : ∀ (st : MS) (t0 : Int32) (H : Heap) (locs : List Loc) (ls : Array Slot), va_P D vwCl (mW a T st) H → va_D A (mW a T st) → va_S A s.heap H locs → lv_has ls 3 [] → X11_house_p46  st t0 = some (r, st') → W p l e rmX11_house s m args below meth c H locs 0 0 Q (F0 m 46 ls [.int t0]) := by
    intro st t0 H locs ls hP hD hS hl heq
    unfold X11_house_p46 at heq
    obtain ⟨heq, heq2⟩ := ret_h heq
    subst heq
    subst heq2
    exact hret 46 H locs ls hP hD hS rfl dX11_house_46
  obtain ⟨H, hH⟩ : ∃ H, H = s.heap := ⟨_, rfl⟩
  obtain ⟨locs, hlocs⟩ : ∃ z : List Loc, z = [] := ⟨_, rfl⟩
  have hS : va_S A s.heap H locs := by rw [hH, hlocs]; exact hS
  have hP : va_P D vwCl (mW a T st) H := by rw [hH]; exact hP
  suffices h9 : W p l e rmX11_house s m args below meth c H locs 0 0 Q (F0 m 0 ls []) by rw [hH, hlocs] at h9; exact h9
  clear hH hlocs
  unfold X11_house at heq
  refine lv_aload_n hx hb dX11_house_0 rfl (lv_at hl 0 rfl) ?_
  refine lv_iconst (v := (0 : Int32)) hx hb dX11_house_1 (by decide) ?_
  refine mp (k := 17) hx hb hts hin hown hK hP hD hS (by decide) f75 dX11_house_2 rfl rfl rfl rfl (mset_17 ..) (fun H locs hP hD hS => ?_)
  obtain ⟨st_1, est_1⟩ : ∃ z, z = sF st 17 (0 : Int32) := ⟨_, rfl⟩
  rw [← est_1] at hP hD
  have heq := nm_h est_1 heq
  refine lv_iload_n hx hb dX11_house_5 rfl (lv_at hl 1 rfl) ?_
  obtain ⟨y_2, h_3, heq⟩ := bd1_h heq
  refine g_si (own := RX11) (D := D) (As := [.int v1]) (rest := []) hx hb hml hown hts (okX11_isSide l D h_3) (cwS 1 hts gX11_house_X11_isSide rfl rfl rfl hdX11_isSide ⟨Nat.le_of_ble_eq_true rfl, Nat.le_of_ble_eq_true rfl⟩) hK hA hP hS rfl hl.1 rfl (Nat.le_of_ble_eq_true rfl) dX11_house_6 ⟨Nat.le_of_ble_eq_true rfl, Nat.le_of_ble_eq_true rfl⟩ (fun H locs hP hS => ?_)
  refine lv_if_eq (tgt := 24) hx hb dX11_house_9 (by decide) (fun c_4 => ?_) (fun c_4 => ?_)
  · have heq := it_t c_4 heq
    refine lv_iconst (v := (-1 : Int32)) hx hb dX11_house_24 (by decide) ?_
    obtain ⟨heq, heq2⟩ := ret_h heq
    subst heq
    subst heq2
    exact hret 25 H locs ls hP hD hS rfl dX11_house_25
  have heq := it_f c_4 heq
  refine lv_iload_n hx hb dX11_house_12 rfl (lv_at hl 2 rfl) ?_
  refine lv_i2l hx hb dX11_house_13 rfl ?_
  refine lv_lconst (v := (0 : Int64)) hx hb dX11_house_14 (by decide) ?_
  refine lv_ldc2 (v := (240 : Int64)) hx hb hown c168 dX11_house_15 ?_
  obtain ⟨y_5, h_6, heq⟩ := bd1_h heq
  refine g_si (own := RX11) (D := D) (As := [.long (v2.toInt64), .long (0 : Int64), .long (240 : Int64)]) (rest := []) hx hb hml hown hts (okX11_in l D h_6) (cwS 3 hts gX11_house_X11_in rfl rfl rfl hdX11_in ⟨Nat.le_of_ble_eq_true rfl, Nat.le_of_ble_eq_true rfl⟩) hK hA hP hS rfl hl.1 rfl (Nat.le_of_ble_eq_true rfl) dX11_house_18 ⟨Nat.le_of_ble_eq_true rfl, Nat.le_of_ble_eq_true rfl⟩ (fun H locs hP hS => ?_)
  refine lv_if_ne (tgt := 26) hx hb dX11_house_21 (by decide) (fun c_7 => ?_) (fun c_7 => ?_)
  · have heq := it_f c_7 heq
    refine lv_aload_n hx hb dX11_house_26 rfl (lv_at hl 0 rfl) ?_
    refine lv_iload_n hx hb dX11_house_27 rfl (lv_at hl 1 rfl) ?_
    refine lv_iload_n hx hb dX11_house_28 rfl (lv_at hl 2 rfl) ?_
    obtain ⟨y_9, st_8, h_10, heq⟩ := bnd_h heq
    refine g_vi (own := RX11) (As := [.int v1, .int v2]) (rest := []) hx hb hml hown hts (okX11_houseComes l D a T h_10) (cwV 2 hts gX11_house_X11_houseComes rfl rfl rfl hdX11_houseComes ⟨Nat.le_of_ble_eq_true rfl, Nat.le_of_ble_eq_true rfl⟩) hK hA hP hD hS (ci := 11) (q0 := 0) rfl rfl rfl hl.1 rfl (Nat.le_of_ble_eq_true rfl) dX11_house_29 ⟨Nat.le_of_ble_eq_true rfl, Nat.le_of_ble_eq_true rfl⟩ (fun H locs hP hD hS => ?_)
    refine lv_if_eq (tgt := 44) hx hb dX11_house_32 (by decide) (fun c_11 => ?_) (fun c_11 => ?_)
    · have heq := it_t c_11 heq
      refine lv_bipush (v := (-2 : Int32)) hx hb dX11_house_44 (by decide) ?_
      exact b46 st_8 (-2 : Int32) H locs ls hP hD hS (lv_sub hl [] rfl) heq
    have heq := it_f c_11 heq
    refine lv_aload_n hx hb dX11_house_35 rfl (lv_at hl 0 rfl) ?_
    refine mg (k := 8) (v := .int (gF st_8 8)) hx hb hts hin hown hK hP (by decide) f170 rfl dX11_house_36 rfl ?_
    refine lv_iconst (v := (1 : Int32)) hx hb dX11_house_39 (by decide) ?_
    refine lv_isub hx hb dX11_house_40 ?_
    refine lv_goto (tgt := 46) hx hb dX11_house_41 (by decide) ?_
    exact b46 st_8 ((gF st_8 8) - (1 : Int32)) H locs ls hP hD hS (lv_sub hl [] rfl) heq
  have heq := it_t c_7 heq
  refine lv_iconst (v := (-1 : Int32)) hx hb dX11_house_24 (by decide) ?_
  obtain ⟨heq, heq2⟩ := ret_h heq
  subst heq
  subst heq2
  exact hret 25 H locs ls hP hD hS rfl dX11_house_25
set_option maxRecDepth 20000 in
theorem ggX11_about_X11_in : GoodIn wsX11_about wsX11_in := goodIn_r _ [8] (by decide +kernel) (by decide +kernel)
set_option maxRecDepth 20000 in
theorem gX11_about_X11_in : GoodIn wsX11_about (va_wsS RX11 81 yX11_in wsX11_in) := goodIn_app (goodIn_of _ (by decide +kernel)) ggX11_about_X11_in
theorem dX11_about_0 : decode cX11_about 0 = .ok (.aload_n 0, 1) := by decide +kernel
theorem dX11_about_1 : decode cX11_about 1 = .ok (.iconst 0, 1) := by decide +kernel
theorem dX11_about_2 : decode cX11_about 2 = .ok (.putfield 75, 3) := by decide +kernel
theorem dX11_about_5 : decode cX11_about 5 = .ok (.iload_n 1, 1) := by decide +kernel
theorem dX11_about_6 : decode cX11_about 6 = .ok (.i2l, 1) := by decide +kernel
theorem dX11_about_7 : decode cX11_about 7 = .ok (.lconst 0, 1) := by decide +kernel
theorem dX11_about_8 : decode cX11_about 8 = .ok (.aload_n 0, 1) := by decide +kernel
theorem dX11_about_9 : decode cX11_about 9 = .ok (.getfield 170, 3) := by decide +kernel
theorem dX11_about_12 : decode cX11_about 12 = .ok (.iconst 1, 1) := by decide +kernel
theorem dX11_about_13 : decode cX11_about 13 = .ok (.isub, 1) := by decide +kernel
theorem dX11_about_14 : decode cX11_about 14 = .ok (.i2l, 1) := by decide +kernel
theorem dX11_about_15 : decode cX11_about 15 = .ok (.invokestatic 81, 3) := by decide +kernel
theorem dX11_about_18 : decode cX11_about 18 = .ok (.ifCond .eq 13, 3) := by decide +kernel
theorem dX11_about_21 : decode cX11_about 21 = .ok (.iload_n 2, 1) := by decide +kernel
theorem dX11_about_22 : decode cX11_about 22 = .ok (.i2l, 1) := by decide +kernel
theorem dX11_about_23 : decode cX11_about 23 = .ok (.lconst 0, 1) := by decide +kernel
theorem dX11_about_24 : decode cX11_about 24 = .ok (.lconst 1, 1) := by decide +kernel
theorem dX11_about_25 : decode cX11_about 25 = .ok (.invokestatic 81, 3) := by decide +kernel
theorem dX11_about_28 : decode cX11_about 28 = .ok (.ifCond .ne 7, 3) := by decide +kernel
theorem dX11_about_31 : decode cX11_about 31 = .ok (.iconst (-1), 1) := by decide +kernel
theorem dX11_about_32 : decode cX11_about 32 = .ok (.goto 22, 3) := by decide +kernel
theorem dX11_about_35 : decode cX11_about 35 = .ok (.iload_n 2, 1) := by decide +kernel
theorem dX11_about_36 : decode cX11_about 36 = .ok (.ifCond .ne 12, 3) := by decide +kernel
theorem dX11_about_39 : decode cX11_about 39 = .ok (.aload_n 0, 1) := by decide +kernel
theorem dX11_about_40 : decode cX11_about 40 = .ok (.getfield 25, 3) := by decide +kernel
theorem dX11_about_43 : decode cX11_about 43 = .ok (.iload_n 1, 1) := by decide +kernel
theorem dX11_about_44 : decode cX11_about 44 = .ok (.iaload, 1) := by decide +kernel
theorem dX11_about_45 : decode cX11_about 45 = .ok (.goto 9, 3) := by decide +kernel
theorem dX11_about_48 : decode cX11_about 48 = .ok (.aload_n 0, 1) := by decide +kernel
theorem dX11_about_49 : decode cX11_about 49 = .ok (.getfield 28, 3) := by decide +kernel
theorem dX11_about_52 : decode cX11_about 52 = .ok (.iload_n 1, 1) := by decide +kernel
theorem dX11_about_53 : decode cX11_about 53 = .ok (.iaload, 1) := by decide +kernel
theorem dX11_about_54 : decode cX11_about 54 = .ok (.ireturn, 1) := by decide +kernel
/-! about -/
def X11_about_p54 (st : MS) (t0 : Int32) : Option (Int32 × MS) :=
    some (t0, st)
def X11_about_p31 (st : MS) : Option (Int32 × MS) :=
    X11_about_p54 st (-1 : Int32)
def X11_about (st : MS) (v1 : Int32) (v2 : Int32) : Option (Int32 × MS) :=
    nm (sF st 17 (0 : Int32)) fun st_1 =>
    bd1 (X11_in (v1.toInt64) (0 : Int64) (((gF st_1 8) - (1 : Int32)).toInt64)) fun y_2 =>
    if y_2 = 0 then
      (X11_about_p31 st_1)
    else
    bd1 (X11_in (v2.toInt64) (0 : Int64) (1 : Int64)) fun y_5 =>
    if y_5 = 0 then
      (X11_about_p31 st_1)
    else
    if v2 = 0 then
      (inr v1 6 <|
      X11_about_p54 st_1 (gA st_1 9 v1.toNatClampNeg))
    else
    inr v1 6 <|
    X11_about_p54 st_1 (gA st_1 10 v1.toNatClampNeg)
abbrev rmX11_about : Room := { frames := 1, cells := 0, slots := 0, locals := 25 }
theorem hdX11_about : yX11_about.cls = RX11 ∧ yX11_about.cls ≠ "java/lang/invoke/MethodHandle" ∧ yX11_about.cls ≠ "java/lang/invoke/VarHandle" ∧ (parseMethodDescriptor yX11_about.desc).map (fun d => d.parameters.length) = some 2 := by decide +kernel
set_option maxRecDepth 100000 in
set_option maxHeartbeats 4000000 in
theorem okX11_about (l : Launch) (D : va_G) (a : Nat → Nat) (T : mT3) {st : MS} {v1 : Int32} {v2 : Int32} {r : Int32} {st' : MS} (heq : X11_about st v1 v2 = some (r, st')) : gCi l D (mT T) yX11_about wsX11_about rmX11_about [.ref (a 0), .int v1, .int v2] (mW a T st) r (mW a T st') := by
  refine g_body_i (by decide) rfl (Nat.le_of_ble_eq_true rfl) (fun p e s m args below meth c A Q hx hb hml hown hts hK hA hret ls hP hD hS hl => ?_)
  have hl : lv_has ls 3 [(0, .ref (a 0)), (1, .int v1), (2, .int v2)] := hl
  have hin : ∀ w ∈ wsX110, w ∈ wsX11_about := fun w h => List.mem_cons_of_mem _ (List.mem_append_right _ h)
  have f25 : (Cond.fieldLink RX11 25 RX11 (TX11 9).2.1 (TX11 9).2.2.1).before args s = true := hts (.fieldLink RX11 25 "LaidDownTheLaneModel" "sides" "[I") (by decide +kernel)
  have f28 : (Cond.fieldLink RX11 28 RX11 (TX11 10).2.1 (TX11 10).2.2.1).before args s = true := hts (.fieldLink RX11 28 "LaidDownTheLaneModel" "fars" "[I") (by decide +kernel)
  have f75 : (Cond.fieldLink RX11 75 RX11 (TX11 17).2.1 (TX11 17).2.2.1).before args s = true := hts (.fieldLink RX11 75 "LaidDownTheLaneModel" "thrown" "I") (by decide +kernel)
  have f170 : (Cond.fieldLink RX11 170 RX11 (TX11 8).2.1 (TX11 8).2.2.1).before args s = true := hts (.fieldLink RX11 170 "LaidDownTheLaneModel" "houses" "I") (by decide +kernel)
  have b54 : ∀ (st : MS) (t0 : Int32) (H : Heap) (locs : List Loc) (ls : Array Slot), va_P D vwCl (mW a T st) H → va_D A (mW a T st) → va_S A s.heap H locs → lv_has ls 3 [] → X11_about_p54  st t0 = some (r, st') → W p l e rmX11_about s m args below meth c H locs 0 0 Q (F0 m 54 ls [.int t0]) := by
    intro st t0 H locs ls hP hD hS hl heq
    unfold X11_about_p54 at heq
    obtain ⟨heq, heq2⟩ := ret_h heq
    subst heq
    subst heq2
    exact hret 54 H locs ls hP hD hS rfl dX11_about_54
  have b31 : ∀ (st : MS) (H : Heap) (locs : List Loc) (ls : Array Slot), va_P D vwCl (mW a T st) H → va_D A (mW a T st) → va_S A s.heap H locs → lv_has ls 3 [] → X11_about_p31  st = some (r, st') → W p l e rmX11_about s m args below meth c H locs 0 0 Q (F0 m 31 ls []) := by
    intro st H locs ls hP hD hS hl heq
    unfold X11_about_p31 at heq
    refine lv_iconst (v := (-1 : Int32)) hx hb dX11_about_31 (by decide) ?_
    refine lv_goto (tgt := 54) hx hb dX11_about_32 (by decide) ?_
    exact b54 st (-1 : Int32) H locs ls hP hD hS (lv_sub hl [] rfl) heq
  obtain ⟨H, hH⟩ : ∃ H, H = s.heap := ⟨_, rfl⟩
  obtain ⟨locs, hlocs⟩ : ∃ z : List Loc, z = [] := ⟨_, rfl⟩
  have hS : va_S A s.heap H locs := by rw [hH, hlocs]; exact hS
  have hP : va_P D vwCl (mW a T st) H := by rw [hH]; exact hP
  suffices h9 : W p l e rmX11_about s m args below meth c H locs 0 0 Q (F0 m 0 ls []) by rw [hH, hlocs] at h9; exact h9
  clear hH hlocs
  unfold X11_about at heq
  refine lv_aload_n hx hb dX11_about_0 rfl (lv_at hl 0 rfl) ?_
  refine lv_iconst (v := (0 : Int32)) hx hb dX11_about_1 (by decide) ?_
  refine mp (k := 17) hx hb hts hin hown hK hP hD hS (by decide) f75 dX11_about_2 rfl rfl rfl rfl (mset_17 ..) (fun H locs hP hD hS => ?_)
  obtain ⟨st_1, est_1⟩ : ∃ z, z = sF st 17 (0 : Int32) := ⟨_, rfl⟩
  rw [← est_1] at hP hD
  have heq := nm_h est_1 heq
  refine lv_iload_n hx hb dX11_about_5 rfl (lv_at hl 1 rfl) ?_
  refine lv_i2l hx hb dX11_about_6 rfl ?_
  refine lv_lconst (v := (0 : Int64)) hx hb dX11_about_7 (by decide) ?_
  refine lv_aload_n hx hb dX11_about_8 rfl (lv_at hl 0 rfl) ?_
  refine mg (k := 8) (v := .int (gF st_1 8)) hx hb hts hin hown hK hP (by decide) f170 rfl dX11_about_9 rfl ?_
  refine lv_iconst (v := (1 : Int32)) hx hb dX11_about_12 (by decide) ?_
  refine lv_isub hx hb dX11_about_13 ?_
  refine lv_i2l hx hb dX11_about_14 rfl ?_
  obtain ⟨y_2, h_3, heq⟩ := bd1_h heq
  refine g_si (own := RX11) (D := D) (As := [.long (v1.toInt64), .long (0 : Int64), .long (((gF st_1 8) - (1 : Int32)).toInt64)]) (rest := []) hx hb hml hown hts (okX11_in l D h_3) (cwS 3 hts gX11_about_X11_in rfl rfl rfl hdX11_in ⟨Nat.le_of_ble_eq_true rfl, Nat.le_of_ble_eq_true rfl⟩) hK hA hP hS rfl hl.1 rfl (Nat.le_of_ble_eq_true rfl) dX11_about_15 ⟨Nat.le_of_ble_eq_true rfl, Nat.le_of_ble_eq_true rfl⟩ (fun H locs hP hS => ?_)
  refine lv_if_eq (tgt := 31) hx hb dX11_about_18 (by decide) (fun c_4 => ?_) (fun c_4 => ?_)
  · have heq := it_t c_4 heq
    exact b31 st_1 H locs ls hP hD hS (lv_sub hl [] rfl) heq
  have heq := it_f c_4 heq
  refine lv_iload_n hx hb dX11_about_21 rfl (lv_at hl 2 rfl) ?_
  refine lv_i2l hx hb dX11_about_22 rfl ?_
  refine lv_lconst (v := (0 : Int64)) hx hb dX11_about_23 (by decide) ?_
  refine lv_lconst (v := (1 : Int64)) hx hb dX11_about_24 (by decide) ?_
  obtain ⟨y_5, h_6, heq⟩ := bd1_h heq
  refine g_si (own := RX11) (D := D) (As := [.long (v2.toInt64), .long (0 : Int64), .long (1 : Int64)]) (rest := []) hx hb hml hown hts (okX11_in l D h_6) (cwS 3 hts gX11_about_X11_in rfl rfl rfl hdX11_in ⟨Nat.le_of_ble_eq_true rfl, Nat.le_of_ble_eq_true rfl⟩) hK hA hP hS rfl hl.1 rfl (Nat.le_of_ble_eq_true rfl) dX11_about_25 ⟨Nat.le_of_ble_eq_true rfl, Nat.le_of_ble_eq_true rfl⟩ (fun H locs hP hS => ?_)
  refine lv_if_ne (tgt := 35) hx hb dX11_about_28 (by decide) (fun c_7 => ?_) (fun c_7 => ?_)
  · have heq := it_f c_7 heq
    refine lv_iload_n hx hb dX11_about_35 rfl (lv_at hl 2 rfl) ?_
    refine lv_if_ne (tgt := 48) hx hb dX11_about_36 (by decide) (fun c_8 => ?_) (fun c_8 => ?_)
    · have heq := it_f c_8 heq
      refine lv_aload_n hx hb dX11_about_48 rfl (lv_at hl 0 rfl) ?_
      refine mg (k := 10) (v := .ref (a 7)) hx hb hts hin hown hK hP (by decide) f28 rfl dX11_about_49 rfl ?_
      refine lv_iload_n hx hb dX11_about_52 rfl (lv_at hl 1 rfl) ?_
      obtain ⟨n_9, heq⟩ := inr_h heq
      refine mal (k := 10) (q := 7) (n := 6) hx hb hK hP rfl n_9 dX11_about_53 ?_
      exact b54 st_1 (gA st_1 10 v1.toNatClampNeg) H locs ls hP hD hS (lv_sub hl [] rfl) heq
    have heq := it_t c_8 heq
    refine lv_aload_n hx hb dX11_about_39 rfl (lv_at hl 0 rfl) ?_
    refine mg (k := 9) (v := .ref (a 6)) hx hb hts hin hown hK hP (by decide) f25 rfl dX11_about_40 rfl ?_
    refine lv_iload_n hx hb dX11_about_43 rfl (lv_at hl 1 rfl) ?_
    obtain ⟨n_10, heq⟩ := inr_h heq
    refine mal (k := 9) (q := 6) (n := 6) hx hb hK hP rfl n_10 dX11_about_44 ?_
    refine lv_goto (tgt := 54) hx hb dX11_about_45 (by decide) ?_
    exact b54 st_1 (gA st_1 9 v1.toNatClampNeg) H locs ls hP hD hS (lv_sub hl [] rfl) heq
  have heq := it_t c_7 heq
  exact b31 st_1 H locs ls hP hD hS (lv_sub hl [] rfl) heq
