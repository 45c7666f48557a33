set_option maxRecDepth 20000 in
theorem ggX10_sits_X8_isDown : GoodIn wsX10_sits wsX8_isDown := goodIn_r _ [12, 13, 168, 169, 170, 171, 172, 173, 174, 175, 176, 177] (by decide +kernel) (by decide +kernel)
set_option maxRecDepth 20000 in
theorem gX10_sits_X8_isDown : GoodIn wsX10_sits (wsV RX10 116 RX8 yX8_isDown wsX8_isDown) := goodIn_app (goodIn_of _ (by decide +kernel)) ggX10_sits_X8_isDown
set_option maxRecDepth 20000 in
theorem ggX10_sits_X8_takeFrom : GoodIn wsX10_sits wsX8_takeFrom := goodIn_r _ [17, 18, 19, 20, 21, 22, 23, 24, 25, 26, 13, 168, 169, 170, 171, 172, 173, 174, 175, 176, 177] (by decide +kernel) (by decide +kernel)
set_option maxRecDepth 20000 in
theorem gX10_sits_X8_takeFrom : GoodIn wsX10_sits (wsV RX10 59 RX8 yX8_takeFrom wsX8_takeFrom) := goodIn_app (goodIn_of _ (by decide +kernel)) ggX10_sits_X8_takeFrom
set_option maxRecDepth 20000 in
theorem ggX10_sits_X10_around : GoodIn wsX10_sits wsX10_around := goodIn_r _ [30, 31, 32, 33, 34] (by decide +kernel) (by decide +kernel)
set_option maxRecDepth 20000 in
theorem gX10_sits_X10_around : GoodIn wsX10_sits (va_wsS RX10 177 yX10_around wsX10_around) := goodIn_app (goodIn_of _ (by decide +kernel)) ggX10_sits_X10_around
set_option maxRecDepth 20000 in
theorem ggX10_sits_X0_kind : GoodIn wsX10_sits wsX0_kind := goodIn_r _ [39] (by decide +kernel) (by decide +kernel)
set_option maxRecDepth 20000 in
theorem gX10_sits_X0_kind : GoodIn wsX10_sits (wsV RX10 87 RX0 yX0_kind wsX0_kind) := goodIn_app (goodIn_of _ (by decide +kernel)) ggX10_sits_X0_kind
set_option maxRecDepth 20000 in
theorem ggX10_sits_X1_kind : GoodIn wsX10_sits wsX1_kind := goodIn_r _ [46] (by decide +kernel) (by decide +kernel)
set_option maxRecDepth 20000 in
theorem gX10_sits_X1_kind_u87X1 : GoodIn wsX10_sits (va_wsO RX10 87 RX1 "LaidDownTheLane$Brick" ⟨"LaidDownTheLane$Brick", "kind", "()I"⟩ yX1_kind wsX1_kind) := goodIn_app (goodIn_of _ (by decide +kernel)) ggX10_sits_X1_kind
set_option maxRecDepth 20000 in
theorem ggX10_sits_X2_kind : GoodIn wsX10_sits wsX2_kind := goodIn_r _ [50] (by decide +kernel) (by decide +kernel)
set_option maxRecDepth 20000 in
theorem gX10_sits_X2_kind_u87X2 : GoodIn wsX10_sits (va_wsO RX10 87 RX2 "LaidDownTheLane$Brick" ⟨"LaidDownTheLane$Brick", "kind", "()I"⟩ yX2_kind wsX2_kind) := goodIn_app (goodIn_of _ (by decide +kernel)) ggX10_sits_X2_kind
set_option maxRecDepth 20000 in
theorem ggX10_sits_X3_kind : GoodIn wsX10_sits wsX3_kind := goodIn_r _ [54] (by decide +kernel) (by decide +kernel)
set_option maxRecDepth 20000 in
theorem gX10_sits_X3_kind_u87X3 : GoodIn wsX10_sits (va_wsO RX10 87 RX3 "LaidDownTheLane$Brick" ⟨"LaidDownTheLane$Brick", "kind", "()I"⟩ yX3_kind wsX3_kind) := goodIn_app (goodIn_of _ (by decide +kernel)) ggX10_sits_X3_kind
set_option maxRecDepth 20000 in
theorem ggX10_sits_X4_kind : GoodIn wsX10_sits wsX4_kind := goodIn_r _ [58] (by decide +kernel) (by decide +kernel)
set_option maxRecDepth 20000 in
theorem gX10_sits_X4_kind_u87X4 : GoodIn wsX10_sits (va_wsO RX10 87 RX4 "LaidDownTheLane$Brick" ⟨"LaidDownTheLane$Brick", "kind", "()I"⟩ yX4_kind wsX4_kind) := goodIn_app (goodIn_of _ (by decide +kernel)) ggX10_sits_X4_kind
set_option maxRecDepth 20000 in
theorem ggX10_sits_X5_kind : GoodIn wsX10_sits wsX5_kind := goodIn_r _ [62] (by decide +kernel) (by decide +kernel)
set_option maxRecDepth 20000 in
theorem gX10_sits_X5_kind_u87X5 : GoodIn wsX10_sits (va_wsO RX10 87 RX5 "LaidDownTheLane$Brick" ⟨"LaidDownTheLane$Brick", "kind", "()I"⟩ yX5_kind wsX5_kind) := goodIn_app (goodIn_of _ (by decide +kernel)) ggX10_sits_X5_kind
set_option maxRecDepth 20000 in
theorem ggX10_sits_X6_kind : GoodIn wsX10_sits wsX6_kind := goodIn_r _ [66] (by decide +kernel) (by decide +kernel)
set_option maxRecDepth 20000 in
theorem gX10_sits_X6_kind_u87X6 : GoodIn wsX10_sits (va_wsO RX10 87 RX6 "LaidDownTheLane$Brick" ⟨"LaidDownTheLane$Brick", "kind", "()I"⟩ yX6_kind wsX6_kind) := goodIn_app (goodIn_of _ (by decide +kernel)) ggX10_sits_X6_kind
set_option maxRecDepth 20000 in
theorem ggX10_sits_X9_kind : GoodIn wsX10_sits wsX9_kind := goodIn_r _ [70] (by decide +kernel) (by decide +kernel)
set_option maxRecDepth 20000 in
theorem gX10_sits_X9_kind_u87X9 : GoodIn wsX10_sits (va_wsO RX10 87 RX9 "LaidDownTheLane$Brick" ⟨"LaidDownTheLane$Brick", "kind", "()I"⟩ yX9_kind wsX9_kind) := goodIn_app (goodIn_of _ (by decide +kernel)) ggX10_sits_X9_kind
set_option maxRecDepth 20000 in
theorem ggX10_sits_X8_replace : GoodIn wsX10_sits wsX8_replace := goodIn_r _ [74, 18, 19, 20, 75, 76, 77, 38, 78, 79, 80, 81, 82, 83, 45, 84, 85, 86, 87, 88, 49, 89, 90, 91, 53, 92, 93, 94, 95, 96, 97, 98, 57, 99, 100, 101, 102, 103, 65, 104, 105, 106, 107, 108, 109, 110, 69, 111, 112, 113, 114, 115, 116, 117, 118, 119, 120, 121, 122, 123, 124, 125, 126, 127, 128, 129, 130, 131, 132, 61, 133, 134, 135, 136, 137, 168, 169, 170, 171, 172, 173, 174, 175, 176, 177, 178, 179, 180, 181, 182, 183, 184, 185] (by decide +kernel) (by decide +kernel)
set_option maxRecDepth 20000 in
theorem gX10_sits_X8_replace : GoodIn wsX10_sits (wsV RX10 180 RX8 yX8_replace wsX8_replace) := goodIn_app (goodIn_of _ (by decide +kernel)) ggX10_sits_X8_replace
set_option maxRecDepth 20000 in
theorem ggX10_sits_X8_fallSideAt : GoodIn wsX10_sits wsX8_fallSideAt := goodIn_r _ [141, 142, 143, 144, 11, 145, 146, 147, 148, 149, 21, 150, 151, 152, 153, 154, 155, 156, 157, 158, 159, 160, 20, 19, 168, 169, 170, 171, 172, 173, 174, 175, 176, 177] (by decide +kernel) (by decide +kernel)
set_option maxRecDepth 20000 in
theorem gX10_sits_X8_fallSideAt : GoodIn wsX10_sits (wsV RX10 184 RX8 yX8_fallSideAt wsX8_fallSideAt) := goodIn_app (goodIn_of _ (by decide +kernel)) ggX10_sits_X8_fallSideAt
theorem dX10_sits_0 : decode cX10_sits 0 = .ok (.aload_n 0, 1) := by decide +kernel
theorem dX10_sits_1 : decode cX10_sits 1 = .ok (.getfield 10, 3) := by decide +kernel
theorem dX10_sits_4 : decode cX10_sits 4 = .ok (.invokevirtual 116, 3) := by decide +kernel
theorem dX10_sits_7 : decode cX10_sits 7 = .ok (.ifCond .ne 13, 3) := by decide +kernel
theorem dX10_sits_10 : decode cX10_sits 10 = .ok (.aload_n 0, 1) := by decide +kernel
theorem dX10_sits_11 : decode cX10_sits 11 = .ok (.getfield 10, 3) := by decide +kernel
theorem dX10_sits_14 : decode cX10_sits 14 = .ok (.getfield 216, 3) := by decide +kernel
theorem dX10_sits_17 : decode cX10_sits 17 = .ok (.ifCond .eq 6, 3) := by decide +kernel
theorem dX10_sits_20 : decode cX10_sits 20 = .ok (.bipush (-3), 2) := by decide +kernel
theorem dX10_sits_22 : decode cX10_sits 22 = .ok (.ireturn, 1) := by decide +kernel
theorem dX10_sits_23 : decode cX10_sits 23 = .ok (.aload_n 0, 1) := by decide +kernel
theorem dX10_sits_24 : decode cX10_sits 24 = .ok (.getfield 16, 3) := by decide +kernel
theorem dX10_sits_27 : decode cX10_sits 27 = .ok (.aload_n 0, 1) := by decide +kernel
theorem dX10_sits_28 : decode cX10_sits 28 = .ok (.getfield 10, 3) := by decide +kernel
theorem dX10_sits_31 : decode cX10_sits 31 = .ok (.invokevirtual 59, 3) := by decide +kernel
theorem dX10_sits_34 : decode cX10_sits 34 = .ok (.iconst 0, 1) := by decide +kernel
theorem dX10_sits_35 : decode cX10_sits 35 = .ok (.istore_n 1, 1) := by decide +kernel
theorem dX10_sits_36 : decode cX10_sits 36 = .ok (.iconst 0, 1) := by decide +kernel
theorem dX10_sits_37 : decode cX10_sits 37 = .ok (.istore_n 2, 1) := by decide +kernel
theorem dX10_sits_38 : decode cX10_sits 38 = .ok (.iload_n 2, 1) := by decide +kernel
theorem dX10_sits_39 : decode cX10_sits 39 = .ok (.bipush 12, 2) := by decide +kernel
theorem dX10_sits_41 : decode cX10_sits 41 = .ok (.if_icmp .ge 99, 3) := by decide +kernel
theorem dX10_sits_44 : decode cX10_sits 44 = .ok (.iload_n 2, 1) := by decide +kernel
theorem dX10_sits_45 : decode cX10_sits 45 = .ok (.iconst 2, 1) := by decide +kernel
theorem dX10_sits_46 : decode cX10_sits 46 = .ok (.irem, 1) := by decide +kernel
theorem dX10_sits_47 : decode cX10_sits 47 = .ok (.ifCond .ne 10, 3) := by decide +kernel
theorem dX10_sits_50 : decode cX10_sits 50 = .ok (.iload_n 2, 1) := by decide +kernel
theorem dX10_sits_51 : decode cX10_sits 51 = .ok (.ineg, 1) := by decide +kernel
theorem dX10_sits_52 : decode cX10_sits 52 = .ok (.iconst 2, 1) := by decide +kernel
theorem dX10_sits_53 : decode cX10_sits 53 = .ok (.idiv, 1) := by decide +kernel
theorem dX10_sits_54 : decode cX10_sits 54 = .ok (.goto 8, 3) := by decide +kernel
theorem dX10_sits_57 : decode cX10_sits 57 = .ok (.iload_n 2, 1) := by decide +kernel
theorem dX10_sits_58 : decode cX10_sits 58 = .ok (.iconst 1, 1) := by decide +kernel
theorem dX10_sits_59 : decode cX10_sits 59 = .ok (.iadd, 1) := by decide +kernel
theorem dX10_sits_60 : decode cX10_sits 60 = .ok (.iconst 2, 1) := by decide +kernel
theorem dX10_sits_61 : decode cX10_sits 61 = .ok (.idiv, 1) := by decide +kernel
theorem dX10_sits_62 : decode cX10_sits 62 = .ok (.istore_n 3, 1) := by decide +kernel
theorem dX10_sits_63 : decode cX10_sits 63 = .ok (.aload_n 0, 1) := by decide +kernel
theorem dX10_sits_64 : decode cX10_sits 64 = .ok (.getfield 10, 3) := by decide +kernel
theorem dX10_sits_67 : decode cX10_sits 67 = .ok (.getfield 120, 3) := by decide +kernel
theorem dX10_sits_70 : decode cX10_sits 70 = .ok (.bipush 6, 2) := by decide +kernel
theorem dX10_sits_72 : decode cX10_sits 72 = .ok (.iaload, 1) := by decide +kernel
theorem dX10_sits_73 : decode cX10_sits 73 = .ok (.iload_n 3, 1) := by decide +kernel
theorem dX10_sits_74 : decode cX10_sits 74 = .ok (.iadd, 1) := by decide +kernel
theorem dX10_sits_75 : decode cX10_sits 75 = .ok (.invokestatic 177, 3) := by decide +kernel
theorem dX10_sits_78 : decode cX10_sits 78 = .ok (.istore 4, 2) := by decide +kernel
theorem dX10_sits_80 : decode cX10_sits 80 = .ok (.aload_n 0, 1) := by decide +kernel
theorem dX10_sits_81 : decode cX10_sits 81 = .ok (.getfield 10, 3) := by decide +kernel
theorem dX10_sits_84 : decode cX10_sits 84 = .ok (.getfield 84, 3) := by decide +kernel
theorem dX10_sits_87 : decode cX10_sits 87 = .ok (.iload 4, 2) := by decide +kernel
theorem dX10_sits_89 : decode cX10_sits 89 = .ok (.aaload, 1) := by decide +kernel
theorem dX10_sits_90 : decode cX10_sits 90 = .ok (.invokevirtual 87, 3) := by decide +kernel
theorem dX10_sits_93 : decode cX10_sits 93 = .ok (.iconst 1, 1) := by decide +kernel
theorem dX10_sits_94 : decode cX10_sits 94 = .ok (.if_icmp .eq 40, 3) := by decide +kernel
theorem dX10_sits_97 : decode cX10_sits 97 = .ok (.aload_n 0, 1) := by decide +kernel
theorem dX10_sits_98 : decode cX10_sits 98 = .ok (.getfield 16, 3) := by decide +kernel
theorem dX10_sits_101 : decode cX10_sits 101 = .ok (.iload 4, 2) := by decide +kernel
theorem dX10_sits_103 : decode cX10_sits 103 = .ok (.aload_n 0, 1) := by decide +kernel
theorem dX10_sits_104 : decode cX10_sits 104 = .ok (.getfield 27, 3) := by decide +kernel
theorem dX10_sits_107 : decode cX10_sits 107 = .ok (.invokevirtual 180, 3) := by decide +kernel
theorem dX10_sits_110 : decode cX10_sits 110 = .ok (.iinc 1 1, 3) := by decide +kernel
theorem dX10_sits_113 : decode cX10_sits 113 = .ok (.aload_n 0, 1) := by decide +kernel
theorem dX10_sits_114 : decode cX10_sits 114 = .ok (.getfield 16, 3) := by decide +kernel
theorem dX10_sits_117 : decode cX10_sits 117 = .ok (.aload_n 0, 1) := by decide +kernel
theorem dX10_sits_118 : decode cX10_sits 118 = .ok (.getfield 16, 3) := by decide +kernel
theorem dX10_sits_121 : decode cX10_sits 121 = .ok (.getfield 93, 3) := by decide +kernel
theorem dX10_sits_124 : decode cX10_sits 124 = .ok (.invokevirtual 184, 3) := by decide +kernel
theorem dX10_sits_127 : decode cX10_sits 127 = .ok (.bipush (-4), 2) := by decide +kernel
theorem dX10_sits_129 : decode cX10_sits 129 = .ok (.if_icmp .eq 5, 3) := by decide +kernel
theorem dX10_sits_132 : decode cX10_sits 132 = .ok (.iload_n 1, 1) := by decide +kernel
theorem dX10_sits_133 : decode cX10_sits 133 = .ok (.ireturn, 1) := by decide +kernel
theorem dX10_sits_134 : decode cX10_sits 134 = .ok (.iinc 2 1, 3) := by decide +kernel
theorem dX10_sits_137 : decode cX10_sits 137 = .ok (.goto (-99), 3) := by decide +kernel
theorem dX10_sits_140 : decode cX10_sits 140 = .ok (.bipush (-4), 2) := by decide +kernel
theorem dX10_sits_142 : decode cX10_sits 142 = .ok (.ireturn, 1) := by decide +kernel
/-! X10 sits -/
def X10_sits_p132 (xs : XS) (v1 : Int32) : Option (Int32 × XS) :=
    some (v1, xs)
def X10_sits_p134 (k38 : XS → Int32 → Int32 → Option (Int32 × XS)) (xs : XS) (v1 : Int32) (v2 : Int32) : Option (Int32 × XS) :=
    nm (v2 + (1 : Int32)) fun x_1 =>
    k38 xs v1 x_1
def X10_sits_p62 (k38 : XS → Int32 → Int32 → Option (Int32 × XS)) (xs : XS) (v1 : Int32) (v2 : Int32) (t0 : Int32) : Option (Int32 × XS) :=
    inr (6 : Int32) 7 <|
    bd1 (X10_around ((gA (xT xs 0) 3 (6 : Int32).toNatClampNeg) + t0)) fun y_3 =>
    inr y_3 12 <|
    if (kiB (xB xs 0 y_3.toNatClampNeg)) = (1 : Int32) then
      (X10_sits_p134 k38 xs v1 v2)
    else
    bnd (X8_replace_1 xs y_3 ((1, 0) : BK)) fun _ xs_9 =>
    nm (v1 + (1 : Int32)) fun x_13 =>
    bnd (X8_fallSideAt (xT xs_9 1) (gF (xT xs_9 1) 8)) fun y_14 st_15 =>
    nm (uT xs_9 1 st_15) fun xs_17 =>
    if y_14 = (-4 : Int32) then
      (X10_sits_p134 k38 xs_17 x_13 v2)
    else
    X10_sits_p132 xs_17 x_13
def X10_sits_p38 : Nat → XS → Int32 → Int32 → Option (Int32 × XS)
  | 0, _, _, _ => none
  | n + 1, xs, v1, v2 =>
    if (12 : Int32) ≤ v2 then
      (some ((-4 : Int32), xs))
    else
    dvi (2 : Int32) <|
    if (v2 - v2 / (2 : Int32) * (2 : Int32)) = 0 then
      (dvi (2 : Int32) <|
      X10_sits_p62 (fun xs v1 v2 => X10_sits_p38 n xs v1 v2) xs v1 v2 ((-v2) / (2 : Int32)))
    else
    dvi (2 : Int32) <|
    X10_sits_p62 (fun xs v1 v2 => X10_sits_p38 n xs v1 v2) xs v1 v2 ((v2 + (1 : Int32)) / (2 : Int32))
theorem X10_sits_p38_s (n : Nat) (xs : XS) (v1 : Int32) (v2 : Int32) : X10_sits_p38 (n + 1) xs v1 v2 =
    (if (12 : Int32) ≤ v2 then
      (some ((-4 : Int32), xs))
    else
    dvi (2 : Int32) <|
    if (v2 - v2 / (2 : Int32) * (2 : Int32)) = 0 then
      (dvi (2 : Int32) <|
      X10_sits_p62 (fun xs v1 v2 => X10_sits_p38 n xs v1 v2) xs v1 v2 ((-v2) / (2 : Int32)))
    else
    dvi (2 : Int32) <|
    X10_sits_p62 (fun xs v1 v2 => X10_sits_p38 n xs v1 v2) xs v1 v2 ((v2 + (1 : Int32)) / (2 : Int32))) := rfl
def X10_sits (xs : XS) : Option (Int32 × XS) :=
    bnd (X8_isDown (xT xs 0)) fun y_24 st_25 =>
    nm (uT xs 0 st_25) fun xs_27 =>
    if y_24 = 0 then
      (if (gF (xT xs_27 0) 7) = 0 then
        (bnd (X8_takeFrom_1_0 xs_27) fun _ xs_30 =>
        X10_sits_p38 13 xs_30 (0 : Int32) (0 : Int32))
      else
      some ((-3 : Int32), xs_27))
    else
    some ((-3 : Int32), xs_27)
abbrev rmX10_sits : Room := { frames := 4, cells := 0, slots := 0, locals := 94 }
theorem hdX10_sits : yX10_sits.cls = RX10 ∧ yX10_sits.cls ≠ "java/lang/invoke/MethodHandle" ∧ yX10_sits.cls ≠ "java/lang/invoke/VarHandle" ∧ (parseMethodDescriptor yX10_sits.desc).map (fun d => d.parameters.length) = some 0 := by decide +kernel
set_option maxRecDepth 100000 in
set_option maxHeartbeats 8000000 in
theorem okX10_sits (z : Nat → Nat) (l : Launch) (D : va_G) (T : mT3) (b : Nat → Nat) {xa : XA} {xs : XS} {r : Int32} {xs' : XS} (hR : xRel b xa xs) (heq : X10_sits xs = some (r, xs')) : hXi xSub z l D T b yX10_sits wsX10_sits rmX10_sits [.ref (b 0)] xa xs r xs' := by
  refine xbody_i (plainFor_of_name (by decide)) rfl (Nat.le_of_ble_eq_true rfl) (fun p e s m args below meth c A Q hx hb hml hown hts hK hA hX hret ls hP hD hS hl => ?_)
  have hl : lv_has ls 5 [(0, .ref (b 0))] := hl
  have hin10 : ∀ w ∈ wsX100, w ∈ wsX10_sits := by decide +kernel
  have hin8 : ∀ w ∈ wsX80, w ∈ wsX10_sits := by decide +kernel
  have f10 : (Cond.fieldLink RX10 10 RX10 (TX10 0).2.1 (TX10 0).2.2.1).before args s = true := hts (.fieldLink RX10 10 RX10 "now" "LLaidDownTheLane$Town;") (by decide +kernel)
  have f16 : (Cond.fieldLink RX10 16 RX10 (TX10 1).2.1 (TX10 1).2.2.1).before args s = true := hts (.fieldLink RX10 16 RX10 "trial" "LLaidDownTheLane$Town;") (by decide +kernel)
  have f27 : (Cond.fieldLink RX10 27 RX10 (TX10 4).2.1 (TX10 4).2.2.1).before args s = true := hts (.fieldLink RX10 27 RX10 "cut" "LLaidDownTheLane$Brick;") (by decide +kernel)
  have f84 : (Cond.fieldLink RX10 84 RX8 (TX8 0).2.1 (TX8 0).2.2.1).before args s = true := hts (.fieldLink RX10 84 RX8 "foot" "[LLaidDownTheLane$Brick;") (by decide +kernel)
  have f93 : (Cond.fieldLink RX10 93 RX8 (TX8 8).2.1 (TX8 8).2.2.1).before args s = true := hts (.fieldLink RX10 93 RX8 "minute" "I") (by decide +kernel)
  have f120 : (Cond.fieldLink RX10 120 RX8 (TX8 3).2.1 (TX8 3).2.2.1).before args s = true := hts (.fieldLink RX10 120 RX8 "told" "[I") (by decide +kernel)
  have f216 : (Cond.fieldLink RX10 216 RX8 (TX8 7).2.1 (TX8 7).2.2.1).before args s = true := hts (.fieldLink RX10 216 RX8 "lit" "Z") (by decide +kernel)
  obtain ⟨xa0, hxa0⟩ : ∃ z : XA, z = xa := ⟨_, rfl⟩
  rw [← hxa0] at hret
  have hU : xSub xa0 xa := by rw [hxa0]; exact xSub.rf
  clear hxa0
  have b132 : ∀ (xs : XS) (v1 : Int32) (xa : XA) (H : Heap) (locs : List Loc) (ls : Array Slot), xRel b xa xs → xSub xa0 xa → va_P D vwCl (xW b T xa xs) H → va_D A (xW b T xa xs) → va_S A s.heap H locs → lv_has ls 5 [(1, .int v1)] → X10_sits_p132 xs v1 = some (r, xs') → W p l e rmX10_sits s m args below meth c H locs 0 0 Q (F0 m 132 ls []) := by
    intro xs v1 xa H locs ls hR hU hP hD hS hl heq
    unfold X10_sits_p132 at heq
    refine lv_iload_n hx hb dX10_sits_132 rfl (lv_at hl 0 rfl) ?_
    obtain ⟨heq, heq2⟩ := ret_h heq
    subst heq
    subst heq2
    exact hret 133 H locs ls xa hR hU hP hD hS rfl dX10_sits_133
  have b134 : ∀ (k38 : XS → Int32 → Int32 → Option (Int32 × XS)) (hk38 : ∀ (xs : XS) (v1 : Int32) (v2 : Int32) (xa : XA) (H : Heap) (locs : List Loc) (ls : Array Slot), xRel b xa xs → xSub xa0 xa → va_P D vwCl (xW b T xa xs) H → va_D A (xW b T xa xs) → va_S A s.heap H locs → lv_has ls 5 [(0, .ref (b 0)), (1, .int v1), (2, .int v2)] → k38 xs v1 v2 = some (r, xs') → W p l e rmX10_sits s m args below meth c H locs 0 0 Q (F0 m 38 ls [])), ∀ (xs : XS) (v1 : Int32) (v2 : Int32) (xa : XA) (H : Heap) (locs : List Loc) (ls : Array Slot), xRel b xa xs → xSub xa0 xa → va_P D vwCl (xW b T xa xs) H → va_D A (xW b T xa xs) → va_S A s.heap H locs → lv_has ls 5 [(0, .ref (b 0)), (1, .int v1), (2, .int v2)] → X10_sits_p134 k38 xs v1 v2 = some (r, xs') → W p l e rmX10_sits s m args below meth c H locs 0 0 Q (F0 m 134 ls []) := by
    intro k38 hk38 xs v1 v2 xa H locs ls hR hU hP hD hS hl heq
    unfold X10_sits_p134 at heq
    obtain ⟨x_1, ex_1⟩ : ∃ y : Int32, y = v2 + (1 : Int32) := ⟨_, rfl⟩
    have heq := nm_h ex_1 heq
    refine lv_iinc (v := x_1) (lv' := [(2, .int x_1), (0, .ref (b 0)), (1, .int v1)]) hx hb dX10_sits_134 hl (k := 2) rfl (by rw [ex_1]; rfl) (by decide) rfl (fun ls hl => ?_)
    refine lv_goto (tgt := 38) hx hb dX10_sits_137 (by decide) ?_
    exact hk38 xs v1 x_1 xa H locs ls hR hU hP hD hS (lv_sub hl [1, 2, 0] rfl) heq
  have b62 : ∀ (k38 : XS → Int32 → Int32 → Option (Int32 × XS)) (hk38 : ∀ (xs : XS) (v1 : Int32) (v2 : Int32) (xa : XA) (H : Heap) (locs : List Loc) (ls : Array Slot), xRel b xa xs → xSub xa0 xa → va_P D vwCl (xW b T xa xs) H → va_D A (xW b T xa xs) → va_S A s.heap H locs → lv_has ls 5 [(0, .ref (b 0)), (1, .int v1), (2, .int v2)] → k38 xs v1 v2 = some (r, xs') → W p l e rmX10_sits s m args below meth c H locs 0 0 Q (F0 m 38 ls [])), ∀ (xs : XS) (v1 : Int32) (v2 : Int32) (t0 : Int32) (xa : XA) (H : Heap) (locs : List Loc) (ls : Array Slot), xRel b xa xs → xSub xa0 xa → va_P D vwCl (xW b T xa xs) H → va_D A (xW b T xa xs) → va_S A s.heap H locs → lv_has ls 5 [(0, .ref (b 0)), (1, .int v1), (2, .int v2)] → X10_sits_p62 k38 xs v1 v2 t0 = some (r, xs') → W p l e rmX10_sits s m args below meth c H locs 0 0 Q (F0 m 62 ls [.int t0]) := by
    intro k38 hk38 xs v1 v2 t0 xa H locs ls hR hU hP hD hS hl heq
    unfold X10_sits_p62 at heq
    refine lv_istore_n (lv' := [(3, .int t0), (0, .ref (b 0)), (1, .int v1), (2, .int v2)]) hx hb dX10_sits_62 rfl hl (by decide) rfl (fun ls hl => ?_)
    refine lv_aload_n hx hb dX10_sits_63 rfl (lv_at hl 1 rfl) ?_
    refine va_get (D := D) (ci := 10) (v := .ref (b 3)) (C := RX10) (T := TX10) (N := 7) hx hb hts hin10 hown hK hP 0 rfl rfl 0 (by decide) f10 (fun _ h9 => h9) rfl dX10_sits_64 ?_
    refine va_get (D := D) (ci := 8) (v := .ref (b 7)) (C := RX8) (T := TX8) (N := 10) hx hb hts hin8 hown hK hP 3 rfl rfl 3 (by decide) f120 (fun _ h9 => h9) rfl dX10_sits_67 ?_
    refine lv_bipush (v := (6 : Int32)) hx hb dX10_sits_70 (by decide) ?_
    obtain ⟨n_2, heq⟩ := inr_h heq
    refine va_iald (f := gA (xT xs 0) 3) (n := 7) hx hb hK hP 7 0 rfl rfl n_2 dX10_sits_72 ?_
    refine lv_iload_n hx hb dX10_sits_73 rfl (lv_at hl 0 rfl) ?_
    refine lv_iadd hx hb dX10_sits_74 ?_
    obtain ⟨y_3, h_4, heq⟩ := bd1_h heq
    refine h_si (own := RX10) (As := [.int ((gA (xT xs 0) 3 (6 : Int32).toNatClampNeg) + t0)]) (rest := []) (w0 := []) (w1 := []) (wr := xW b T xa xs) hx hb hml hown hts (okX10_around z l D h_4) (va_cwS 1 hts gX10_sits_X10_around rfl rfl rfl (hdX10_around).2 ⟨Nat.le_of_ble_eq_true rfl, Nat.le_of_ble_eq_true rfl⟩) (hK.sub [] rfl) hA hX hP hD hS (List.Perm.refl _) (List.Perm.refl _) rfl hl.1 rfl (Nat.le_of_ble_eq_true rfl) dX10_sits_75 ⟨Nat.le_of_ble_eq_true rfl, Nat.le_of_ble_eq_true rfl⟩ (fun H locs hP hD hS => ?_)
    refine lv_istore (lv' := [(4, .int y_3), (3, .int t0), (0, .ref (b 0)), (1, .int v1), (2, .int v2)]) hx hb dX10_sits_78 hl (by decide) rfl (fun ls hl => ?_)
    refine lv_aload_n hx hb dX10_sits_80 rfl (lv_at hl 2 rfl) ?_
    refine va_get (D := D) (ci := 10) (v := .ref (b 3)) (C := RX10) (T := TX10) (N := 7) hx hb hts hin10 hown hK hP 0 rfl rfl 0 (by decide) f10 (fun _ h9 => h9) rfl dX10_sits_81 ?_
    refine va_get (D := D) (ci := 8) (v := .ref (b 4)) (C := RX8) (T := TX8) (N := 10) hx hb hts hin8 hown hK hP 3 rfl rfl 0 (by decide) f84 (fun _ h9 => h9) rfl dX10_sits_84 ?_
    refine lv_iload hx hb dX10_sits_87 (lv_at hl 0 rfl) ?_
    obtain ⟨n_5, heq⟩ := inr_h heq
    have hb_6 := hR.1 0 (by decide) y_3.toNatClampNeg (in_lt n_5)
    refine va_aldq (C := RX0) (n := 12) (f := fun j => some (xFo xa 0 j)) hx hb hK hP 4 1 rfl rfl n_5 dX10_sits_89 ?_
    refine W.eq (g2 := F0 m 90 ls [.ref (xFo xa 0 y_3.toNatClampNeg)]) rfl ?_
    suffices hcont : ∀ (H : Heap) (locs : List Loc), va_P D vwCl (xW b T xa xs) H → va_S A s.heap H locs → W p l e rmX10_sits s m args below meth c H locs 0 0 Q (F0 m 93 ls [.int (kiB (xB xs 0 y_3.toNatClampNeg))]) by
      have hm := xMem b T xs hb_6
      have h8 := hR.2.2.2.2 _ hb_6
      obtain ⟨kk, ekk⟩ : ∃ z, z = (xB xs 0 y_3.toNatClampNeg) := ⟨_, rfl⟩
      rw [← ekk] at hm h8 hcont
      obtain ⟨kd, fg⟩ := kk
      rcases (show kd = 0 ∨ kd = 1 ∨ kd = 2 ∨ kd = 3 ∨ kd = 4 ∨ kd = 5 ∨ kd = 6 ∨ kd = 7 from by have := h8; simp only at this; omega) with rfl | rfl | rfl | rfl | rfl | rfl | rfl | rfl
      · exact x_brick (own := RX10) (rest := []) hx hb hml hown hts (okX0_kind_0 z l D T _ fg) (Or.inl (cwV 0 hts gX10_sits_X0_kind rfl rfl rfl hdX0_kind ⟨Nat.le_of_ble_eq_true rfl, Nat.le_of_ble_eq_true rfl⟩)) hK hA hX hP hD hS hm rfl hl.1 (Nat.le_of_ble_eq_true rfl) dX10_sits_90 ⟨Nat.le_of_ble_eq_true rfl, Nat.le_of_ble_eq_true rfl⟩ hcont
      · exact x_brick (own := RX10) (rest := []) hx hb hml hown hts (okX2_kind_2 z l D T _ fg) (Or.inr ⟨_, _, va_cwO 0 hts gX10_sits_X2_kind_u87X2 rfl rfl rfl (b0 := cX0_kind) (m0 := 1) (r0 := some .int) (by decide +kernel) (by decide +kernel) ⟨Nat.le_of_ble_eq_true rfl, Nat.le_of_ble_eq_true rfl⟩⟩) hK hA hX hP hD hS hm rfl hl.1 (Nat.le_of_ble_eq_true rfl) dX10_sits_90 ⟨Nat.le_of_ble_eq_true rfl, Nat.le_of_ble_eq_true rfl⟩ hcont
      · exact x_brick (own := RX10) (rest := []) hx hb hml hown hts (okX6_kind_6 z l D T _ fg) (Or.inr ⟨_, _, va_cwO 0 hts gX10_sits_X6_kind_u87X6 rfl rfl rfl (b0 := cX0_kind) (m0 := 1) (r0 := some .int) (by decide +kernel) (by decide +kernel) ⟨Nat.le_of_ble_eq_true rfl, Nat.le_of_ble_eq_true rfl⟩⟩) hK hA hX hP hD hS hm rfl hl.1 (Nat.le_of_ble_eq_true rfl) dX10_sits_90 ⟨Nat.le_of_ble_eq_true rfl, Nat.le_of_ble_eq_true rfl⟩ hcont
      · exact x_brick (own := RX10) (rest := []) hx hb hml hown hts (okX4_kind_4 z l D T _ fg) (Or.inr ⟨_, _, va_cwO 0 hts gX10_sits_X4_kind_u87X4 rfl rfl rfl (b0 := cX0_kind) (m0 := 1) (r0 := some .int) (by decide +kernel) (by decide +kernel) ⟨Nat.le_of_ble_eq_true rfl, Nat.le_of_ble_eq_true rfl⟩⟩) hK hA hX hP hD hS hm rfl hl.1 (Nat.le_of_ble_eq_true rfl) dX10_sits_90 ⟨Nat.le_of_ble_eq_true rfl, Nat.le_of_ble_eq_true rfl⟩ hcont
      · exact x_brick (own := RX10) (rest := []) hx hb hml hown hts (okX1_kind_1 z l D T _ fg) (Or.inr ⟨_, _, va_cwO 0 hts gX10_sits_X1_kind_u87X1 rfl rfl rfl (b0 := cX0_kind) (m0 := 1) (r0 := some .int) (by decide +kernel) (by decide +kernel) ⟨Nat.le_of_ble_eq_true rfl, Nat.le_of_ble_eq_true rfl⟩⟩) hK hA hX hP hD hS hm rfl hl.1 (Nat.le_of_ble_eq_true rfl) dX10_sits_90 ⟨Nat.le_of_ble_eq_true rfl, Nat.le_of_ble_eq_true rfl⟩ hcont
      · exact x_brick (own := RX10) (rest := []) hx hb hml hown hts (okX3_kind_3 z l D T _ fg) (Or.inr ⟨_, _, va_cwO 0 hts gX10_sits_X3_kind_u87X3 rfl rfl rfl (b0 := cX0_kind) (m0 := 1) (r0 := some .int) (by decide +kernel) (by decide +kernel) ⟨Nat.le_of_ble_eq_true rfl, Nat.le_of_ble_eq_true rfl⟩⟩) hK hA hX hP hD hS hm rfl hl.1 (Nat.le_of_ble_eq_true rfl) dX10_sits_90 ⟨Nat.le_of_ble_eq_true rfl, Nat.le_of_ble_eq_true rfl⟩ hcont
      · exact x_brick (own := RX10) (rest := []) hx hb hml hown hts (okX5_kind_5 z l D T _ fg) (Or.inr ⟨_, _, va_cwO 0 hts gX10_sits_X5_kind_u87X5 rfl rfl rfl (b0 := cX0_kind) (m0 := 1) (r0 := some .int) (by decide +kernel) (by decide +kernel) ⟨Nat.le_of_ble_eq_true rfl, Nat.le_of_ble_eq_true rfl⟩⟩) hK hA hX hP hD hS hm rfl hl.1 (Nat.le_of_ble_eq_true rfl) dX10_sits_90 ⟨Nat.le_of_ble_eq_true rfl, Nat.le_of_ble_eq_true rfl⟩ hcont
      · exact x_brick (own := RX10) (rest := []) hx hb hml hown hts (okX9_kind_9 z l D T _ fg) (Or.inr ⟨_, _, va_cwO 0 hts gX10_sits_X9_kind_u87X9 rfl rfl rfl (b0 := cX0_kind) (m0 := 1) (r0 := some .int) (by decide +kernel) (by decide +kernel) ⟨Nat.le_of_ble_eq_true rfl, Nat.le_of_ble_eq_true rfl⟩⟩) hK hA hX hP hD hS hm rfl hl.1 (Nat.le_of_ble_eq_true rfl) dX10_sits_90 ⟨Nat.le_of_ble_eq_true rfl, Nat.le_of_ble_eq_true rfl⟩ hcont
    intro H locs hP hS
    refine lv_iconst (v := (1 : Int32)) hx hb dX10_sits_93 (by decide) ?_
    refine lv_icmp_eq (tgt := 134) hx hb dX10_sits_94 (by decide) (fun c_7 => ?_) (fun c_7 => ?_)
    · have heq := it_t c_7 heq
      exact b134 k38 hk38 xs v1 v2 xa H locs ls hR hU hP hD hS (lv_sub hl [2, 3, 4] rfl) heq
    have heq := it_f c_7 heq
    refine lv_aload_n hx hb dX10_sits_97 rfl (lv_at hl 2 rfl) ?_
    refine va_get (D := D) (ci := 10) (v := .ref (b 10)) (C := RX10) (T := TX10) (N := 7) hx hb hts hin10 hown hK hP 0 rfl rfl 1 (by decide) f16 (fun _ h9 => h9) rfl dX10_sits_98 ?_
    refine lv_iload hx hb dX10_sits_101 (lv_at hl 0 rfl) ?_
    refine lv_aload_n hx hb dX10_sits_103 rfl (lv_at hl 2 rfl) ?_
    have hc_8 := hR.2.2.2.1
    refine va_get (D := D) (ci := 10) (v := .ref (b 24)) (C := RX10) (T := TX10) (N := 7) hx hb hts hin10 hown hK hP 0 rfl rfl 4 (by decide) f27 (fun _ h9 => h9) rfl dX10_sits_104 ?_
    obtain ⟨⟨⟩, xs_9, h_10, heq⟩ := bnd_h heq
    refine x_vv (own := RX10) (As := [.int y_3, .ref (b 24)]) (rest := []) hx hb hml hown hts (okX8_replace_1 z l D T b hR hc_8 h_10) (cwV 2 hts gX10_sits_X8_replace rfl rfl rfl hdX8_replace ⟨Nat.le_of_ble_eq_true rfl, Nat.le_of_ble_eq_true rfl⟩) hK hA hX hP hD hS (ci := 8) (q0 := 10) rfl rfl rfl hl.1 rfl (Nat.le_of_ble_eq_true rfl) dX10_sits_107 ⟨Nat.le_of_ble_eq_true rfl, Nat.le_of_ble_eq_true rfl⟩ (fun xa_11 H locs hR hsxa_11 hP hD hS => ?_)
    have hU := xSub.tr hU hsxa_11
    obtain ⟨x_13, ex_13⟩ : ∃ y : Int32, y = v1 + (1 : Int32) := ⟨_, rfl⟩
    have heq := nm_h ex_13 heq
    refine lv_iinc (v := x_13) (lv' := [(1, .int x_13), (4, .int y_3), (3, .int t0), (0, .ref (b 0)), (2, .int v2)]) hx hb dX10_sits_110 hl (k := 3) rfl (by rw [ex_13]; rfl) (by decide) rfl (fun ls hl => ?_)
    refine lv_aload_n hx hb dX10_sits_113 rfl (lv_at hl 3 rfl) ?_
    refine va_get (D := D) (ci := 10) (v := .ref (b 10)) (C := RX10) (T := TX10) (N := 7) hx hb hts hin10 hown hK hP 0 rfl rfl 1 (by decide) f16 (fun _ h9 => h9) rfl dX10_sits_114 ?_
    refine lv_aload_n hx hb dX10_sits_117 rfl (lv_at hl 3 rfl) ?_
    refine va_get (D := D) (ci := 10) (v := .ref (b 10)) (C := RX10) (T := TX10) (N := 7) hx hb hts hin10 hown hK hP 0 rfl rfl 1 (by decide) f16 (fun _ h9 => h9) rfl dX10_sits_118 ?_
    refine va_get (D := D) (ci := 8) (v := .int (gF (xT xs_9 1) 8)) (C := RX8) (T := TX8) (N := 10) hx hb hts hin8 hown hK hP 10 rfl rfl 8 (by decide) f93 (fun _ h9 => h9) rfl dX10_sits_121 ?_
    obtain ⟨y_14, st_15, h_16, heq⟩ := bnd_h heq
    refine h_vi (own := RX10) (As := [.int (gF (xT xs_9 1) 8)]) (rest := []) (wr := xWr1 b T xa_11 xs_9) hx hb hml hown hts (okX8_fallSideAt z l D (fun j => b (10 + j)) T (fun j => some (xFo xa_11 1 j)) h_16) (cwV 1 hts gX10_sits_X8_fallSideAt rfl rfl rfl hdX8_fallSideAt ⟨Nat.le_of_ble_eq_true rfl, Nat.le_of_ble_eq_true rfl⟩) hK hA hX hP hD hS (xp1 b T xa_11 xs_9) (xq1 b T xa_11 xs_9 _) (ci := 8) (q0 := 0) rfl rfl rfl hl.1 rfl (Nat.le_of_ble_eq_true rfl) dX10_sits_124 ⟨Nat.le_of_ble_eq_true rfl, Nat.le_of_ble_eq_true rfl⟩ (fun H locs hP hD hS => ?_)
    obtain ⟨xs_17, exs_17⟩ : ∃ z, z = uT xs_9 1 st_15 := ⟨_, rfl⟩
    have hR : xRel b xa_11 (uT xs_9 1 st_15) := hR.uT _ _
    rw [← exs_17] at hP hD hR
    have heq := nm_h exs_17 heq
    refine lv_bipush (v := (-4 : Int32)) hx hb dX10_sits_127 (by decide) ?_
    refine lv_icmp_eq (tgt := 134) hx hb dX10_sits_129 (by decide) (fun c_18 => ?_) (fun c_18 => ?_)
    · have heq := it_t c_18 heq
      exact b134 k38 hk38 xs_17 x_13 v2 xa_11 H locs ls hR hU hP hD hS (lv_sub hl [3, 0, 4] rfl) heq
    have heq := it_f c_18 heq
    exact b132 xs_17 x_13 xa_11 H locs ls hR hU hP hD hS (lv_sub hl [0] rfl) heq
  have b38 : ∀ (n : Nat), ∀ (xs : XS) (v1 : Int32) (v2 : Int32) (xa : XA) (H : Heap) (locs : List Loc) (ls : Array Slot), xRel b xa xs → xSub xa0 xa → va_P D vwCl (xW b T xa xs) H → va_D A (xW b T xa xs) → va_S A s.heap H locs → lv_has ls 5 [(0, .ref (b 0)), (1, .int v1), (2, .int v2)] → X10_sits_p38 n xs v1 v2 = some (r, xs') → W p l e rmX10_sits s m args below meth c H locs 0 0 Q (F0 m 38 ls []) := by
    intro n
    induction n with
    | zero => intro xs v1 v2 xa H locs ls hR hU hP hD hS hl heq; cases heq
    | succ n ih =>
      intro xs v1 v2 xa H locs ls hR hU hP hD hS hl heq
      rw [X10_sits_p38_s] at heq
      refine lv_iload_n hx hb dX10_sits_38 rfl (lv_at hl 2 rfl) ?_
      refine lv_bipush (v := (12 : Int32)) hx hb dX10_sits_39 (by decide) ?_
      refine lv_icmp_ge (tgt := 140) hx hb dX10_sits_41 (by decide) (fun c_19 => ?_) (fun c_19 => ?_)
      · have heq := it_t c_19 heq
        refine lv_bipush (v := (-4 : Int32)) hx hb dX10_sits_140 (by decide) ?_
        obtain ⟨heq, heq2⟩ := ret_h heq
        subst heq
        subst heq2
        exact hret 142 H locs ls xa hR hU hP hD hS rfl dX10_sits_142
      have heq := it_f c_19 heq
      refine lv_iload_n hx hb dX10_sits_44 rfl (lv_at hl 2 rfl) ?_
      refine lv_iconst (v := (2 : Int32)) hx hb dX10_sits_45 (by decide) ?_
      obtain ⟨n_20, heq⟩ := dvi_h heq
      refine lv_irem hx hb dX10_sits_46 n_20 ?_
      refine lv_if_ne (tgt := 57) hx hb dX10_sits_47 (by decide) (fun c_21 => ?_) (fun c_21 => ?_)
      · have heq := it_f c_21 heq
        refine lv_iload_n hx hb dX10_sits_57 rfl (lv_at hl 2 rfl) ?_
        refine lv_iconst (v := (1 : Int32)) hx hb dX10_sits_58 (by decide) ?_
        refine lv_iadd hx hb dX10_sits_59 ?_
        refine lv_iconst (v := (2 : Int32)) hx hb dX10_sits_60 (by decide) ?_
        obtain ⟨n_22, heq⟩ := dvi_h heq
        refine lv_idiv hx hb dX10_sits_61 n_22 ?_
        exact b62 (fun xs v1 v2 => X10_sits_p38 n xs v1 v2) ih xs v1 v2 ((v2 + (1 : Int32)) / (2 : Int32)) xa H locs ls hR hU hP hD hS (lv_sub hl [0, 1, 2] rfl) heq
      have heq := it_t c_21 heq
      refine lv_iload_n hx hb dX10_sits_50 rfl (lv_at hl 2 rfl) ?_
      refine lv_ineg hx hb dX10_sits_51 ?_
      refine lv_iconst (v := (2 : Int32)) hx hb dX10_sits_52 (by decide) ?_
      obtain ⟨n_23, heq⟩ := dvi_h heq
      refine lv_idiv hx hb dX10_sits_53 n_23 ?_
      refine lv_goto (tgt := 62) hx hb dX10_sits_54 (by decide) ?_
      exact b62 (fun xs v1 v2 => X10_sits_p38 n xs v1 v2) ih xs v1 v2 ((-v2) / (2 : Int32)) xa H locs ls hR hU hP hD hS (lv_sub hl [0, 1, 2] rfl) heq
  obtain ⟨H, hH⟩ : ∃ H, H = s.heap := ⟨_, rfl⟩
  obtain ⟨locs, hlocs⟩ : ∃ z : List Loc, z = [] := ⟨_, rfl⟩
  have hS : va_S A s.heap H locs := by rw [hH, hlocs]; exact hS
  have hP : va_P D vwCl (xW b T xa xs) H := by rw [hH]; exact hP
  suffices h9 : W p l e rmX10_sits s m args below meth c H locs 0 0 Q (F0 m 0 ls []) by rw [hH, hlocs] at h9; exact h9
  clear hH hlocs
  unfold X10_sits at heq
  refine lv_aload_n hx hb dX10_sits_0 rfl (lv_at hl 0 rfl) ?_
  refine va_get (D := D) (ci := 10) (v := .ref (b 3)) (C := RX10) (T := TX10) (N := 7) hx hb hts hin10 hown hK hP 0 rfl rfl 0 (by decide) f10 (fun _ h9 => h9) rfl dX10_sits_1 ?_
  obtain ⟨y_24, st_25, h_26, heq⟩ := bnd_h heq
  refine h_vi (own := RX10) (As := []) (rest := []) (wr := xWr0 b T xa xs) hx hb hml hown hts (okX8_isDown z l D (fun j => b (3 + j)) T (fun j => some (xFo xa 0 j)) h_26) (cwV 0 hts gX10_sits_X8_isDown rfl rfl rfl hdX8_isDown ⟨Nat.le_of_ble_eq_true rfl, Nat.le_of_ble_eq_true rfl⟩) hK hA hX hP hD hS (xp0 b T xa xs) (xq0 b T xa xs _) (ci := 8) (q0 := 0) rfl rfl rfl hl.1 rfl (Nat.le_of_ble_eq_true rfl) dX10_sits_4 ⟨Nat.le_of_ble_eq_true rfl, Nat.le_of_ble_eq_true rfl⟩ (fun H locs hP hD hS => ?_)
  obtain ⟨xs_27, exs_27⟩ : ∃ z, z = uT xs 0 st_25 := ⟨_, rfl⟩
  have hR : xRel b xa (uT xs 0 st_25) := hR.uT _ _
  rw [← exs_27] at hP hD hR
  have heq := nm_h exs_27 heq
  refine lv_if_ne (tgt := 20) hx hb dX10_sits_7 (by decide) (fun c_28 => ?_) (fun c_28 => ?_)
  · have heq := it_f c_28 heq
    refine lv_bipush (v := (-3 : Int32)) hx hb dX10_sits_20 (by decide) ?_
    obtain ⟨heq, heq2⟩ := ret_h heq
    subst heq
    subst heq2
    exact hret 22 H locs ls xa hR hU hP hD hS rfl dX10_sits_22
  have heq := it_t c_28 heq
  refine lv_aload_n hx hb dX10_sits_10 rfl (lv_at hl 0 rfl) ?_
  refine va_get (D := D) (ci := 10) (v := .ref (b 3)) (C := RX10) (T := TX10) (N := 7) hx hb hts hin10 hown hK hP 0 rfl rfl 0 (by decide) f10 (fun _ h9 => h9) rfl dX10_sits_11 ?_
  refine va_get (D := D) (ci := 8) (v := .int (gF (xT xs_27 0) 7)) (C := RX8) (T := TX8) (N := 10) hx hb hts hin8 hown hK hP 3 rfl rfl 7 (by decide) f216 (fun _ h9 => h9) rfl dX10_sits_14 ?_
  refine lv_if_eq (tgt := 23) hx hb dX10_sits_17 (by decide) (fun c_29 => ?_) (fun c_29 => ?_)
  · have heq := it_t c_29 heq
    refine lv_aload_n hx hb dX10_sits_23 rfl (lv_at hl 0 rfl) ?_
    refine va_get (D := D) (ci := 10) (v := .ref (b 10)) (C := RX10) (T := TX10) (N := 7) hx hb hts hin10 hown hK hP 0 rfl rfl 1 (by decide) f16 (fun _ h9 => h9) rfl dX10_sits_24 ?_
    refine lv_aload_n hx hb dX10_sits_27 rfl (lv_at hl 0 rfl) ?_
    refine va_get (D := D) (ci := 10) (v := .ref (b 3)) (C := RX10) (T := TX10) (N := 7) hx hb hts hin10 hown hK hP 0 rfl rfl 0 (by decide) f10 (fun _ h9 => h9) rfl dX10_sits_28 ?_
    obtain ⟨⟨⟩, xs_30, h_31, heq⟩ := bnd_h heq
    refine x_vv (own := RX10) (As := [.ref (b 3)]) (rest := []) hx hb hml hown hts (okX8_takeFrom_1_0 z l D T b hR h_31) (cwV 1 hts gX10_sits_X8_takeFrom rfl rfl rfl hdX8_takeFrom ⟨Nat.le_of_ble_eq_true rfl, Nat.le_of_ble_eq_true rfl⟩) hK hA hX hP hD hS (ci := 8) (q0 := 10) rfl rfl rfl hl.1 rfl (Nat.le_of_ble_eq_true rfl) dX10_sits_31 ⟨Nat.le_of_ble_eq_true rfl, Nat.le_of_ble_eq_true rfl⟩ (fun xa_32 H locs hR hsxa_32 hP hD hS => ?_)
    have hU := xSub.tr hU hsxa_32
    refine lv_iconst (v := (0 : Int32)) hx hb dX10_sits_34 (by decide) ?_
    refine lv_istore_n (lv' := [(1, .int (0 : Int32)), (0, .ref (b 0))]) hx hb dX10_sits_35 rfl hl (by decide) rfl (fun ls hl => ?_)
    refine lv_iconst (v := (0 : Int32)) hx hb dX10_sits_36 (by decide) ?_
    refine lv_istore_n (lv' := [(2, .int (0 : Int32)), (1, .int (0 : Int32)), (0, .ref (b 0))]) hx hb dX10_sits_37 rfl hl (by decide) rfl (fun ls hl => ?_)
    exact b38 13 xs_30 (0 : Int32) (0 : Int32) xa_32 H locs ls hR hU hP hD hS (lv_sub hl [2, 1, 0] rfl) heq
  have heq := it_f c_29 heq
  refine lv_bipush (v := (-3 : Int32)) hx hb dX10_sits_20 (by decide) ?_
  obtain ⟨heq, heq2⟩ := ret_h heq
  subst heq
  subst heq2
  exact hret 22 H locs ls xa hR hU hP hD hS rfl dX10_sits_22
set_option maxRecDepth 20000 in
theorem ggX10_hits_X10_isSide : GoodIn wsX10_hits wsX10_isSide := goodIn_r _ [6] (by decide +kernel) (by decide +kernel)
set_option maxRecDepth 20000 in
theorem gX10_hits_X10_isSide : GoodIn wsX10_hits (va_wsS RX10 80 yX10_isSide wsX10_isSide) := goodIn_app (goodIn_of _ (by decide +kernel)) ggX10_hits_X10_isSide
set_option maxRecDepth 20000 in
theorem ggX10_hits_X8_hitBy : GoodIn wsX10_hits wsX8_hitBy := goodIn_r _ [11, 12, 13, 14, 15, 16, 17, 18, 19, 20, 21, 22, 10, 23, 24, 25, 26, 27, 28, 5, 29, 30, 31, 32, 33, 34, 35, 36, 37, 56, 57, 58, 59, 60, 61, 62, 63, 64, 65] (by decide +kernel) (by decide +kernel)
set_option maxRecDepth 20000 in
theorem gX10_hits_X8_hitBy : GoodIn wsX10_hits (wsV RX10 220 RX8 yX8_hitBy wsX8_hitBy) := goodIn_app (goodIn_of _ (by decide +kernel)) ggX10_hits_X8_hitBy
set_option maxRecDepth 20000 in
theorem ggX10_hits_X8_topSide : GoodIn wsX10_hits wsX8_topSide := goodIn_r _ [23, 15, 24, 25, 26, 10, 27, 28, 5, 29, 30, 31, 32, 33, 56, 57, 58, 59, 60, 61, 62, 63, 64, 65] (by decide +kernel) (by decide +kernel)
set_option maxRecDepth 20000 in
theorem gX10_hits_X8_topSide : GoodIn wsX10_hits (wsV RX10 223 RX8 yX8_topSide wsX8_topSide) := goodIn_app (goodIn_of _ (by decide +kernel)) ggX10_hits_X8_topSide
set_option maxRecDepth 20000 in
theorem ggX10_hits_X8_breaksAt : GoodIn wsX10_hits wsX8_breaksAt := goodIn_r _ [27, 15, 56, 57, 58, 59, 60, 61, 62, 63, 64, 65] (by decide +kernel) (by decide +kernel)
set_option maxRecDepth 20000 in
theorem gX10_hits_X8_breaksAt : GoodIn wsX10_hits (wsV RX10 226 RX8 yX8_breaksAt wsX8_breaksAt) := goodIn_app (goodIn_of _ (by decide +kernel)) ggX10_hits_X8_breaksAt
set_option maxRecDepth 20000 in
theorem ggX10_hits_X8_topFar : GoodIn wsX10_hits wsX8_topFar := goodIn_r _ [37, 15, 56, 57, 58, 59, 60, 61, 62, 63, 64, 65] (by decide +kernel) (by decide +kernel)
set_option maxRecDepth 20000 in
theorem gX10_hits_X8_topFar : GoodIn wsX10_hits (wsV RX10 229 RX8 yX8_topFar wsX8_topFar) := goodIn_app (goodIn_of _ (by decide +kernel)) ggX10_hits_X8_topFar
set_option maxRecDepth 20000 in
theorem ggX10_hits_X8_kickedBy : GoodIn wsX10_hits wsX8_kickedBy := goodIn_r _ [44, 12, 13, 14, 28, 5, 29, 30, 31, 32, 33, 45, 46, 47, 10, 48, 15, 56, 57, 58, 59, 60, 61, 62, 63, 64, 65] (by decide +kernel) (by decide +kernel)
set_option maxRecDepth 20000 in
theorem gX10_hits_X8_kickedBy : GoodIn wsX10_hits (wsV RX10 232 RX8 yX8_kickedBy wsX8_kickedBy) := goodIn_app (goodIn_of _ (by decide +kernel)) ggX10_hits_X8_kickedBy
theorem dX10_hits_0 : decode cX10_hits 0 = .ok (.iload_n 1, 1) := by decide +kernel
theorem dX10_hits_1 : decode cX10_hits 1 = .ok (.invokestatic 80, 3) := by decide +kernel
theorem dX10_hits_4 : decode cX10_hits 4 = .ok (.ifCond .ne 5, 3) := by decide +kernel
theorem dX10_hits_7 : decode cX10_hits 7 = .ok (.iconst (-1), 1) := by decide +kernel
theorem dX10_hits_8 : decode cX10_hits 8 = .ok (.ireturn, 1) := by decide +kernel
theorem dX10_hits_9 : decode cX10_hits 9 = .ok (.iload_n 2, 1) := by decide +kernel
theorem dX10_hits_10 : decode cX10_hits 10 = .ok (.tableswitch 101 0 3 #[30, 46, 62, 92], 30) := by decide +kernel
theorem dX10_hits_40 : decode cX10_hits 40 = .ok (.aload_n 0, 1) := by decide +kernel
theorem dX10_hits_41 : decode cX10_hits 41 = .ok (.getfield 10, 3) := by decide +kernel
theorem dX10_hits_44 : decode cX10_hits 44 = .ok (.iload_n 1, 1) := by decide +kernel
theorem dX10_hits_45 : decode cX10_hits 45 = .ok (.aload_n 0, 1) := by decide +kernel
theorem dX10_hits_46 : decode cX10_hits 46 = .ok (.getfield 10, 3) := by decide +kernel
theorem dX10_hits_49 : decode cX10_hits 49 = .ok (.getfield 93, 3) := by decide +kernel
theorem dX10_hits_52 : decode cX10_hits 52 = .ok (.invokevirtual 220, 3) := by decide +kernel
theorem dX10_hits_55 : decode cX10_hits 55 = .ok (.ireturn, 1) := by decide +kernel
theorem dX10_hits_56 : decode cX10_hits 56 = .ok (.aload_n 0, 1) := by decide +kernel
theorem dX10_hits_57 : decode cX10_hits 57 = .ok (.getfield 10, 3) := by decide +kernel
theorem dX10_hits_60 : decode cX10_hits 60 = .ok (.iload_n 1, 1) := by decide +kernel
theorem dX10_hits_61 : decode cX10_hits 61 = .ok (.aload_n 0, 1) := by decide +kernel
theorem dX10_hits_62 : decode cX10_hits 62 = .ok (.getfield 10, 3) := by decide +kernel
theorem dX10_hits_65 : decode cX10_hits 65 = .ok (.getfield 93, 3) := by decide +kernel
theorem dX10_hits_68 : decode cX10_hits 68 = .ok (.invokevirtual 223, 3) := by decide +kernel
theorem dX10_hits_71 : decode cX10_hits 71 = .ok (.ireturn, 1) := by decide +kernel
theorem dX10_hits_72 : decode cX10_hits 72 = .ok (.aload_n 0, 1) := by decide +kernel
theorem dX10_hits_73 : decode cX10_hits 73 = .ok (.getfield 10, 3) := by decide +kernel
theorem dX10_hits_76 : decode cX10_hits 76 = .ok (.aload_n 0, 1) := by decide +kernel
theorem dX10_hits_77 : decode cX10_hits 77 = .ok (.getfield 10, 3) := by decide +kernel
theorem dX10_hits_80 : decode cX10_hits 80 = .ok (.getfield 93, 3) := by decide +kernel
theorem dX10_hits_83 : decode cX10_hits 83 = .ok (.invokevirtual 226, 3) := by decide +kernel
theorem dX10_hits_86 : decode cX10_hits 86 = .ok (.ifCond .eq 13, 3) := by decide +kernel
theorem dX10_hits_89 : decode cX10_hits 89 = .ok (.aload_n 0, 1) := by decide +kernel
theorem dX10_hits_90 : decode cX10_hits 90 = .ok (.getfield 10, 3) := by decide +kernel
theorem dX10_hits_93 : decode cX10_hits 93 = .ok (.invokevirtual 229, 3) := by decide +kernel
theorem dX10_hits_96 : decode cX10_hits 96 = .ok (.goto 5, 3) := by decide +kernel
theorem dX10_hits_99 : decode cX10_hits 99 = .ok (.bipush (-4), 2) := by decide +kernel
theorem dX10_hits_101 : decode cX10_hits 101 = .ok (.ireturn, 1) := by decide +kernel
theorem dX10_hits_102 : decode cX10_hits 102 = .ok (.aload_n 0, 1) := by decide +kernel
theorem dX10_hits_103 : decode cX10_hits 103 = .ok (.getfield 10, 3) := by decide +kernel
theorem dX10_hits_106 : decode cX10_hits 106 = .ok (.iload_n 1, 1) := by decide +kernel
theorem dX10_hits_107 : decode cX10_hits 107 = .ok (.invokevirtual 232, 3) := by decide +kernel
theorem dX10_hits_110 : decode cX10_hits 110 = .ok (.ireturn, 1) := by decide +kernel
theorem dX10_hits_111 : decode cX10_hits 111 = .ok (.iconst (-1), 1) := by decide +kernel
theorem dX10_hits_112 : decode cX10_hits 112 = .ok (.ireturn, 1) := by decide +kernel
/-! X10 hits -/
def X10_hits_p101 (xs : XS) (t0 : Int32) : Option (Int32 × XS) :=
    some (t0, xs)
def X10_hits (xs : XS) (v1 : Int32) (v2 : Int32) : Option (Int32 × XS) :=
    bd1 (X10_isSide v1) fun y_1 =>
    if y_1 = 0 then
      (some ((-1 : Int32), xs))
    else
    if v2 = (0 : Int32) then
      (bnd (X8_hitBy (xT xs 0) v1 (gF (xT xs 0) 8)) fun y_5 st_6 =>
      nm (uT xs 0 st_6) fun xs_8 =>
      some (y_5, xs_8))
    else
    if v2 = (1 : Int32) then
      (bnd (X8_topSide (xT xs 0) v1 (gF (xT xs 0) 8)) fun y_10 st_11 =>
      nm (uT xs 0 st_11) fun xs_13 =>
      some (y_10, xs_13))
    else
    if v2 = (2 : Int32) then
      (bnd (X8_breaksAt (xT xs 0) (gF (xT xs 0) 8)) fun y_15 st_16 =>
      nm (uT xs 0 st_16) fun xs_18 =>
      if y_15 = 0 then
        (X10_hits_p101 xs_18 (-4 : Int32))
      else
      bnd (X8_topFar (xT xs_18 0)) fun y_20 st_21 =>
      nm (uT xs_18 0 st_21) fun xs_23 =>
      X10_hits_p101 xs_23 y_20)
    else
    if v2 = (3 : Int32) then
      (bnd (X8_kickedBy (xT xs 0) v1) fun y_25 st_26 =>
      nm (uT xs 0 st_26) fun xs_28 =>
      some (y_25, xs_28))
    else
    some ((-1 : Int32), xs)
abbrev rmX10_hits : Room := { frames := 4, cells := 0, slots := 0, locals := 92 }
theorem hdX10_hits : yX10_hits.cls = RX10 ∧ yX10_hits.cls ≠ "java/lang/invoke/MethodHandle" ∧ yX10_hits.cls ≠ "java/lang/invoke/VarHandle" ∧ (parseMethodDescriptor yX10_hits.desc).map (fun d => d.parameters.length) = some 2 := by decide +kernel
set_option maxRecDepth 100000 in
set_option maxHeartbeats 8000000 in
theorem okX10_hits (z : Nat → Nat) (l : Launch) (D : va_G) (T : mT3) (b : Nat → Nat) {xa : XA} {xs : XS} {v1 : Int32} {v2 : Int32} {r : Int32} {xs' : XS} (hR : xRel b xa xs) (heq : X10_hits xs v1 v2 = some (r, xs')) : hXi xSub z l D T b yX10_hits wsX10_hits rmX10_hits [.ref (b 0), .int v1, .int v2] xa xs r xs' := by
  refine xbody_i (plainFor_of_name (by decide)) rfl (Nat.le_of_ble_eq_true rfl) (fun p e s m args below meth c A Q hx hb hml hown hts hK hA hX hret ls hP hD hS hl => ?_)
  have hl : lv_has ls 3 [(0, .ref (b 0)), (1, .int v1), (2, .int v2)] := hl
  have hin10 : ∀ w ∈ wsX100, w ∈ wsX10_hits := by decide +kernel
  have hin8 : ∀ w ∈ wsX80, w ∈ wsX10_hits := by decide +kernel
  have f10 : (Cond.fieldLink RX10 10 RX10 (TX10 0).2.1 (TX10 0).2.2.1).before args s = true := hts (.fieldLink RX10 10 RX10 "now" "LLaidDownTheLane$Town;") (by decide +kernel)
  have f93 : (Cond.fieldLink RX10 93 RX8 (TX8 8).2.1 (TX8 8).2.2.1).before args s = true := hts (.fieldLink RX10 93 RX8 "minute" "I") (by decide +kernel)
  obtain ⟨xa0, hxa0⟩ : ∃ z : XA, z = xa := ⟨_, rfl⟩
  rw [← hxa0] at hret
  have hU : xSub xa0 xa := by rw [hxa0]; exact xSub.rf
  clear hxa0
  have b101 : ∀ (xs : XS) (t0 : Int32) (xa : XA) (H : Heap) (locs : List Loc) (ls : Array Slot), xRel b xa xs → xSub xa0 xa → va_P D vwCl (xW b T xa xs) H → va_D A (xW b T xa xs) → va_S A s.heap H locs → lv_has ls 3 [] → X10_hits_p101 xs t0 = some (r, xs') → W p l e rmX10_hits s m args below meth c H locs 0 0 Q (F0 m 101 ls [.int t0]) := by
    intro xs t0 xa H locs ls hR hU hP hD hS hl heq
    unfold X10_hits_p101 at heq
    obtain ⟨heq, heq2⟩ := ret_h heq
    subst heq
    subst heq2
    exact hret 101 H locs ls xa hR hU hP hD hS rfl dX10_hits_101
  obtain ⟨H, hH⟩ : ∃ H, H = s.heap := ⟨_, rfl⟩
  obtain ⟨locs, hlocs⟩ : ∃ z : List Loc, z = [] := ⟨_, rfl⟩
  have hS : va_S A s.heap H locs := by rw [hH, hlocs]; exact hS
  have hP : va_P D vwCl (xW b T xa xs) H := by rw [hH]; exact hP
  suffices h9 : W p l e rmX10_hits s m args below meth c H locs 0 0 Q (F0 m 0 ls []) by rw [hH, hlocs] at h9; exact h9
  clear hH hlocs
  unfold X10_hits at heq
  refine lv_iload_n hx hb dX10_hits_0 rfl (lv_at hl 1 rfl) ?_
  obtain ⟨y_1, h_2, heq⟩ := bd1_h heq
  refine h_si (own := RX10) (As := [.int v1]) (rest := []) (w0 := []) (w1 := []) (wr := xW b T xa xs) hx hb hml hown hts (okX10_isSide z l D h_2) (va_cwS 1 hts gX10_hits_X10_isSide rfl rfl rfl (hdX10_isSide).2 ⟨Nat.le_of_ble_eq_true rfl, Nat.le_of_ble_eq_true rfl⟩) (hK.sub [] rfl) hA hX hP hD hS (List.Perm.refl _) (List.Perm.refl _) rfl hl.1 rfl (Nat.le_of_ble_eq_true rfl) dX10_hits_1 ⟨Nat.le_of_ble_eq_true rfl, Nat.le_of_ble_eq_true rfl⟩ (fun H locs hP hD hS => ?_)
  refine lv_if_ne (tgt := 9) hx hb dX10_hits_4 (by decide) (fun c_3 => ?_) (fun c_3 => ?_)
  · have heq := it_f c_3 heq
    refine lv_iload_n hx hb dX10_hits_9 rfl (lv_at hl 2 rfl) ?_
    by_cases c_4 : v2 = (0 : Int32)
    · have heq := it_t c_4 heq
      refine lv_tableIn (tgt := 40) hx hb dX10_hits_10 (by rw [c_4]; decide) (by rw [c_4]; decide) (by rw [c_4]; rfl) (by decide) ?_
      refine lv_aload_n hx hb dX10_hits_40 rfl (lv_at hl 0 rfl) ?_
      refine va_get (D := D) (ci := 10) (v := .ref (b 3)) (C := RX10) (T := TX10) (N := 7) hx hb hts hin10 hown hK hP 0 rfl rfl 0 (by decide) f10 (fun _ h9 => h9) rfl dX10_hits_41 ?_
      refine lv_iload_n hx hb dX10_hits_44 rfl (lv_at hl 1 rfl) ?_
      refine lv_aload_n hx hb dX10_hits_45 rfl (lv_at hl 0 rfl) ?_
      refine va_get (D := D) (ci := 10) (v := .ref (b 3)) (C := RX10) (T := TX10) (N := 7) hx hb hts hin10 hown hK hP 0 rfl rfl 0 (by decide) f10 (fun _ h9 => h9) rfl dX10_hits_46 ?_
      refine va_get (D := D) (ci := 8) (v := .int (gF (xT xs 0) 8)) (C := RX8) (T := TX8) (N := 10) hx hb hts hin8 hown hK hP 3 rfl rfl 8 (by decide) f93 (fun _ h9 => h9) rfl dX10_hits_49 ?_
      obtain ⟨y_5, st_6, h_7, heq⟩ := bnd_h heq
      refine h_vi (own := RX10) (As := [.int v1, .int (gF (xT xs 0) 8)]) (rest := []) (wr := xWr0 b T xa xs) hx hb hml hown hts (okX8_hitBy z l D (fun j => b (3 + j)) T (fun j => some (xFo xa 0 j)) h_7) (cwV 2 hts gX10_hits_X8_hitBy rfl rfl rfl hdX8_hitBy ⟨Nat.le_of_ble_eq_true rfl, Nat.le_of_ble_eq_true rfl⟩) hK hA hX hP hD hS (xp0 b T xa xs) (xq0 b T xa xs _) (ci := 8) (q0 := 0) rfl rfl rfl hl.1 rfl (Nat.le_of_ble_eq_true rfl) dX10_hits_52 ⟨Nat.le_of_ble_eq_true rfl, Nat.le_of_ble_eq_true rfl⟩ (fun H locs hP hD hS => ?_)
      obtain ⟨xs_8, exs_8⟩ : ∃ z, z = uT xs 0 st_6 := ⟨_, rfl⟩
      have hR : xRel b xa (uT xs 0 st_6) := hR.uT _ _
      rw [← exs_8] at hP hD hR
      have heq := nm_h exs_8 heq
      obtain ⟨heq, heq2⟩ := ret_h heq
      subst heq
      subst heq2
      exact hret 55 H locs ls xa hR hU hP hD hS rfl dX10_hits_55
    have heq := it_f c_4 heq
    by_cases c_9 : v2 = (1 : Int32)
    · have heq := it_t c_9 heq
      refine lv_tableIn (tgt := 56) hx hb dX10_hits_10 (by rw [c_9]; decide) (by rw [c_9]; decide) (by rw [c_9]; rfl) (by decide) ?_
      refine lv_aload_n hx hb dX10_hits_56 rfl (lv_at hl 0 rfl) ?_
      refine va_get (D := D) (ci := 10) (v := .ref (b 3)) (C := RX10) (T := TX10) (N := 7) hx hb hts hin10 hown hK hP 0 rfl rfl 0 (by decide) f10 (fun _ h9 => h9) rfl dX10_hits_57 ?_
      refine lv_iload_n hx hb dX10_hits_60 rfl (lv_at hl 1 rfl) ?_
      refine lv_aload_n hx hb dX10_hits_61 rfl (lv_at hl 0 rfl) ?_
      refine va_get (D := D) (ci := 10) (v := .ref (b 3)) (C := RX10) (T := TX10) (N := 7) hx hb hts hin10 hown hK hP 0 rfl rfl 0 (by decide) f10 (fun _ h9 => h9) rfl dX10_hits_62 ?_
      refine va_get (D := D) (ci := 8) (v := .int (gF (xT xs 0) 8)) (C := RX8) (T := TX8) (N := 10) hx hb hts hin8 hown hK hP 3 rfl rfl 8 (by decide) f93 (fun _ h9 => h9) rfl dX10_hits_65 ?_
      obtain ⟨y_10, st_11, h_12, heq⟩ := bnd_h heq
      refine h_vi (own := RX10) (As := [.int v1, .int (gF (xT xs 0) 8)]) (rest := []) (wr := xWr0 b T xa xs) hx hb hml hown hts (okX8_topSide z l D (fun j => b (3 + j)) T (fun j => some (xFo xa 0 j)) h_12) (cwV 2 hts gX10_hits_X8_topSide rfl rfl rfl hdX8_topSide ⟨Nat.le_of_ble_eq_true rfl, Nat.le_of_ble_eq_true rfl⟩) hK hA hX hP hD hS (xp0 b T xa xs) (xq0 b T xa xs _) (ci := 8) (q0 := 0) rfl rfl rfl hl.1 rfl (Nat.le_of_ble_eq_true rfl) dX10_hits_68 ⟨Nat.le_of_ble_eq_true rfl, Nat.le_of_ble_eq_true rfl⟩ (fun H locs hP hD hS => ?_)
      obtain ⟨xs_13, exs_13⟩ : ∃ z, z = uT xs 0 st_11 := ⟨_, rfl⟩
      have hR : xRel b xa (uT xs 0 st_11) := hR.uT _ _
      rw [← exs_13] at hP hD hR
      have heq := nm_h exs_13 heq
      obtain ⟨heq, heq2⟩ := ret_h heq
      subst heq
      subst heq2
      exact hret 71 H locs ls xa hR hU hP hD hS rfl dX10_hits_71
    have heq := it_f c_9 heq
    by_cases c_14 : v2 = (2 : Int32)
    · have heq := it_t c_14 heq
      refine lv_tableIn (tgt := 72) hx hb dX10_hits_10 (by rw [c_14]; decide) (by rw [c_14]; decide) (by rw [c_14]; rfl) (by decide) ?_
      refine lv_aload_n hx hb dX10_hits_72 rfl (lv_at hl 0 rfl) ?_
      refine va_get (D := D) (ci := 10) (v := .ref (b 3)) (C := RX10) (T := TX10) (N := 7) hx hb hts hin10 hown hK hP 0 rfl rfl 0 (by decide) f10 (fun _ h9 => h9) rfl dX10_hits_73 ?_
      refine lv_aload_n hx hb dX10_hits_76 rfl (lv_at hl 0 rfl) ?_
      refine va_get (D := D) (ci := 10) (v := .ref (b 3)) (C := RX10) (T := TX10) (N := 7) hx hb hts hin10 hown hK hP 0 rfl rfl 0 (by decide) f10 (fun _ h9 => h9) rfl dX10_hits_77 ?_
      refine va_get (D := D) (ci := 8) (v := .int (gF (xT xs 0) 8)) (C := RX8) (T := TX8) (N := 10) hx hb hts hin8 hown hK hP 3 rfl rfl 8 (by decide) f93 (fun _ h9 => h9) rfl dX10_hits_80 ?_
      obtain ⟨y_15, st_16, h_17, heq⟩ := bnd_h heq
      refine h_vi (own := RX10) (As := [.int (gF (xT xs 0) 8)]) (rest := []) (wr := xWr0 b T xa xs) hx hb hml hown hts (okX8_breaksAt z l D (fun j => b (3 + j)) T (fun j => some (xFo xa 0 j)) h_17) (cwV 1 hts gX10_hits_X8_breaksAt rfl rfl rfl hdX8_breaksAt ⟨Nat.le_of_ble_eq_true rfl, Nat.le_of_ble_eq_true rfl⟩) hK hA hX hP hD hS (xp0 b T xa xs) (xq0 b T xa xs _) (ci := 8) (q0 := 0) rfl rfl rfl hl.1 rfl (Nat.le_of_ble_eq_true rfl) dX10_hits_83 ⟨Nat.le_of_ble_eq_true rfl, Nat.le_of_ble_eq_true rfl⟩ (fun H locs hP hD hS => ?_)
      obtain ⟨xs_18, exs_18⟩ : ∃ z, z = uT xs 0 st_16 := ⟨_, rfl⟩
      have hR : xRel b xa (uT xs 0 st_16) := hR.uT _ _
      rw [← exs_18] at hP hD hR
      have heq := nm_h exs_18 heq
      refine lv_if_eq (tgt := 99) hx hb dX10_hits_86 (by decide) (fun c_19 => ?_) (fun c_19 => ?_)
      · have heq := it_t c_19 heq
        refine lv_bipush (v := (-4 : Int32)) hx hb dX10_hits_99 (by decide) ?_
        exact b101 xs_18 (-4 : Int32) xa H locs ls hR hU hP hD hS (lv_sub hl [] rfl) heq
      have heq := it_f c_19 heq
      refine lv_aload_n hx hb dX10_hits_89 rfl (lv_at hl 0 rfl) ?_
      refine va_get (D := D) (ci := 10) (v := .ref (b 3)) (C := RX10) (T := TX10) (N := 7) hx hb hts hin10 hown hK hP 0 rfl rfl 0 (by decide) f10 (fun _ h9 => h9) rfl dX10_hits_90 ?_
      obtain ⟨y_20, st_21, h_22, heq⟩ := bnd_h heq
      refine h_vi (own := RX10) (As := []) (rest := []) (wr := xWr0 b T xa xs_18) hx hb hml hown hts (okX8_topFar z l D (fun j => b (3 + j)) T (fun j => some (xFo xa 0 j)) h_22) (cwV 0 hts gX10_hits_X8_topFar rfl rfl rfl hdX8_topFar ⟨Nat.le_of_ble_eq_true rfl, Nat.le_of_ble_eq_true rfl⟩) hK hA hX hP hD hS (xp0 b T xa xs_18) (xq0 b T xa xs_18 _) (ci := 8) (q0 := 0) rfl rfl rfl hl.1 rfl (Nat.le_of_ble_eq_true rfl) dX10_hits_93 ⟨Nat.le_of_ble_eq_true rfl, Nat.le_of_ble_eq_true rfl⟩ (fun H locs hP hD hS => ?_)
      obtain ⟨xs_23, exs_23⟩ : ∃ z, z = uT xs_18 0 st_21 := ⟨_, rfl⟩
      have hR : xRel b xa (uT xs_18 0 st_21) := hR.uT _ _
      rw [← exs_23] at hP hD hR
      have heq := nm_h exs_23 heq
      refine lv_goto (tgt := 101) hx hb dX10_hits_96 (by decide) ?_
      exact b101 xs_23 y_20 xa H locs ls hR hU hP hD hS (lv_sub hl [] rfl) heq
    have heq := it_f c_14 heq
    by_cases c_24 : v2 = (3 : Int32)
    · have heq := it_t c_24 heq
      refine lv_tableIn (tgt := 102) hx hb dX10_hits_10 (by rw [c_24]; decide) (by rw [c_24]; decide) (by rw [c_24]; rfl) (by decide) ?_
      refine lv_aload_n hx hb dX10_hits_102 rfl (lv_at hl 0 rfl) ?_
      refine va_get (D := D) (ci := 10) (v := .ref (b 3)) (C := RX10) (T := TX10) (N := 7) hx hb hts hin10 hown hK hP 0 rfl rfl 0 (by decide) f10 (fun _ h9 => h9) rfl dX10_hits_103 ?_
      refine lv_iload_n hx hb dX10_hits_106 rfl (lv_at hl 1 rfl) ?_
      obtain ⟨y_25, st_26, h_27, heq⟩ := bnd_h heq
      refine h_vi (own := RX10) (As := [.int v1]) (rest := []) (wr := xWr0 b T xa xs) hx hb hml hown hts (okX8_kickedBy z l D (fun j => b (3 + j)) T (fun j => some (xFo xa 0 j)) h_27) (cwV 1 hts gX10_hits_X8_kickedBy rfl rfl rfl hdX8_kickedBy ⟨Nat.le_of_ble_eq_true rfl, Nat.le_of_ble_eq_true rfl⟩) hK hA hX hP hD hS (xp0 b T xa xs) (xq0 b T xa xs _) (ci := 8) (q0 := 0) rfl rfl rfl hl.1 rfl (Nat.le_of_ble_eq_true rfl) dX10_hits_107 ⟨Nat.le_of_ble_eq_true rfl, Nat.le_of_ble_eq_true rfl⟩ (fun H locs hP hD hS => ?_)
      obtain ⟨xs_28, exs_28⟩ : ∃ z, z = uT xs 0 st_26 := ⟨_, rfl⟩
      have hR : xRel b xa (uT xs 0 st_26) := hR.uT _ _
      rw [← exs_28] at hP hD hR
      have heq := nm_h exs_28 heq
      obtain ⟨heq, heq2⟩ := ret_h heq
      subst heq
      subst heq2
      exact hret 110 H locs ls xa hR hU hP hD hS rfl dX10_hits_110
    have heq := it_f c_24 heq
    refine lv_tableOut (tgt := 111) hx hb dX10_hits_10 (sw_out fun k h1 h2 => ?_) (by decide) ?_
    · rcases (show k = 0 ∨ k = 1 ∨ k = 2 ∨ k = 3 by omega) with rfl | rfl | rfl | rfl
      · exact c_4
      · exact c_9
      · exact c_14
      · exact c_24
    refine lv_iconst (v := (-1 : Int32)) hx hb dX10_hits_111 (by decide) ?_
    obtain ⟨heq, heq2⟩ := ret_h heq
    subst heq
    subst heq2
    exact hret 112 H locs ls xa hR hU hP hD hS rfl dX10_hits_112
  have heq := it_t c_3 heq
  refine lv_iconst (v := (-1 : Int32)) hx hb dX10_hits_7 (by decide) ?_
  obtain ⟨heq, heq2⟩ := ret_h heq
  subst heq
  subst heq2
  exact hret 8 H locs ls xa hR hU hP hD hS rfl dX10_hits_8
set_option maxRecDepth 20000 in
theorem ggX10_sendOut_X8_struckBy : GoodIn wsX10_sendOut wsX8_struckBy := goodIn_r _ [8, 9, 10, 11, 7, 12, 13, 14, 15, 16, 17, 18, 19, 20, 21, 22, 23, 24, 25, 26, 27, 28, 29, 30, 31, 32, 33, 34, 35, 36, 37, 38, 39, 40, 41, 42, 43, 44, 45, 46, 47, 56, 57, 58, 59, 60, 61, 62, 63, 64, 65] (by decide +kernel) (by decide +kernel)
set_option maxRecDepth 20000 in
theorem gX10_sendOut_X8_struckBy : GoodIn wsX10_sendOut (wsV RX10 235 RX8 yX8_struckBy wsX8_struckBy) := goodIn_app (goodIn_of _ (by decide +kernel)) ggX10_sendOut_X8_struckBy
set_option maxRecDepth 20000 in
theorem ggX10_sendOut_X10_around : GoodIn wsX10_sendOut wsX10_around := goodIn_r _ [31, 32, 33, 34, 35] (by decide +kernel) (by decide +kernel)
set_option maxRecDepth 20000 in
theorem gX10_sendOut_X10_around : GoodIn wsX10_sendOut (va_wsS RX10 177 yX10_around wsX10_around) := goodIn_app (goodIn_of _ (by decide +kernel)) ggX10_sendOut_X10_around
theorem dX10_sendOut_0 : decode cX10_sendOut 0 = .ok (.aload_n 0, 1) := by decide +kernel
theorem dX10_sendOut_1 : decode cX10_sendOut 1 = .ok (.getfield 10, 3) := by decide +kernel
theorem dX10_sendOut_4 : decode cX10_sendOut 4 = .ok (.getfield 120, 3) := by decide +kernel
theorem dX10_sendOut_7 : decode cX10_sendOut 7 = .ok (.bipush 6, 2) := by decide +kernel
theorem dX10_sendOut_9 : decode cX10_sendOut 9 = .ok (.iaload, 1) := by decide +kernel
theorem dX10_sendOut_10 : decode cX10_sendOut 10 = .ok (.istore_n 1, 1) := by decide +kernel
theorem dX10_sendOut_11 : decode cX10_sendOut 11 = .ok (.aload_n 0, 1) := by decide +kernel
theorem dX10_sendOut_12 : decode cX10_sendOut 12 = .ok (.getfield 10, 3) := by decide +kernel
theorem dX10_sendOut_15 : decode cX10_sendOut 15 = .ok (.iload_n 1, 1) := by decide +kernel
theorem dX10_sendOut_16 : decode cX10_sendOut 16 = .ok (.aload_n 0, 1) := by decide +kernel
theorem dX10_sendOut_17 : decode cX10_sendOut 17 = .ok (.getfield 10, 3) := by decide +kernel
theorem dX10_sendOut_20 : decode cX10_sendOut 20 = .ok (.getfield 93, 3) := by decide +kernel
theorem dX10_sendOut_23 : decode cX10_sendOut 23 = .ok (.invokevirtual 235, 3) := by decide +kernel
theorem dX10_sendOut_26 : decode cX10_sendOut 26 = .ok (.aload_n 0, 1) := by decide +kernel
theorem dX10_sendOut_27 : decode cX10_sendOut 27 = .ok (.getfield 10, 3) := by decide +kernel
theorem dX10_sendOut_30 : decode cX10_sendOut 30 = .ok (.iload_n 1, 1) := by decide +kernel
theorem dX10_sendOut_31 : decode cX10_sendOut 31 = .ok (.iconst 1, 1) := by decide +kernel
theorem dX10_sendOut_32 : decode cX10_sendOut 32 = .ok (.iadd, 1) := by decide +kernel
theorem dX10_sendOut_33 : decode cX10_sendOut 33 = .ok (.invokestatic 177, 3) := by decide +kernel
theorem dX10_sendOut_36 : decode cX10_sendOut 36 = .ok (.aload_n 0, 1) := by decide +kernel
theorem dX10_sendOut_37 : decode cX10_sendOut 37 = .ok (.getfield 10, 3) := by decide +kernel
theorem dX10_sendOut_40 : decode cX10_sendOut 40 = .ok (.getfield 93, 3) := by decide +kernel
theorem dX10_sendOut_43 : decode cX10_sendOut 43 = .ok (.invokevirtual 235, 3) := by decide +kernel
theorem dX10_sendOut_46 : decode cX10_sendOut 46 = .ok (.ior, 1) := by decide +kernel
theorem dX10_sendOut_47 : decode cX10_sendOut 47 = .ok (.aload_n 0, 1) := by decide +kernel
theorem dX10_sendOut_48 : decode cX10_sendOut 48 = .ok (.getfield 10, 3) := by decide +kernel
theorem dX10_sendOut_51 : decode cX10_sendOut 51 = .ok (.iload_n 1, 1) := by decide +kernel
theorem dX10_sendOut_52 : decode cX10_sendOut 52 = .ok (.iconst 1, 1) := by decide +kernel
theorem dX10_sendOut_53 : decode cX10_sendOut 53 = .ok (.isub, 1) := by decide +kernel
theorem dX10_sendOut_54 : decode cX10_sendOut 54 = .ok (.invokestatic 177, 3) := by decide +kernel
theorem dX10_sendOut_57 : decode cX10_sendOut 57 = .ok (.aload_n 0, 1) := by decide +kernel
theorem dX10_sendOut_58 : decode cX10_sendOut 58 = .ok (.getfield 10, 3) := by decide +kernel
theorem dX10_sendOut_61 : decode cX10_sendOut 61 = .ok (.getfield 93, 3) := by decide +kernel
theorem dX10_sendOut_64 : decode cX10_sendOut 64 = .ok (.invokevirtual 235, 3) := by decide +kernel
theorem dX10_sendOut_67 : decode cX10_sendOut 67 = .ok (.ior, 1) := by decide +kernel
theorem dX10_sendOut_68 : decode cX10_sendOut 68 = .ok (.ireturn, 1) := by decide +kernel
/-! X10 sendOut -/
def X10_sendOut (xs : XS) : Option (Int32 × XS) :=
    inr (6 : Int32) 7 <|
    nm ((gA (xT xs 0) 3 (6 : Int32).toNatClampNeg)) fun x_2 =>
    bnd (X8_struckBy (xT xs 0) x_2 (gF (xT xs 0) 8)) fun y_3 st_4 =>
    nm (uT xs 0 st_4) fun xs_6 =>
    bd1 (X10_around (x_2 + (1 : Int32))) fun y_7 =>
    bnd (X8_struckBy (xT xs_6 0) y_7 (gF (xT xs_6 0) 8)) fun y_9 st_10 =>
    nm (uT xs_6 0 st_10) fun xs_12 =>
    bd1 (X10_around (x_2 - (1 : Int32))) fun y_13 =>
    bnd (X8_struckBy (xT xs_12 0) y_13 (gF (xT xs_12 0) 8)) fun y_15 st_16 =>
    nm (uT xs_12 0 st_16) fun xs_18 =>
    some (((y_3 ||| y_9) ||| y_15), xs_18)
abbrev rmX10_sendOut : Room := { frames := 5, cells := 0, slots := 0, locals := 114 }
theorem hdX10_sendOut : yX10_sendOut.cls = RX10 ∧ yX10_sendOut.cls ≠ "java/lang/invoke/MethodHandle" ∧ yX10_sendOut.cls ≠ "java/lang/invoke/VarHandle" ∧ (parseMethodDescriptor yX10_sendOut.desc).map (fun d => d.parameters.length) = some 0 := by decide +kernel
set_option maxRecDepth 100000 in
set_option maxHeartbeats 8000000 in
theorem okX10_sendOut (z : Nat → Nat) (l : Launch) (D : va_G) (T : mT3) (b : Nat → Nat) {xa : XA} {xs : XS} {r : Int32} {xs' : XS} (hR : xRel b xa xs) (heq : X10_sendOut xs = some (r, xs')) : hXi xSub z l D T b yX10_sendOut wsX10_sendOut rmX10_sendOut [.ref (b 0)] xa xs r xs' := by
  refine xbody_i (plainFor_of_name (by decide)) rfl (Nat.le_of_ble_eq_true rfl) (fun p e s m args below meth c A Q hx hb hml hown hts hK hA hX hret ls hP hD hS hl => ?_)
  have hl : lv_has ls 2 [(0, .ref (b 0))] := hl
  have hin10 : ∀ w ∈ wsX100, w ∈ wsX10_sendOut := by decide +kernel
  have hin8 : ∀ w ∈ wsX80, w ∈ wsX10_sendOut := by decide +kernel
  have f10 : (Cond.fieldLink RX10 10 RX10 (TX10 0).2.1 (TX10 0).2.2.1).before args s = true := hts (.fieldLink RX10 10 RX10 "now" "LLaidDownTheLane$Town;") (by decide +kernel)
  have f93 : (Cond.fieldLink RX10 93 RX8 (TX8 8).2.1 (TX8 8).2.2.1).before args s = true := hts (.fieldLink RX10 93 RX8 "minute" "I") (by decide +kernel)
  have f120 : (Cond.fieldLink RX10 120 RX8 (TX8 3).2.1 (TX8 3).2.2.1).before args s = true := hts (.fieldLink RX10 120 RX8 "told" "[I") (by decide +kernel)
  obtain ⟨xa0, hxa0⟩ : ∃ z : XA, z = xa := ⟨_, rfl⟩
  rw [← hxa0] at hret
  have hU : xSub xa0 xa := by rw [hxa0]; exact xSub.rf
  clear hxa0
  obtain ⟨H, hH⟩ : ∃ H, H = s.heap := ⟨_, rfl⟩
  obtain ⟨locs, hlocs⟩ : ∃ z : List Loc, z = [] := ⟨_, rfl⟩
  have hS : va_S A s.heap H locs := by rw [hH, hlocs]; exact hS
  have hP : va_P D vwCl (xW b T xa xs) H := by rw [hH]; exact hP
  suffices h9 : W p l e rmX10_sendOut s m args below meth c H locs 0 0 Q (F0 m 0 ls []) by rw [hH, hlocs] at h9; exact h9
  clear hH hlocs
  unfold X10_sendOut at heq
  refine lv_aload_n hx hb dX10_sendOut_0 rfl (lv_at hl 0 rfl) ?_
  refine va_get (D := D) (ci := 10) (v := .ref (b 3)) (C := RX10) (T := TX10) (N := 7) hx hb hts hin10 hown hK hP 0 rfl rfl 0 (by decide) f10 (fun _ h9 => h9) rfl dX10_sendOut_1 ?_
  refine va_get (D := D) (ci := 8) (v := .ref (b 7)) (C := RX8) (T := TX8) (N := 10) hx hb hts hin8 hown hK hP 3 rfl rfl 3 (by decide) f120 (fun _ h9 => h9) rfl dX10_sendOut_4 ?_
  refine lv_bipush (v := (6 : Int32)) hx hb dX10_sendOut_7 (by decide) ?_
  obtain ⟨n_1, heq⟩ := inr_h heq
  refine va_iald (f := gA (xT xs 0) 3) (n := 7) hx hb hK hP 7 0 rfl rfl n_1 dX10_sendOut_9 ?_
  refine lv_topi (fun x_2 ex_2 => ?_)
  have heq := nm_h ex_2 heq
  refine lv_istore_n (lv' := [(1, .int x_2), (0, .ref (b 0))]) hx hb dX10_sendOut_10 rfl hl (by decide) rfl (fun ls hl => ?_)
  refine lv_aload_n hx hb dX10_sendOut_11 rfl (lv_at hl 1 rfl) ?_
  refine va_get (D := D) (ci := 10) (v := .ref (b 3)) (C := RX10) (T := TX10) (N := 7) hx hb hts hin10 hown hK hP 0 rfl rfl 0 (by decide) f10 (fun _ h9 => h9) rfl dX10_sendOut_12 ?_
  refine lv_iload_n hx hb dX10_sendOut_15 rfl (lv_at hl 0 rfl) ?_
  refine lv_aload_n hx hb dX10_sendOut_16 rfl (lv_at hl 1 rfl) ?_
  refine va_get (D := D) (ci := 10) (v := .ref (b 3)) (C := RX10) (T := TX10) (N := 7) hx hb hts hin10 hown hK hP 0 rfl rfl 0 (by decide) f10 (fun _ h9 => h9) rfl dX10_sendOut_17 ?_
  refine va_get (D := D) (ci := 8) (v := .int (gF (xT xs 0) 8)) (C := RX8) (T := TX8) (N := 10) hx hb hts hin8 hown hK hP 3 rfl rfl 8 (by decide) f93 (fun _ h9 => h9) rfl dX10_sendOut_20 ?_
  obtain ⟨y_3, st_4, h_5, heq⟩ := bnd_h heq
  refine h_vi (own := RX10) (As := [.int x_2, .int (gF (xT xs 0) 8)]) (rest := []) (wr := xWr0 b T xa xs) hx hb hml hown hts (okX8_struckBy z l D (fun j => b (3 + j)) T (fun j => some (xFo xa 0 j)) h_5) (cwV 2 hts gX10_sendOut_X8_struckBy rfl rfl rfl hdX8_struckBy ⟨Nat.le_of_ble_eq_true rfl, Nat.le_of_ble_eq_true rfl⟩) hK hA hX hP hD hS (xp0 b T xa xs) (xq0 b T xa xs _) (ci := 8) (q0 := 0) rfl rfl rfl hl.1 rfl (Nat.le_of_ble_eq_true rfl) dX10_sendOut_23 ⟨Nat.le_of_ble_eq_true rfl, Nat.le_of_ble_eq_true rfl⟩ (fun H locs hP hD hS => ?_)
  obtain ⟨xs_6, exs_6⟩ : ∃ z, z = uT xs 0 st_4 := ⟨_, rfl⟩
  have hR : xRel b xa (uT xs 0 st_4) := hR.uT _ _
  rw [← exs_6] at hP hD hR
  have heq := nm_h exs_6 heq
  refine lv_aload_n hx hb dX10_sendOut_26 rfl (lv_at hl 1 rfl) ?_
  refine va_get (D := D) (ci := 10) (v := .ref (b 3)) (C := RX10) (T := TX10) (N := 7) hx hb hts hin10 hown hK hP 0 rfl rfl 0 (by decide) f10 (fun _ h9 => h9) rfl dX10_sendOut_27 ?_
  refine lv_iload_n hx hb dX10_sendOut_30 rfl (lv_at hl 0 rfl) ?_
  refine lv_iconst (v := (1 : Int32)) hx hb dX10_sendOut_31 (by decide) ?_
  refine lv_iadd hx hb dX10_sendOut_32 ?_
  obtain ⟨y_7, h_8, heq⟩ := bd1_h heq
  refine h_si (own := RX10) (As := [.int (x_2 + (1 : Int32))]) (rest := [.ref (b 3), .int y_3]) (w0 := []) (w1 := []) (wr := xW b T xa xs_6) hx hb hml hown hts (okX10_around z l D h_8) (va_cwS 1 hts gX10_sendOut_X10_around rfl rfl rfl (hdX10_around).2 ⟨Nat.le_of_ble_eq_true rfl, Nat.le_of_ble_eq_true rfl⟩) (hK.sub [] rfl) hA hX hP hD hS (List.Perm.refl _) (List.Perm.refl _) rfl hl.1 rfl (Nat.le_of_ble_eq_true rfl) dX10_sendOut_33 ⟨Nat.le_of_ble_eq_true rfl, Nat.le_of_ble_eq_true rfl⟩ (fun H locs hP hD hS => ?_)
  refine lv_aload_n hx hb dX10_sendOut_36 rfl (lv_at hl 1 rfl) ?_
  refine va_get (D := D) (ci := 10) (v := .ref (b 3)) (C := RX10) (T := TX10) (N := 7) hx hb hts hin10 hown hK hP 0 rfl rfl 0 (by decide) f10 (fun _ h9 => h9) rfl dX10_sendOut_37 ?_
  refine va_get (D := D) (ci := 8) (v := .int (gF (xT xs_6 0) 8)) (C := RX8) (T := TX8) (N := 10) hx hb hts hin8 hown hK hP 3 rfl rfl 8 (by decide) f93 (fun _ h9 => h9) rfl dX10_sendOut_40 ?_
  obtain ⟨y_9, st_10, h_11, heq⟩ := bnd_h heq
  refine h_vi (own := RX10) (As := [.int y_7, .int (gF (xT xs_6 0) 8)]) (rest := [.int y_3]) (wr := xWr0 b T xa xs_6) hx hb hml hown hts (okX8_struckBy z l D (fun j => b (3 + j)) T (fun j => some (xFo xa 0 j)) h_11) (cwV 2 hts gX10_sendOut_X8_struckBy rfl rfl rfl hdX8_struckBy ⟨Nat.le_of_ble_eq_true rfl, Nat.le_of_ble_eq_true rfl⟩) hK hA hX hP hD hS (xp0 b T xa xs_6) (xq0 b T xa xs_6 _) (ci := 8) (q0 := 0) rfl rfl rfl hl.1 rfl (Nat.le_of_ble_eq_true rfl) dX10_sendOut_43 ⟨Nat.le_of_ble_eq_true rfl, Nat.le_of_ble_eq_true rfl⟩ (fun H locs hP hD hS => ?_)
  obtain ⟨xs_12, exs_12⟩ : ∃ z, z = uT xs_6 0 st_10 := ⟨_, rfl⟩
  have hR : xRel b xa (uT xs_6 0 st_10) := hR.uT _ _
  rw [← exs_12] at hP hD hR
  have heq := nm_h exs_12 heq
  refine lv_ior hx hb dX10_sendOut_46 ?_
  refine lv_aload_n hx hb dX10_sendOut_47 rfl (lv_at hl 1 rfl) ?_
  refine va_get (D := D) (ci := 10) (v := .ref (b 3)) (C := RX10) (T := TX10) (N := 7) hx hb hts hin10 hown hK hP 0 rfl rfl 0 (by decide) f10 (fun _ h9 => h9) rfl dX10_sendOut_48 ?_
  refine lv_iload_n hx hb dX10_sendOut_51 rfl (lv_at hl 0 rfl) ?_
  refine lv_iconst (v := (1 : Int32)) hx hb dX10_sendOut_52 (by decide) ?_
  refine lv_isub hx hb dX10_sendOut_53 ?_
  obtain ⟨y_13, h_14, heq⟩ := bd1_h heq
  refine h_si (own := RX10) (As := [.int (x_2 - (1 : Int32))]) (rest := [.ref (b 3), .int (y_3 ||| y_9)]) (w0 := []) (w1 := []) (wr := xW b T xa xs_12) hx hb hml hown hts (okX10_around z l D h_14) (va_cwS 1 hts gX10_sendOut_X10_around rfl rfl rfl (hdX10_around).2 ⟨Nat.le_of_ble_eq_true rfl, Nat.le_of_ble_eq_true rfl⟩) (hK.sub [] rfl) hA hX hP hD hS (List.Perm.refl _) (List.Perm.refl _) rfl hl.1 rfl (Nat.le_of_ble_eq_true rfl) dX10_sendOut_54 ⟨Nat.le_of_ble_eq_true rfl, Nat.le_of_ble_eq_true rfl⟩ (fun H locs hP hD hS => ?_)
  refine lv_aload_n hx hb dX10_sendOut_57 rfl (lv_at hl 1 rfl) ?_
  refine va_get (D := D) (ci := 10) (v := .ref (b 3)) (C := RX10) (T := TX10) (N := 7) hx hb hts hin10 hown hK hP 0 rfl rfl 0 (by decide) f10 (fun _ h9 => h9) rfl dX10_sendOut_58 ?_
  refine va_get (D := D) (ci := 8) (v := .int (gF (xT xs_12 0) 8)) (C := RX8) (T := TX8) (N := 10) hx hb hts hin8 hown hK hP 3 rfl rfl 8 (by decide) f93 (fun _ h9 => h9) rfl dX10_sendOut_61 ?_
  obtain ⟨y_15, st_16, h_17, heq⟩ := bnd_h heq
  refine h_vi (own := RX10) (As := [.int y_13, .int (gF (xT xs_12 0) 8)]) (rest := [.int (y_3 ||| y_9)]) (wr := xWr0 b T xa xs_12) hx hb hml hown hts (okX8_struckBy z l D (fun j => b (3 + j)) T (fun j => some (xFo xa 0 j)) h_17) (cwV 2 hts gX10_sendOut_X8_struckBy rfl rfl rfl hdX8_struckBy ⟨Nat.le_of_ble_eq_true rfl, Nat.le_of_ble_eq_true rfl⟩) hK hA hX hP hD hS (xp0 b T xa xs_12) (xq0 b T xa xs_12 _) (ci := 8) (q0 := 0) rfl rfl rfl hl.1 rfl (Nat.le_of_ble_eq_true rfl) dX10_sendOut_64 ⟨Nat.le_of_ble_eq_true rfl, Nat.le_of_ble_eq_true rfl⟩ (fun H locs hP hD hS => ?_)
  obtain ⟨xs_18, exs_18⟩ : ∃ z, z = uT xs_12 0 st_16 := ⟨_, rfl⟩
  have hR : xRel b xa (uT xs_12 0 st_16) := hR.uT _ _
  rw [← exs_18] at hP hD hR
  have heq := nm_h exs_18 heq
  refine lv_ior hx hb dX10_sendOut_67 ?_
  obtain ⟨heq, heq2⟩ := ret_h heq
  subst heq
  subst heq2
  exact hret 68 H locs ls xa hR hU hP hD hS rfl dX10_sendOut_68
set_option maxRecDepth 20000 in
theorem ggX10_crowd_X10_isSide : GoodIn wsX10_crowd wsX10_isSide := goodIn_r _ [11] (by decide +kernel) (by decide +kernel)
set_option maxRecDepth 20000 in
theorem gX10_crowd_X10_isSide : GoodIn wsX10_crowd (va_wsS RX10 80 yX10_isSide wsX10_isSide) := goodIn_app (goodIn_of _ (by decide +kernel)) ggX10_crowd_X10_isSide
set_option maxRecDepth 20000 in
theorem ggX10_crowd_X8_topSide : GoodIn wsX10_crowd wsX8_topSide := goodIn_r _ [16, 17, 18, 19, 20, 15, 21, 22, 10, 23, 24, 25, 26, 27, 44, 45, 46, 47, 48, 49, 50, 51, 52, 53] (by decide +kernel) (by decide +kernel)
set_option maxRecDepth 20000 in
theorem gX10_crowd_X8_topSide : GoodIn wsX10_crowd (wsV RX10 223 RX8 yX8_topSide wsX8_topSide) := goodIn_app (goodIn_of _ (by decide +kernel)) ggX10_crowd_X8_topSide
set_option maxRecDepth 20000 in
theorem ggX10_crowd_X8_topFar : GoodIn wsX10_crowd wsX8_topFar := goodIn_r _ [31, 17, 44, 45, 46, 47, 48, 49, 50, 51, 52, 53] (by decide +kernel) (by decide +kernel)
set_option maxRecDepth 20000 in
theorem gX10_crowd_X8_topFar : GoodIn wsX10_crowd (wsV RX10 229 RX8 yX8_topFar wsX8_topFar) := goodIn_app (goodIn_of _ (by decide +kernel)) ggX10_crowd_X8_topFar
set_option maxRecDepth 20000 in
theorem ggX10_crowd_X10_around : GoodIn wsX10_crowd wsX10_around := goodIn_r _ [23, 24, 25, 26, 27] (by decide +kernel) (by decide +kernel)
set_option maxRecDepth 20000 in
theorem gX10_crowd_X10_around : GoodIn wsX10_crowd (va_wsS RX10 177 yX10_around wsX10_around) := goodIn_app (goodIn_of _ (by decide +kernel)) ggX10_crowd_X10_around
set_option maxRecDepth 20000 in
theorem ggX10_crowd_X8_kickFar : GoodIn wsX10_crowd wsX8_kickFar := goodIn_r _ [36, 17, 44, 45, 46, 47, 48, 49, 50, 51, 52, 53] (by decide +kernel) (by decide +kernel)
set_option maxRecDepth 20000 in
theorem gX10_crowd_X8_kickFar : GoodIn wsX10_crowd (wsV RX10 243 RX8 yX8_kickFar wsX8_kickFar) := goodIn_app (goodIn_of _ (by decide +kernel)) ggX10_crowd_X8_kickFar
theorem dX10_crowd_0 : decode cX10_crowd 0 = .ok (.iload_n 1, 1) := by decide +kernel
theorem dX10_crowd_1 : decode cX10_crowd 1 = .ok (.invokestatic 80, 3) := by decide +kernel
theorem dX10_crowd_4 : decode cX10_crowd 4 = .ok (.ifCond .ne 5, 3) := by decide +kernel
theorem dX10_crowd_7 : decode cX10_crowd 7 = .ok (.iconst (-1), 1) := by decide +kernel
theorem dX10_crowd_8 : decode cX10_crowd 8 = .ok (.ireturn, 1) := by decide +kernel
theorem dX10_crowd_9 : decode cX10_crowd 9 = .ok (.aload_n 0, 1) := by decide +kernel
theorem dX10_crowd_10 : decode cX10_crowd 10 = .ok (.getfield 10, 3) := by decide +kernel
theorem dX10_crowd_13 : decode cX10_crowd 13 = .ok (.getfield 120, 3) := by decide +kernel
theorem dX10_crowd_16 : decode cX10_crowd 16 = .ok (.bipush 6, 2) := by decide +kernel
theorem dX10_crowd_18 : decode cX10_crowd 18 = .ok (.iaload, 1) := by decide +kernel
theorem dX10_crowd_19 : decode cX10_crowd 19 = .ok (.istore_n 2, 1) := by decide +kernel
theorem dX10_crowd_20 : decode cX10_crowd 20 = .ok (.iconst 0, 1) := by decide +kernel
theorem dX10_crowd_21 : decode cX10_crowd 21 = .ok (.istore_n 3, 1) := by decide +kernel
theorem dX10_crowd_22 : decode cX10_crowd 22 = .ok (.iload_n 1, 1) := by decide +kernel
theorem dX10_crowd_23 : decode cX10_crowd 23 = .ok (.iload_n 2, 1) := by decide +kernel
theorem dX10_crowd_24 : decode cX10_crowd 24 = .ok (.if_icmp .ne 13, 3) := by decide +kernel
theorem dX10_crowd_27 : decode cX10_crowd 27 = .ok (.aload_n 0, 1) := by decide +kernel
theorem dX10_crowd_28 : decode cX10_crowd 28 = .ok (.getfield 10, 3) := by decide +kernel
theorem dX10_crowd_31 : decode cX10_crowd 31 = .ok (.getfield 120, 3) := by decide +kernel
theorem dX10_crowd_34 : decode cX10_crowd 34 = .ok (.iconst 5, 1) := by decide +kernel
theorem dX10_crowd_35 : decode cX10_crowd 35 = .ok (.iaload, 1) := by decide +kernel
theorem dX10_crowd_36 : decode cX10_crowd 36 = .ok (.istore_n 3, 1) := by decide +kernel
theorem dX10_crowd_37 : decode cX10_crowd 37 = .ok (.iload_n 1, 1) := by decide +kernel
theorem dX10_crowd_38 : decode cX10_crowd 38 = .ok (.aload_n 0, 1) := by decide +kernel
theorem dX10_crowd_39 : decode cX10_crowd 39 = .ok (.getfield 10, 3) := by decide +kernel
theorem dX10_crowd_42 : decode cX10_crowd 42 = .ok (.iload_n 2, 1) := by decide +kernel
theorem dX10_crowd_43 : decode cX10_crowd 43 = .ok (.aload_n 0, 1) := by decide +kernel
theorem dX10_crowd_44 : decode cX10_crowd 44 = .ok (.getfield 10, 3) := by decide +kernel
theorem dX10_crowd_47 : decode cX10_crowd 47 = .ok (.getfield 93, 3) := by decide +kernel
theorem dX10_crowd_50 : decode cX10_crowd 50 = .ok (.invokevirtual 223, 3) := by decide +kernel
theorem dX10_crowd_53 : decode cX10_crowd 53 = .ok (.if_icmp .ne 18, 3) := by decide +kernel
theorem dX10_crowd_56 : decode cX10_crowd 56 = .ok (.iload_n 3, 1) := by decide +kernel
theorem dX10_crowd_57 : decode cX10_crowd 57 = .ok (.aload_n 0, 1) := by decide +kernel
theorem dX10_crowd_58 : decode cX10_crowd 58 = .ok (.getfield 10, 3) := by decide +kernel
theorem dX10_crowd_61 : decode cX10_crowd 61 = .ok (.invokevirtual 229, 3) := by decide +kernel
theorem dX10_crowd_64 : decode cX10_crowd 64 = .ok (.bipush 10, 2) := by decide +kernel
theorem dX10_crowd_66 : decode cX10_crowd 66 = .ok (.iadd, 1) := by decide +kernel
theorem dX10_crowd_67 : decode cX10_crowd 67 = .ok (.invokestatic 238, 3) := by decide +kernel
theorem dX10_crowd_70 : decode cX10_crowd 70 = .ok (.istore_n 3, 1) := by decide +kernel
theorem dX10_crowd_71 : decode cX10_crowd 71 = .ok (.iload_n 1, 1) := by decide +kernel
theorem dX10_crowd_72 : decode cX10_crowd 72 = .ok (.iload_n 2, 1) := by decide +kernel
theorem dX10_crowd_73 : decode cX10_crowd 73 = .ok (.bipush 6, 2) := by decide +kernel
theorem dX10_crowd_75 : decode cX10_crowd 75 = .ok (.iadd, 1) := by decide +kernel
theorem dX10_crowd_76 : decode cX10_crowd 76 = .ok (.invokestatic 177, 3) := by decide +kernel
theorem dX10_crowd_79 : decode cX10_crowd 79 = .ok (.if_icmp .ne 15, 3) := by decide +kernel
theorem dX10_crowd_82 : decode cX10_crowd 82 = .ok (.iload_n 3, 1) := by decide +kernel
theorem dX10_crowd_83 : decode cX10_crowd 83 = .ok (.aload_n 0, 1) := by decide +kernel
theorem dX10_crowd_84 : decode cX10_crowd 84 = .ok (.getfield 10, 3) := by decide +kernel
theorem dX10_crowd_87 : decode cX10_crowd 87 = .ok (.invokevirtual 243, 3) := by decide +kernel
theorem dX10_crowd_90 : decode cX10_crowd 90 = .ok (.invokestatic 238, 3) := by decide +kernel
theorem dX10_crowd_93 : decode cX10_crowd 93 = .ok (.istore_n 3, 1) := by decide +kernel
theorem dX10_crowd_94 : decode cX10_crowd 94 = .ok (.iload_n 3, 1) := by decide +kernel
theorem dX10_crowd_95 : decode cX10_crowd 95 = .ok (.ireturn, 1) := by decide +kernel
/-! X10 crowd -/
def X10_crowd_p94 (xs : XS) (v3 : Int32) : Option (Int32 × XS) :=
    some (v3, xs)
def X10_crowd_p71 (xs : XS) (v1 : Int32) (v2 : Int32) (v3 : Int32) : Option (Int32 × XS) :=
    bd1 (X10_around (v2 + (6 : Int32))) fun y_1 =>
    if v1 = y_1 then
      (bnd (X8_kickFar (xT xs 0)) fun y_4 st_5 =>
      nm (uT xs 0 st_5) fun xs_7 =>
      nm (if v3 < y_4 then y_4 else v3) fun x_8 =>
      X10_crowd_p94 xs_7 x_8)
    else
    X10_crowd_p94 xs v3
def X10_crowd_p37 (xs : XS) (v1 : Int32) (v2 : Int32) (v3 : Int32) : Option (Int32 × XS) :=
    bnd (X8_topSide (xT xs 0) v2 (gF (xT xs 0) 8)) fun y_9 st_10 =>
    nm (uT xs 0 st_10) fun xs_12 =>
    if v1 = y_9 then
      (bnd (X8_topFar (xT xs_12 0)) fun y_14 st_15 =>
      nm (uT xs_12 0 st_15) fun xs_17 =>
      nm (if v3 < (y_14 + (10 : Int32)) then (y_14 + (10 : Int32)) else v3) fun x_18 =>
      X10_crowd_p71 xs_17 v1 v2 x_18)
    else
    X10_crowd_p71 xs_12 v1 v2 v3
def X10_crowd (xs : XS) (v1 : Int32) : Option (Int32 × XS) :=
    bd1 (X10_isSide v1) fun y_19 =>
    if y_19 = 0 then
      (some ((-1 : Int32), xs))
    else
    inr (6 : Int32) 7 <|
    nm ((gA (xT xs 0) 3 (6 : Int32).toNatClampNeg)) fun x_23 =>
    if v1 = x_23 then
      (inr (5 : Int32) 7 <|
      nm ((gA (xT xs 0) 3 (5 : Int32).toNatClampNeg)) fun x_26 =>
      X10_crowd_p37 xs v1 x_23 x_26)
    else
    X10_crowd_p37 xs v1 x_23 (0 : Int32)
abbrev rmX10_crowd : Room := { frames := 3, cells := 0, slots := 0, locals := 65 }
theorem hdX10_crowd : yX10_crowd.cls = RX10 ∧ yX10_crowd.cls ≠ "java/lang/invoke/MethodHandle" ∧ yX10_crowd.cls ≠ "java/lang/invoke/VarHandle" ∧ (parseMethodDescriptor yX10_crowd.desc).map (fun d => d.parameters.length) = some 1 := by decide +kernel
set_option maxRecDepth 100000 in
set_option maxHeartbeats 8000000 in
theorem okX10_crowd (z : Nat → Nat) (l : Launch) (D : va_G) (T : mT3) (b : Nat → Nat) {xa : XA} {xs : XS} {v1 : Int32} {r : Int32} {xs' : XS} (hR : xRel b xa xs) (heq : X10_crowd xs v1 = some (r, xs')) : hXi xSub z l D T b yX10_crowd wsX10_crowd rmX10_crowd [.ref (b 0), .int v1] xa xs r xs' := by
  refine xbody_i (plainFor_of_name (by decide)) rfl (Nat.le_of_ble_eq_true rfl) (fun p e s m args below meth c A Q hx hb hml hown hts hK hA hX hret ls hP hD hS hl => ?_)
  have hl : lv_has ls 4 [(0, .ref (b 0)), (1, .int v1)] := hl
  have hin10 : ∀ w ∈ wsX100, w ∈ wsX10_crowd := by decide +kernel
  have hin8 : ∀ w ∈ wsX80, w ∈ wsX10_crowd := by decide +kernel
  have f10 : (Cond.fieldLink RX10 10 RX10 (TX10 0).2.1 (TX10 0).2.2.1).before args s = true := hts (.fieldLink RX10 10 RX10 "now" "LLaidDownTheLane$Town;") (by decide +kernel)
  have f93 : (Cond.fieldLink RX10 93 RX8 (TX8 8).2.1 (TX8 8).2.2.1).before args s = true := hts (.fieldLink RX10 93 RX8 "minute" "I") (by decide +kernel)
  have f120 : (Cond.fieldLink RX10 120 RX8 (TX8 3).2.1 (TX8 3).2.2.1).before args s = true := hts (.fieldLink RX10 120 RX8 "told" "[I") (by decide +kernel)
  have m238_0 := hts (.methodLink RX10 238 Lib.Math.max.name) (by decide +kernel)
  have m238_1 := hts (.static Lib.Math.max.name) (by decide +kernel)
  have m238_2 := hts (.initialized "java/lang/Math") (by decide +kernel)
  have m238_3 := hts (.code Lib.Math.max.name Lib.Math.max.code 2 (some .int)) (by decide +kernel)
  obtain ⟨xa0, hxa0⟩ : ∃ z : XA, z = xa := ⟨_, rfl⟩
  rw [← hxa0] at hret
  have hU : xSub xa0 xa := by rw [hxa0]; exact xSub.rf
  clear hxa0
  have b94 : ∀ (xs : XS) (v3 : Int32) (xa : XA) (H : Heap) (locs : List Loc) (ls : Array Slot), xRel b xa xs → xSub xa0 xa → va_P D vwCl (xW b T xa xs) H → va_D A (xW b T xa xs) → va_S A s.heap H locs → lv_has ls 4 [(3, .int v3)] → X10_crowd_p94 xs v3 = some (r, xs') → W p l e rmX10_crowd s m args below meth c H locs 0 0 Q (F0 m 94 ls []) := by
    intro xs v3 xa H locs ls hR hU hP hD hS hl heq
    unfold X10_crowd_p94 at heq
    refine lv_iload_n hx hb dX10_crowd_94 rfl (lv_at hl 0 rfl) ?_
    obtain ⟨heq, heq2⟩ := ret_h heq
    subst heq
    subst heq2
    exact hret 95 H locs ls xa hR hU hP hD hS rfl dX10_crowd_95
  have b71 : ∀ (xs : XS) (v1 : Int32) (v2 : Int32) (v3 : Int32) (xa : XA) (H : Heap) (locs : List Loc) (ls : Array Slot), xRel b xa xs → xSub xa0 xa → va_P D vwCl (xW b T xa xs) H → va_D A (xW b T xa xs) → va_S A s.heap H locs → lv_has ls 4 [(0, .ref (b 0)), (1, .int v1), (2, .int v2), (3, .int v3)] → X10_crowd_p71 xs v1 v2 v3 = some (r, xs') → W p l e rmX10_crowd s m args below meth c H locs 0 0 Q (F0 m 71 ls []) := by
    intro xs v1 v2 v3 xa H locs ls hR hU hP hD hS hl heq
    unfold X10_crowd_p71 at heq
    refine lv_iload_n hx hb dX10_crowd_71 rfl (lv_at hl 1 rfl) ?_
    refine lv_iload_n hx hb dX10_crowd_72 rfl (lv_at hl 2 rfl) ?_
    refine lv_bipush (v := (6 : Int32)) hx hb dX10_crowd_73 (by decide) ?_
    refine lv_iadd hx hb dX10_crowd_75 ?_
    obtain ⟨y_1, h_2, heq⟩ := bd1_h heq
    refine h_si (own := RX10) (As := [.int (v2 + (6 : Int32))]) (rest := [.int v1]) (w0 := []) (w1 := []) (wr := xW b T xa xs) hx hb hml hown hts (okX10_around z l D h_2) (va_cwS 1 hts gX10_crowd_X10_around rfl rfl rfl (hdX10_around).2 ⟨Nat.le_of_ble_eq_true rfl, Nat.le_of_ble_eq_true rfl⟩) (hK.sub [] rfl) hA hX hP hD hS (List.Perm.refl _) (List.Perm.refl _) rfl hl.1 rfl (Nat.le_of_ble_eq_true rfl) dX10_crowd_76 ⟨Nat.le_of_ble_eq_true rfl, Nat.le_of_ble_eq_true rfl⟩ (fun H locs hP hD hS => ?_)
    refine lv_icmp_ne (tgt := 94) hx hb dX10_crowd_79 (by decide) (fun c_3 => ?_) (fun c_3 => ?_)
    · have heq := it_f c_3 heq
      exact b94 xs v3 xa H locs ls hR hU hP hD hS (lv_sub hl [3] rfl) heq
    have heq := it_t c_3 heq
    refine lv_iload_n hx hb dX10_crowd_82 rfl (lv_at hl 3 rfl) ?_
    refine lv_aload_n hx hb dX10_crowd_83 rfl (lv_at hl 0 rfl) ?_
    refine va_get (D := D) (ci := 10) (v := .ref (b 3)) (C := RX10) (T := TX10) (N := 7) hx hb hts hin10 hown hK hP 0 rfl rfl 0 (by decide) f10 (fun _ h9 => h9) rfl dX10_crowd_84 ?_
    obtain ⟨y_4, st_5, h_6, heq⟩ := bnd_h heq
    refine h_vi (own := RX10) (As := []) (rest := [.int v3]) (wr := xWr0 b T xa xs) hx hb hml hown hts (okX8_kickFar z l D (fun j => b (3 + j)) T (fun j => some (xFo xa 0 j)) h_6) (cwV 0 hts gX10_crowd_X8_kickFar rfl rfl rfl hdX8_kickFar ⟨Nat.le_of_ble_eq_true rfl, Nat.le_of_ble_eq_true rfl⟩) hK hA hX hP hD hS (xp0 b T xa xs) (xq0 b T xa xs _) (ci := 8) (q0 := 0) rfl rfl rfl hl.1 rfl (Nat.le_of_ble_eq_true rfl) dX10_crowd_87 ⟨Nat.le_of_ble_eq_true rfl, Nat.le_of_ble_eq_true rfl⟩ (fun H locs hP hD hS => ?_)
    obtain ⟨xs_7, exs_7⟩ : ∃ z, z = uT xs 0 st_5 := ⟨_, rfl⟩
    have hR : xRel b xa (uT xs 0 st_5) := hR.uT _ _
    rw [← exs_7] at hP hD hR
    have heq := nm_h exs_7 heq
    refine va_mmax hx hb (hml.trans hl.1.symm) hown m238_0 m238_1 m238_2 m238_3 (Nat.le_of_ble_eq_true rfl) (Nat.le_of_ble_eq_true rfl) (Nat.le_of_ble_eq_true rfl) (Nat.le_of_ble_eq_true rfl) dX10_crowd_90 ?_
    refine lv_topi (fun x_8 ex_8 => ?_)
    have heq := nm_h ex_8 heq
    refine lv_istore_n (lv' := [(3, .int x_8), (0, .ref (b 0)), (1, .int v1), (2, .int v2)]) hx hb dX10_crowd_93 rfl hl (by decide) rfl (fun ls hl => ?_)
    exact b94 xs_7 x_8 xa H locs ls hR hU hP hD hS (lv_sub hl [0] rfl) heq
  have b37 : ∀ (xs : XS) (v1 : Int32) (v2 : Int32) (v3 : Int32) (xa : XA) (H : Heap) (locs : List Loc) (ls : Array Slot), xRel b xa xs → xSub xa0 xa → va_P D vwCl (xW b T xa xs) H → va_D A (xW b T xa xs) → va_S A s.heap H locs → lv_has ls 4 [(0, .ref (b 0)), (1, .int v1), (2, .int v2), (3, .int v3)] → X10_crowd_p37 xs v1 v2 v3 = some (r, xs') → W p l e rmX10_crowd s m args below meth c H locs 0 0 Q (F0 m 37 ls []) := by
    intro xs v1 v2 v3 xa H locs ls hR hU hP hD hS hl heq
    unfold X10_crowd_p37 at heq
    refine lv_iload_n hx hb dX10_crowd_37 rfl (lv_at hl 1 rfl) ?_
    refine lv_aload_n hx hb dX10_crowd_38 rfl (lv_at hl 0 rfl) ?_
    refine va_get (D := D) (ci := 10) (v := .ref (b 3)) (C := RX10) (T := TX10) (N := 7) hx hb hts hin10 hown hK hP 0 rfl rfl 0 (by decide) f10 (fun _ h9 => h9) rfl dX10_crowd_39 ?_
    refine lv_iload_n hx hb dX10_crowd_42 rfl (lv_at hl 2 rfl) ?_
    refine lv_aload_n hx hb dX10_crowd_43 rfl (lv_at hl 0 rfl) ?_
    refine va_get (D := D) (ci := 10) (v := .ref (b 3)) (C := RX10) (T := TX10) (N := 7) hx hb hts hin10 hown hK hP 0 rfl rfl 0 (by decide) f10 (fun _ h9 => h9) rfl dX10_crowd_44 ?_
    refine va_get (D := D) (ci := 8) (v := .int (gF (xT xs 0) 8)) (C := RX8) (T := TX8) (N := 10) hx hb hts hin8 hown hK hP 3 rfl rfl 8 (by decide) f93 (fun _ h9 => h9) rfl dX10_crowd_47 ?_
    obtain ⟨y_9, st_10, h_11, heq⟩ := bnd_h heq
    refine h_vi (own := RX10) (As := [.int v2, .int (gF (xT xs 0) 8)]) (rest := [.int v1]) (wr := xWr0 b T xa xs) hx hb hml hown hts (okX8_topSide z l D (fun j => b (3 + j)) T (fun j => some (xFo xa 0 j)) h_11) (cwV 2 hts gX10_crowd_X8_topSide rfl rfl rfl hdX8_topSide ⟨Nat.le_of_ble_eq_true rfl, Nat.le_of_ble_eq_true rfl⟩) hK hA hX hP hD hS (xp0 b T xa xs) (xq0 b T xa xs _) (ci := 8) (q0 := 0) rfl rfl rfl hl.1 rfl (Nat.le_of_ble_eq_true rfl) dX10_crowd_50 ⟨Nat.le_of_ble_eq_true rfl, Nat.le_of_ble_eq_true rfl⟩ (fun H locs hP hD hS => ?_)
    obtain ⟨xs_12, exs_12⟩ : ∃ z, z = uT xs 0 st_10 := ⟨_, rfl⟩
    have hR : xRel b xa (uT xs 0 st_10) := hR.uT _ _
    rw [← exs_12] at hP hD hR
    have heq := nm_h exs_12 heq
    refine lv_icmp_ne (tgt := 71) hx hb dX10_crowd_53 (by decide) (fun c_13 => ?_) (fun c_13 => ?_)
    · have heq := it_f c_13 heq
      exact b71 xs_12 v1 v2 v3 xa H locs ls hR hU hP hD hS (lv_sub hl [0, 1, 2, 3] rfl) heq
    have heq := it_t c_13 heq
    refine lv_iload_n hx hb dX10_crowd_56 rfl (lv_at hl 3 rfl) ?_
    refine lv_aload_n hx hb dX10_crowd_57 rfl (lv_at hl 0 rfl) ?_
    refine va_get (D := D) (ci := 10) (v := .ref (b 3)) (C := RX10) (T := TX10) (N := 7) hx hb hts hin10 hown hK hP 0 rfl rfl 0 (by decide) f10 (fun _ h9 => h9) rfl dX10_crowd_58 ?_
    obtain ⟨y_14, st_15, h_16, heq⟩ := bnd_h heq
    refine h_vi (own := RX10) (As := []) (rest := [.int v3]) (wr := xWr0 b T xa xs_12) hx hb hml hown hts (okX8_topFar z l D (fun j => b (3 + j)) T (fun j => some (xFo xa 0 j)) h_16) (cwV 0 hts gX10_crowd_X8_topFar rfl rfl rfl hdX8_topFar ⟨Nat.le_of_ble_eq_true rfl, Nat.le_of_ble_eq_true rfl⟩) hK hA hX hP hD hS (xp0 b T xa xs_12) (xq0 b T xa xs_12 _) (ci := 8) (q0 := 0) rfl rfl rfl hl.1 rfl (Nat.le_of_ble_eq_true rfl) dX10_crowd_61 ⟨Nat.le_of_ble_eq_true rfl, Nat.le_of_ble_eq_true rfl⟩ (fun H locs hP hD hS => ?_)
    obtain ⟨xs_17, exs_17⟩ : ∃ z, z = uT xs_12 0 st_15 := ⟨_, rfl⟩
    have hR : xRel b xa (uT xs_12 0 st_15) := hR.uT _ _
    rw [← exs_17] at hP hD hR
    have heq := nm_h exs_17 heq
    refine lv_bipush (v := (10 : Int32)) hx hb dX10_crowd_64 (by decide) ?_
    refine lv_iadd hx hb dX10_crowd_66 ?_
    refine va_mmax hx hb (hml.trans hl.1.symm) hown m238_0 m238_1 m238_2 m238_3 (Nat.le_of_ble_eq_true rfl) (Nat.le_of_ble_eq_true rfl) (Nat.le_of_ble_eq_true rfl) (Nat.le_of_ble_eq_true rfl) dX10_crowd_67 ?_
    refine lv_topi (fun x_18 ex_18 => ?_)
    have heq := nm_h ex_18 heq
    refine lv_istore_n (lv' := [(3, .int x_18), (0, .ref (b 0)), (1, .int v1), (2, .int v2)]) hx hb dX10_crowd_70 rfl hl (by decide) rfl (fun ls hl => ?_)
    exact b71 xs_17 v1 v2 x_18 xa H locs ls hR hU hP hD hS (lv_sub hl [1, 2, 3, 0] rfl) heq
  obtain ⟨H, hH⟩ : ∃ H, H = s.heap := ⟨_, rfl⟩
  obtain ⟨locs, hlocs⟩ : ∃ z : List Loc, z = [] := ⟨_, rfl⟩
  have hS : va_S A s.heap H locs := by rw [hH, hlocs]; exact hS
  have hP : va_P D vwCl (xW b T xa xs) H := by rw [hH]; exact hP
  suffices h9 : W p l e rmX10_crowd s m args below meth c H locs 0 0 Q (F0 m 0 ls []) by rw [hH, hlocs] at h9; exact h9
  clear hH hlocs
  unfold X10_crowd at heq
  refine lv_iload_n hx hb dX10_crowd_0 rfl (lv_at hl 1 rfl) ?_
  obtain ⟨y_19, h_20, heq⟩ := bd1_h heq
  refine h_si (own := RX10) (As := [.int v1]) (rest := []) (w0 := []) (w1 := []) (wr := xW b T xa xs) hx hb hml hown hts (okX10_isSide z l D h_20) (va_cwS 1 hts gX10_crowd_X10_isSide rfl rfl rfl (hdX10_isSide).2 ⟨Nat.le_of_ble_eq_true rfl, Nat.le_of_ble_eq_true rfl⟩) (hK.sub [] rfl) hA hX hP hD hS (List.Perm.refl _) (List.Perm.refl _) rfl hl.1 rfl (Nat.le_of_ble_eq_true rfl) dX10_crowd_1 ⟨Nat.le_of_ble_eq_true rfl, Nat.le_of_ble_eq_true rfl⟩ (fun H locs hP hD hS => ?_)
  refine lv_if_ne (tgt := 9) hx hb dX10_crowd_4 (by decide) (fun c_21 => ?_) (fun c_21 => ?_)
  · have heq := it_f c_21 heq
    refine lv_aload_n hx hb dX10_crowd_9 rfl (lv_at hl 0 rfl) ?_
    refine va_get (D := D) (ci := 10) (v := .ref (b 3)) (C := RX10) (T := TX10) (N := 7) hx hb hts hin10 hown hK hP 0 rfl rfl 0 (by decide) f10 (fun _ h9 => h9) rfl dX10_crowd_10 ?_
    refine va_get (D := D) (ci := 8) (v := .ref (b 7)) (C := RX8) (T := TX8) (N := 10) hx hb hts hin8 hown hK hP 3 rfl rfl 3 (by decide) f120 (fun _ h9 => h9) rfl dX10_crowd_13 ?_
    refine lv_bipush (v := (6 : Int32)) hx hb dX10_crowd_16 (by decide) ?_
    obtain ⟨n_22, heq⟩ := inr_h heq
    refine va_iald (f := gA (xT xs 0) 3) (n := 7) hx hb hK hP 7 0 rfl rfl n_22 dX10_crowd_18 ?_
    refine lv_topi (fun x_23 ex_23 => ?_)
    have heq := nm_h ex_23 heq
    refine lv_istore_n (lv' := [(2, .int x_23), (0, .ref (b 0)), (1, .int v1)]) hx hb dX10_crowd_19 rfl hl (by decide) rfl (fun ls hl => ?_)
    refine lv_iconst (v := (0 : Int32)) hx hb dX10_crowd_20 (by decide) ?_
    refine lv_istore_n (lv' := [(3, .int (0 : Int32)), (2, .int x_23), (0, .ref (b 0)), (1, .int v1)]) hx hb dX10_crowd_21 rfl hl (by decide) rfl (fun ls hl => ?_)
    refine lv_iload_n hx hb dX10_crowd_22 rfl (lv_at hl 3 rfl) ?_
    refine lv_iload_n hx hb dX10_crowd_23 rfl (lv_at hl 1 rfl) ?_
    refine lv_icmp_ne (tgt := 37) hx hb dX10_crowd_24 (by decide) (fun c_24 => ?_) (fun c_24 => ?_)
    · have heq := it_f c_24 heq
      exact b37 xs v1 x_23 (0 : Int32) xa H locs ls hR hU hP hD hS (lv_sub hl [2, 3, 1, 0] rfl) heq
    have heq := it_t c_24 heq
    refine lv_aload_n hx hb dX10_crowd_27 rfl (lv_at hl 2 rfl) ?_
    refine va_get (D := D) (ci := 10) (v := .ref (b 3)) (C := RX10) (T := TX10) (N := 7) hx hb hts hin10 hown hK hP 0 rfl rfl 0 (by decide) f10 (fun _ h9 => h9) rfl dX10_crowd_28 ?_
    refine va_get (D := D) (ci := 8) (v := .ref (b 7)) (C := RX8) (T := TX8) (N := 10) hx hb hts hin8 hown hK hP 3 rfl rfl 3 (by decide) f120 (fun _ h9 => h9) rfl dX10_crowd_31 ?_
    refine lv_iconst (v := (5 : Int32)) hx hb dX10_crowd_34 (by decide) ?_
    obtain ⟨n_25, heq⟩ := inr_h heq
    refine va_iald (f := gA (xT xs 0) 3) (n := 7) hx hb hK hP 7 0 rfl rfl n_25 dX10_crowd_35 ?_
    refine lv_topi (fun x_26 ex_26 => ?_)
    have heq := nm_h ex_26 heq
    refine lv_istore_n (lv' := [(3, .int x_26), (2, .int x_23), (0, .ref (b 0)), (1, .int v1)]) hx hb dX10_crowd_36 rfl hl (by decide) rfl (fun ls hl => ?_)
    exact b37 xs v1 x_23 x_26 xa H locs ls hR hU hP hD hS (lv_sub hl [2, 3, 1, 0] rfl) heq
  have heq := it_t c_21 heq
  refine lv_iconst (v := (-1 : Int32)) hx hb dX10_crowd_7 (by decide) ?_
  obtain ⟨heq, heq2⟩ := ret_h heq
  subst heq
  subst heq2
  exact hret 8 H locs ls xa hR hU hP hD hS rfl dX10_crowd_8
set_option maxRecDepth 20000 in
theorem ggX10_safest_X8_struckBy : GoodIn wsX10_safest wsX8_struckBy := goodIn_r _ [7, 8, 9, 10, 6, 11, 12, 13, 14, 15, 16, 17, 18, 19, 20, 21, 22, 23, 24, 25, 26, 27, 28, 29, 30, 31, 32, 33, 34, 35, 36, 37, 38, 39, 40, 41, 42, 43, 44, 45, 46, 61, 62, 63, 64, 65, 66, 67, 68, 69, 70] (by decide +kernel) (by decide +kernel)
set_option maxRecDepth 20000 in
theorem gX10_safest_X8_struckBy : GoodIn wsX10_safest (wsV RX10 235 RX8 yX8_struckBy wsX8_struckBy) := goodIn_app (goodIn_of _ (by decide +kernel)) ggX10_safest_X8_struckBy
set_option maxRecDepth 20000 in
theorem ggX10_safest_J6_bitCount_0f7a4 : GoodIn wsX10_safest wsJ6_bitCount_0f7a4 := goodIn_r _ [50, 51, 52, 53] (by decide +kernel) (by decide +kernel)
set_option maxRecDepth 20000 in
theorem gX10_safest_J6_bitCount_0f7a4 : GoodIn wsX10_safest (va_wsS RX10 166 yJ6_bitCount_0f7a4 wsJ6_bitCount_0f7a4) := goodIn_app (goodIn_of _ (by decide +kernel)) ggX10_safest_J6_bitCount_0f7a4
theorem dX10_safest_0 : decode cX10_safest 0 = .ok (.iconst 0, 1) := by decide +kernel
theorem dX10_safest_1 : decode cX10_safest 1 = .ok (.istore_n 1, 1) := by decide +kernel
theorem dX10_safest_2 : decode cX10_safest 2 = .ok (.bipush 7, 2) := by decide +kernel
theorem dX10_safest_4 : decode cX10_safest 4 = .ok (.istore_n 2, 1) := by decide +kernel
theorem dX10_safest_5 : decode cX10_safest 5 = .ok (.iconst 0, 1) := by decide +kernel
theorem dX10_safest_6 : decode cX10_safest 6 = .ok (.istore_n 3, 1) := by decide +kernel
theorem dX10_safest_7 : decode cX10_safest 7 = .ok (.iload_n 3, 1) := by decide +kernel
theorem dX10_safest_8 : decode cX10_safest 8 = .ok (.bipush 12, 2) := by decide +kernel
theorem dX10_safest_10 : decode cX10_safest 10 = .ok (.if_icmp .ge 40, 3) := by decide +kernel
theorem dX10_safest_13 : decode cX10_safest 13 = .ok (.aload_n 0, 1) := by decide +kernel
theorem dX10_safest_14 : decode cX10_safest 14 = .ok (.getfield 10, 3) := by decide +kernel
theorem dX10_safest_17 : decode cX10_safest 17 = .ok (.iload_n 3, 1) := by decide +kernel
theorem dX10_safest_18 : decode cX10_safest 18 = .ok (.aload_n 0, 1) := by decide +kernel
theorem dX10_safest_19 : decode cX10_safest 19 = .ok (.getfield 10, 3) := by decide +kernel
theorem dX10_safest_22 : decode cX10_safest 22 = .ok (.getfield 93, 3) := by decide +kernel
theorem dX10_safest_25 : decode cX10_safest 25 = .ok (.invokevirtual 235, 3) := by decide +kernel
theorem dX10_safest_28 : decode cX10_safest 28 = .ok (.invokestatic 166, 3) := by decide +kernel
theorem dX10_safest_31 : decode cX10_safest 31 = .ok (.istore 4, 2) := by decide +kernel
theorem dX10_safest_33 : decode cX10_safest 33 = .ok (.iload 4, 2) := by decide +kernel
theorem dX10_safest_35 : decode cX10_safest 35 = .ok (.iload_n 2, 1) := by decide +kernel
theorem dX10_safest_36 : decode cX10_safest 36 = .ok (.if_icmp .ge 8, 3) := by decide +kernel
theorem dX10_safest_39 : decode cX10_safest 39 = .ok (.iload 4, 2) := by decide +kernel
theorem dX10_safest_41 : decode cX10_safest 41 = .ok (.istore_n 2, 1) := by decide +kernel
theorem dX10_safest_42 : decode cX10_safest 42 = .ok (.iload_n 3, 1) := by decide +kernel
theorem dX10_safest_43 : decode cX10_safest 43 = .ok (.istore_n 1, 1) := by decide +kernel
theorem dX10_safest_44 : decode cX10_safest 44 = .ok (.iinc 3 1, 3) := by decide +kernel
theorem dX10_safest_47 : decode cX10_safest 47 = .ok (.goto (-40), 3) := by decide +kernel
theorem dX10_safest_50 : decode cX10_safest 50 = .ok (.iload_n 1, 1) := by decide +kernel
theorem dX10_safest_51 : decode cX10_safest 51 = .ok (.ireturn, 1) := by decide +kernel
/-! X10 safest -/
def X10_safest_p44 (k7 : XS → Int32 → Int32 → Int32 → Option (Int32 × XS)) (xs : XS) (v1 : Int32) (v2 : Int32) (v3 : Int32) : Option (Int32 × XS) :=
    nm (v3 + (1 : Int32)) fun x_1 =>
    k7 xs v1 v2 x_1
def X10_safest_p50 (xs : XS) (v1 : Int32) : Option (Int32 × XS) :=
    some (v1, xs)
def X10_safest_p7 : Nat → XS → Int32 → Int32 → Int32 → Option (Int32 × XS)
  | 0, _, _, _, _ => none
  | n + 1, xs, v1, v2, v3 =>
    if (12 : Int32) ≤ v3 then
      (X10_safest_p50 xs v1)
    else
    bnd (X8_struckBy (xT xs 0) v3 (gF (xT xs 0) 8)) fun y_3 st_4 =>
    nm (uT xs 0 st_4) fun xs_6 =>
    bd1 (J6_bitCount_0f7a4 y_3) fun y_7 =>
    if v2 ≤ y_7 then
      (X10_safest_p44 (fun xs v1 v2 v3 => X10_safest_p7 n xs v1 v2 v3) xs_6 v1 v2 v3)
    else
    X10_safest_p44 (fun xs v1 v2 v3 => X10_safest_p7 n xs v1 v2 v3) xs_6 v3 y_7 v3
theorem X10_safest_p7_s (n : Nat) (xs : XS) (v1 : Int32) (v2 : Int32) (v3 : Int32) : X10_safest_p7 (n + 1) xs v1 v2 v3 =
    (if (12 : Int32) ≤ v3 then
      (X10_safest_p50 xs v1)
    else
    bnd (X8_struckBy (xT xs 0) v3 (gF (xT xs 0) 8)) fun y_3 st_4 =>
    nm (uT xs 0 st_4) fun xs_6 =>
    bd1 (J6_bitCount_0f7a4 y_3) fun y_7 =>
    if v2 ≤ y_7 then
      (X10_safest_p44 (fun xs v1 v2 v3 => X10_safest_p7 n xs v1 v2 v3) xs_6 v1 v2 v3)
    else
    X10_safest_p44 (fun xs v1 v2 v3 => X10_safest_p7 n xs v1 v2 v3) xs_6 v3 y_7 v3) := rfl
def X10_safest (xs : XS) : Option (Int32 × XS) :=
    X10_safest_p7 13 xs (0 : Int32) (7 : Int32) (0 : Int32)
abbrev rmX10_safest : Room := { frames := 5, cells := 0, slots := 0, locals := 114 }
theorem hdX10_safest : yX10_safest.cls = RX10 ∧ yX10_safest.cls ≠ "java/lang/invoke/MethodHandle" ∧ yX10_safest.cls ≠ "java/lang/invoke/VarHandle" ∧ (parseMethodDescriptor yX10_safest.desc).map (fun d => d.parameters.length) = some 0 := by decide +kernel
set_option maxRecDepth 100000 in
set_option maxHeartbeats 8000000 in
theorem okX10_safest (z : Nat → Nat) (l : Launch) (D : va_G) (T : mT3) (b : Nat → Nat) {xa : XA} {xs : XS} {r : Int32} {xs' : XS} (hR : xRel b xa xs) (heq : X10_safest xs = some (r, xs')) : hXi xSub z l D T b yX10_safest wsX10_safest rmX10_safest [.ref (b 0)] xa xs r xs' := by
  refine xbody_i (plainFor_of_name (by decide)) rfl (Nat.le_of_ble_eq_true rfl) (fun p e s m args below meth c A Q hx hb hml hown hts hK hA hX hret ls hP hD hS hl => ?_)
  have hl : lv_has ls 5 [(0, .ref (b 0))] := hl
  have hin10 : ∀ w ∈ wsX100, w ∈ wsX10_safest := by decide +kernel
  have hin8 : ∀ w ∈ wsX80, w ∈ wsX10_safest := by decide +kernel
  have f10 : (Cond.fieldLink RX10 10 RX10 (TX10 0).2.1 (TX10 0).2.2.1).before args s = true := hts (.fieldLink RX10 10 RX10 "now" "LLaidDownTheLane$Town;") (by decide +kernel)
  have f93 : (Cond.fieldLink RX10 93 RX8 (TX8 8).2.1 (TX8 8).2.2.1).before args s = true := hts (.fieldLink RX10 93 RX8 "minute" "I") (by decide +kernel)
  obtain ⟨xa0, hxa0⟩ : ∃ z : XA, z = xa := ⟨_, rfl⟩
  rw [← hxa0] at hret
  have hU : xSub xa0 xa := by rw [hxa0]; exact xSub.rf
  clear hxa0
  have b44 : ∀ (k7 : XS → Int32 → Int32 → Int32 → Option (Int32 × XS)) (hk7 : ∀ (xs : XS) (v1 : Int32) (v2 : Int32) (v3 : Int32) (xa : XA) (H : Heap) (locs : List Loc) (ls : Array Slot), xRel b xa xs → xSub xa0 xa → va_P D vwCl (xW b T xa xs) H → va_D A (xW b T xa xs) → va_S A s.heap H locs → lv_has ls 5 [(0, .ref (b 0)), (1, .int v1), (2, .int v2), (3, .int v3)] → k7 xs v1 v2 v3 = some (r, xs') → W p l e rmX10_safest s m args below meth c H locs 0 0 Q (F0 m 7 ls [])), ∀ (xs : XS) (v1 : Int32) (v2 : Int32) (v3 : Int32) (xa : XA) (H : Heap) (locs : List Loc) (ls : Array Slot), xRel b xa xs → xSub xa0 xa → va_P D vwCl (xW b T xa xs) H → va_D A (xW b T xa xs) → va_S A s.heap H locs → lv_has ls 5 [(0, .ref (b 0)), (1, .int v1), (2, .int v2), (3, .int v3)] → X10_safest_p44 k7 xs v1 v2 v3 = some (r, xs') → W p l e rmX10_safest s m args below meth c H locs 0 0 Q (F0 m 44 ls []) := by
    intro k7 hk7 xs v1 v2 v3 xa H locs ls hR hU hP hD hS hl heq
    unfold X10_safest_p44 at heq
    obtain ⟨x_1, ex_1⟩ : ∃ y : Int32, y = v3 + (1 : Int32) := ⟨_, rfl⟩
    have heq := nm_h ex_1 heq
    refine lv_iinc (v := x_1) (lv' := [(3, .int x_1), (0, .ref (b 0)), (1, .int v1), (2, .int v2)]) hx hb dX10_safest_44 hl (k := 3) rfl (by rw [ex_1]; rfl) (by decide) rfl (fun ls hl => ?_)
    refine lv_goto (tgt := 7) hx hb dX10_safest_47 (by decide) ?_
    exact hk7 xs v1 v2 x_1 xa H locs ls hR hU hP hD hS (lv_sub hl [1, 2, 3, 0] rfl) heq
  have b50 : ∀ (xs : XS) (v1 : Int32) (xa : XA) (H : Heap) (locs : List Loc) (ls : Array Slot), xRel b xa xs → xSub xa0 xa → va_P D vwCl (xW b T xa xs) H → va_D A (xW b T xa xs) → va_S A s.heap H locs → lv_has ls 5 [(1, .int v1)] → X10_safest_p50 xs v1 = some (r, xs') → W p l e rmX10_safest s m args below meth c H locs 0 0 Q (F0 m 50 ls []) := by
    intro xs v1 xa H locs ls hR hU hP hD hS hl heq
    unfold X10_safest_p50 at heq
    refine lv_iload_n hx hb dX10_safest_50 rfl (lv_at hl 0 rfl) ?_
    obtain ⟨heq, heq2⟩ := ret_h heq
    subst heq
    subst heq2
    exact hret 51 H locs ls xa hR hU hP hD hS rfl dX10_safest_51
  have b7 : ∀ (n : Nat), ∀ (xs : XS) (v1 : Int32) (v2 : Int32) (v3 : Int32) (xa : XA) (H : Heap) (locs : List Loc) (ls : Array Slot), xRel b xa xs → xSub xa0 xa → va_P D vwCl (xW b T xa xs) H → va_D A (xW b T xa xs) → va_S A s.heap H locs → lv_has ls 5 [(0, .ref (b 0)), (1, .int v1), (2, .int v2), (3, .int v3)] → X10_safest_p7 n xs v1 v2 v3 = some (r, xs') → W p l e rmX10_safest s m args below meth c H locs 0 0 Q (F0 m 7 ls []) := by
    intro n
    induction n with
    | zero => intro xs v1 v2 v3 xa H locs ls hR hU hP hD hS hl heq; cases heq
    | succ n ih =>
      intro xs v1 v2 v3 xa H locs ls hR hU hP hD hS hl heq
      rw [X10_safest_p7_s] at heq
      refine lv_iload_n hx hb dX10_safest_7 rfl (lv_at hl 3 rfl) ?_
      refine lv_bipush (v := (12 : Int32)) hx hb dX10_safest_8 (by decide) ?_
      refine lv_icmp_ge (tgt := 50) hx hb dX10_safest_10 (by decide) (fun c_2 => ?_) (fun c_2 => ?_)
      · have heq := it_t c_2 heq
        exact b50 xs v1 xa H locs ls hR hU hP hD hS (lv_sub hl [1] rfl) heq
      have heq := it_f c_2 heq
      refine lv_aload_n hx hb dX10_safest_13 rfl (lv_at hl 0 rfl) ?_
      refine va_get (D := D) (ci := 10) (v := .ref (b 3)) (C := RX10) (T := TX10) (N := 7) hx hb hts hin10 hown hK hP 0 rfl rfl 0 (by decide) f10 (fun _ h9 => h9) rfl dX10_safest_14 ?_
      refine lv_iload_n hx hb dX10_safest_17 rfl (lv_at hl 3 rfl) ?_
      refine lv_aload_n hx hb dX10_safest_18 rfl (lv_at hl 0 rfl) ?_
      refine va_get (D := D) (ci := 10) (v := .ref (b 3)) (C := RX10) (T := TX10) (N := 7) hx hb hts hin10 hown hK hP 0 rfl rfl 0 (by decide) f10 (fun _ h9 => h9) rfl dX10_safest_19 ?_
      refine va_get (D := D) (ci := 8) (v := .int (gF (xT xs 0) 8)) (C := RX8) (T := TX8) (N := 10) hx hb hts hin8 hown hK hP 3 rfl rfl 8 (by decide) f93 (fun _ h9 => h9) rfl dX10_safest_22 ?_
      obtain ⟨y_3, st_4, h_5, heq⟩ := bnd_h heq
      refine h_vi (own := RX10) (As := [.int v3, .int (gF (xT xs 0) 8)]) (rest := []) (wr := xWr0 b T xa xs) hx hb hml hown hts (okX8_struckBy z l D (fun j => b (3 + j)) T (fun j => some (xFo xa 0 j)) h_5) (cwV 2 hts gX10_safest_X8_struckBy rfl rfl rfl hdX8_struckBy ⟨Nat.le_of_ble_eq_true rfl, Nat.le_of_ble_eq_true rfl⟩) hK hA hX hP hD hS (xp0 b T xa xs) (xq0 b T xa xs _) (ci := 8) (q0 := 0) rfl rfl rfl hl.1 rfl (Nat.le_of_ble_eq_true rfl) dX10_safest_25 ⟨Nat.le_of_ble_eq_true rfl, Nat.le_of_ble_eq_true rfl⟩ (fun H locs hP hD hS => ?_)
      obtain ⟨xs_6, exs_6⟩ : ∃ z, z = uT xs 0 st_4 := ⟨_, rfl⟩
      have hR : xRel b xa (uT xs 0 st_4) := hR.uT _ _
      rw [← exs_6] at hP hD hR
      have heq := nm_h exs_6 heq
      obtain ⟨y_7, h_8, heq⟩ := bd1_h heq
      refine h_si (own := RX10) (As := [.int y_3]) (rest := []) (w0 := []) (w1 := []) (wr := xW b T xa xs_6) hx hb hml hown hts (okJ6_bitCount_0f7a4 z l D h_8) (va_cwS 1 hts gX10_safest_J6_bitCount_0f7a4 rfl rfl rfl (hdJ6_bitCount_0f7a4).2 ⟨Nat.le_of_ble_eq_true rfl, Nat.le_of_ble_eq_true rfl⟩) (hK.sub [] rfl) hA hX hP hD hS (List.Perm.refl _) (List.Perm.refl _) rfl hl.1 rfl (Nat.le_of_ble_eq_true rfl) dX10_safest_28 ⟨Nat.le_of_ble_eq_true rfl, Nat.le_of_ble_eq_true rfl⟩ (fun H locs hP hD hS => ?_)
      refine lv_istore (lv' := [(4, .int y_7), (0, .ref (b 0)), (1, .int v1), (2, .int v2), (3, .int v3)]) hx hb dX10_safest_31 hl (by decide) rfl (fun ls hl => ?_)
      refine lv_iload hx hb dX10_safest_33 (lv_at hl 0 rfl) ?_
      refine lv_iload_n hx hb dX10_safest_35 rfl (lv_at hl 3 rfl) ?_
      refine lv_icmp_ge (tgt := 44) hx hb dX10_safest_36 (by decide) (fun c_9 => ?_) (fun c_9 => ?_)
      · have heq := it_t c_9 heq
        exact b44 (fun xs v1 v2 v3 => X10_safest_p7 n xs v1 v2 v3) ih xs_6 v1 v2 v3 xa H locs ls hR hU hP hD hS (lv_sub hl [1, 2, 3, 4] rfl) heq
      have heq := it_f c_9 heq
      refine lv_iload hx hb dX10_safest_39 (lv_at hl 0 rfl) ?_
      refine lv_istore_n (lv' := [(2, .int y_7), (4, .int y_7), (0, .ref (b 0)), (1, .int v1), (3, .int v3)]) hx hb dX10_safest_41 rfl hl (by decide) rfl (fun ls hl => ?_)
      refine lv_iload_n hx hb dX10_safest_42 rfl (lv_at hl 4 rfl) ?_
      refine lv_istore_n (lv' := [(1, .int v3), (2, .int y_7), (4, .int y_7), (0, .ref (b 0)), (3, .int v3)]) hx hb dX10_safest_43 rfl hl (by decide) rfl (fun ls hl => ?_)
      exact b44 (fun xs v1 v2 v3 => X10_safest_p7 n xs v1 v2 v3) ih xs_6 v3 y_7 v3 xa H locs ls hR hU hP hD hS (lv_sub hl [3, 0, 1, 4] rfl) heq
  obtain ⟨H, hH⟩ : ∃ H, H = s.heap := ⟨_, rfl⟩
  obtain ⟨locs, hlocs⟩ : ∃ z : List Loc, z = [] := ⟨_, rfl⟩
  have hS : va_S A s.heap H locs := by rw [hH, hlocs]; exact hS
  have hP : va_P D vwCl (xW b T xa xs) H := by rw [hH]; exact hP
  suffices h9 : W p l e rmX10_safest s m args below meth c H locs 0 0 Q (F0 m 0 ls []) by rw [hH, hlocs] at h9; exact h9
  clear hH hlocs
  unfold X10_safest at heq
  refine lv_iconst (v := (0 : Int32)) hx hb dX10_safest_0 (by decide) ?_
  refine lv_istore_n (lv' := [(1, .int (0 : Int32)), (0, .ref (b 0))]) hx hb dX10_safest_1 rfl hl (by decide) rfl (fun ls hl => ?_)
  refine lv_bipush (v := (7 : Int32)) hx hb dX10_safest_2 (by decide) ?_
  refine lv_istore_n (lv' := [(2, .int (7 : Int32)), (1, .int (0 : Int32)), (0, .ref (b 0))]) hx hb dX10_safest_4 rfl hl (by decide) rfl (fun ls hl => ?_)
  refine lv_iconst (v := (0 : Int32)) hx hb dX10_safest_5 (by decide) ?_
  refine lv_istore_n (lv' := [(3, .int (0 : Int32)), (2, .int (7 : Int32)), (1, .int (0 : Int32)), (0, .ref (b 0))]) hx hb dX10_safest_6 rfl hl (by decide) rfl (fun ls hl => ?_)
  exact b7 13 xs (0 : Int32) (7 : Int32) (0 : Int32) xa H locs ls hR hU hP hD hS (lv_sub hl [3, 2, 1, 0] rfl) heq
set_option maxRecDepth 20000 in
theorem ggX10_firstNotSo_X8_struckBy : GoodIn wsX10_firstNotSo wsX8_struckBy := goodIn_r _ [7, 8, 9, 10, 6, 11, 12, 13, 14, 15, 16, 17, 18, 19, 20, 21, 22, 23, 24, 25, 26, 27, 28, 29, 30, 31, 32, 33, 34, 35, 36, 37, 38, 39, 40, 41, 42, 43, 44, 45, 46, 74, 75, 76, 77, 78, 79, 80, 81, 82, 83] (by decide +kernel) (by decide +kernel)
set_option maxRecDepth 20000 in
theorem gX10_firstNotSo_X8_struckBy : GoodIn wsX10_firstNotSo (wsV RX10 235 RX8 yX8_struckBy wsX8_struckBy) := goodIn_app (goodIn_of _ (by decide +kernel)) ggX10_firstNotSo_X8_struckBy
set_option maxRecDepth 20000 in
theorem ggX10_firstNotSo_X7_size : GoodIn wsX10_firstNotSo wsX7_size := goodIn_r _ [51, 52, 84, 85] (by decide +kernel) (by decide +kernel)
set_option maxRecDepth 20000 in
theorem gX10_firstNotSo_X7_size : GoodIn wsX10_firstNotSo (wsV RX10 63 RX7 yX7_size wsX7_size) := goodIn_app (goodIn_of _ (by decide +kernel)) ggX10_firstNotSo_X7_size
set_option maxRecDepth 20000 in
theorem ggX10_firstNotSo_X7_isSkipped : GoodIn wsX10_firstNotSo wsX7_isSkipped := goodIn_r _ [56, 57, 58, 59, 60, 50, 61, 52, 62, 63, 64, 65, 84, 85] (by decide +kernel) (by decide +kernel)
set_option maxRecDepth 20000 in
theorem gX10_firstNotSo_X7_isSkipped : GoodIn wsX10_firstNotSo (wsV RX10 250 RX7 yX7_isSkipped wsX7_isSkipped) := goodIn_app (goodIn_of _ (by decide +kernel)) ggX10_firstNotSo_X7_isSkipped
set_option maxRecDepth 20000 in
theorem ggX10_firstNotSo_X7_at : GoodIn wsX10_firstNotSo wsX7_at := goodIn_r _ [61, 52, 62, 63, 64, 50, 65, 84, 85] (by decide +kernel) (by decide +kernel)
set_option maxRecDepth 20000 in
theorem gX10_firstNotSo_X7_at : GoodIn wsX10_firstNotSo (wsV RX10 74 RX7 yX7_at wsX7_at) := goodIn_app (goodIn_of _ (by decide +kernel)) ggX10_firstNotSo_X7_at
theorem dX10_firstNotSo_0 : decode cX10_firstNotSo 0 = .ok (.aload_n 0, 1) := by decide +kernel
theorem dX10_firstNotSo_1 : decode cX10_firstNotSo 1 = .ok (.getfield 10, 3) := by decide +kernel
theorem dX10_firstNotSo_4 : decode cX10_firstNotSo 4 = .ok (.iload_n 2, 1) := by decide +kernel
theorem dX10_firstNotSo_5 : decode cX10_firstNotSo 5 = .ok (.aload_n 0, 1) := by decide +kernel
theorem dX10_firstNotSo_6 : decode cX10_firstNotSo 6 = .ok (.getfield 10, 3) := by decide +kernel
theorem dX10_firstNotSo_9 : decode cX10_firstNotSo 9 = .ok (.getfield 93, 3) := by decide +kernel
theorem dX10_firstNotSo_12 : decode cX10_firstNotSo 12 = .ok (.invokevirtual 235, 3) := by decide +kernel
theorem dX10_firstNotSo_15 : decode cX10_firstNotSo 15 = .ok (.istore_n 3, 1) := by decide +kernel
theorem dX10_firstNotSo_16 : decode cX10_firstNotSo 16 = .ok (.iconst 0, 1) := by decide +kernel
theorem dX10_firstNotSo_17 : decode cX10_firstNotSo 17 = .ok (.istore 4, 2) := by decide +kernel
theorem dX10_firstNotSo_19 : decode cX10_firstNotSo 19 = .ok (.iload 4, 2) := by decide +kernel
theorem dX10_firstNotSo_21 : decode cX10_firstNotSo 21 = .ok (.aload_n 1, 1) := by decide +kernel
theorem dX10_firstNotSo_22 : decode cX10_firstNotSo 22 = .ok (.invokevirtual 63, 3) := by decide +kernel
theorem dX10_firstNotSo_25 : decode cX10_firstNotSo 25 = .ok (.if_icmp .ge 36, 3) := by decide +kernel
theorem dX10_firstNotSo_28 : decode cX10_firstNotSo 28 = .ok (.aload_n 1, 1) := by decide +kernel
theorem dX10_firstNotSo_29 : decode cX10_firstNotSo 29 = .ok (.iload 4, 2) := by decide +kernel
theorem dX10_firstNotSo_31 : decode cX10_firstNotSo 31 = .ok (.invokevirtual 250, 3) := by decide +kernel
theorem dX10_firstNotSo_34 : decode cX10_firstNotSo 34 = .ok (.ifCond .ne 21, 3) := by decide +kernel
theorem dX10_firstNotSo_37 : decode cX10_firstNotSo 37 = .ok (.aload_n 1, 1) := by decide +kernel
theorem dX10_firstNotSo_38 : decode cX10_firstNotSo 38 = .ok (.iload 4, 2) := by decide +kernel
theorem dX10_firstNotSo_40 : decode cX10_firstNotSo 40 = .ok (.invokevirtual 74, 3) := by decide +kernel
theorem dX10_firstNotSo_43 : decode cX10_firstNotSo 43 = .ok (.iload_n 3, 1) := by decide +kernel
theorem dX10_firstNotSo_44 : decode cX10_firstNotSo 44 = .ok (.iload 4, 2) := by decide +kernel
theorem dX10_firstNotSo_46 : decode cX10_firstNotSo 46 = .ok (.ishr, 1) := by decide +kernel
theorem dX10_firstNotSo_47 : decode cX10_firstNotSo 47 = .ok (.iconst 1, 1) := by decide +kernel
theorem dX10_firstNotSo_48 : decode cX10_firstNotSo 48 = .ok (.iand, 1) := by decide +kernel
theorem dX10_firstNotSo_49 : decode cX10_firstNotSo 49 = .ok (.if_icmp .eq 6, 3) := by decide +kernel
theorem dX10_firstNotSo_52 : decode cX10_firstNotSo 52 = .ok (.iload 4, 2) := by decide +kernel
theorem dX10_firstNotSo_54 : decode cX10_firstNotSo 54 = .ok (.ireturn, 1) := by decide +kernel
theorem dX10_firstNotSo_55 : decode cX10_firstNotSo 55 = .ok (.iinc 4 1, 3) := by decide +kernel
theorem dX10_firstNotSo_58 : decode cX10_firstNotSo 58 = .ok (.goto (-39), 3) := by decide +kernel
theorem dX10_firstNotSo_61 : decode cX10_firstNotSo 61 = .ok (.aload_n 1, 1) := by decide +kernel
theorem dX10_firstNotSo_62 : decode cX10_firstNotSo 62 = .ok (.invokevirtual 63, 3) := by decide +kernel
theorem dX10_firstNotSo_65 : decode cX10_firstNotSo 65 = .ok (.ireturn, 1) := by decide +kernel
/-! X10 firstNotSo -/
def X10_firstNotSo_p52 (xs : XS) (v4 : Int32) : Option (Int32 × XS) :=
    some (v4, xs)
def X10_firstNotSo_p55 (k19 : XS → Nat → Int32 → Int32 → Option (Int32 × XS)) (xs : XS) (v1 : Nat) (v3 : Int32) (v4 : Int32) : Option (Int32 × XS) :=
    nm (v4 + (1 : Int32)) fun x_1 =>
    k19 xs v1 v3 x_1
def X10_firstNotSo_p61 (xs : XS) (v1 : Nat) : Option (Int32 × XS) :=
    bd1 (xR xs v1) fun rz_2 =>
    bnd (X7_size rz_2.1 rz_2.2) fun y_4 st_5 =>
    nm (uR xs v1 (some (rz_2.1, st_5))) fun xs_7 =>
    some (y_4, xs_7)
def X10_firstNotSo_p19 : Nat → XS → Nat → Int32 → Int32 → Option (Int32 × XS)
  | 0, _, _, _, _ => none
  | n + 1, xs, v1, v3, v4 =>
    bd1 (xR xs v1) fun rz_8 =>
    bnd (X7_size rz_8.1 rz_8.2) fun y_10 st_11 =>
    nm (uR xs v1 (some (rz_8.1, st_11))) fun xs_13 =>
    if y_10 ≤ v4 then
      (X10_firstNotSo_p61 xs_13 v1)
    else
    bd1 (xR xs_13 v1) fun rz_15 =>
    bnd (X7_isSkipped rz_15.1 rz_15.2 v4) fun y_17 st_18 =>
    nm (uR xs_13 v1 (some (rz_15.1, st_18))) fun xs_20 =>
    if y_17 = 0 then
      (bd1 (xR xs_20 v1) fun rz_22 =>
      bnd (X7_at rz_22.1 rz_22.2 v4) fun y_24 st_25 =>
      nm (uR xs_20 v1 (some (rz_22.1, st_25))) fun xs_27 =>
      if y_24 = ((v3 >>> (v4 &&& 31)) &&& (1 : Int32)) then
        (X10_firstNotSo_p55 (fun xs v1 v3 v4 => X10_firstNotSo_p19 n xs v1 v3 v4) xs_27 v1 v3 v4)
      else
      X10_firstNotSo_p52 xs_27 v4)
    else
    X10_firstNotSo_p55 (fun xs v1 v3 v4 => X10_firstNotSo_p19 n xs v1 v3 v4) xs_20 v1 v3 v4
theorem X10_firstNotSo_p19_s (n : Nat) (xs : XS) (v1 : Nat) (v3 : Int32) (v4 : Int32) : X10_firstNotSo_p19 (n + 1) xs v1 v3 v4 =
    (bd1 (xR xs v1) fun rz_8 =>
    bnd (X7_size rz_8.1 rz_8.2) fun y_10 st_11 =>
    nm (uR xs v1 (some (rz_8.1, st_11))) fun xs_13 =>
    if y_10 ≤ v4 then
      (X10_firstNotSo_p61 xs_13 v1)
    else
    bd1 (xR xs_13 v1) fun rz_15 =>
    bnd (X7_isSkipped rz_15.1 rz_15.2 v4) fun y_17 st_18 =>
    nm (uR xs_13 v1 (some (rz_15.1, st_18))) fun xs_20 =>
    if y_17 = 0 then
      (bd1 (xR xs_20 v1) fun rz_22 =>
      bnd (X7_at rz_22.1 rz_22.2 v4) fun y_24 st_25 =>
      nm (uR xs_20 v1 (some (rz_22.1, st_25))) fun xs_27 =>
      if y_24 = ((v3 >>> (v4 &&& 31)) &&& (1 : Int32)) then
        (X10_firstNotSo_p55 (fun xs v1 v3 v4 => X10_firstNotSo_p19 n xs v1 v3 v4) xs_27 v1 v3 v4)
      else
      X10_firstNotSo_p52 xs_27 v4)
    else
    X10_firstNotSo_p55 (fun xs v1 v3 v4 => X10_firstNotSo_p19 n xs v1 v3 v4) xs_20 v1 v3 v4) := rfl
def X10_firstNotSo (xs : XS) (v1 : Nat) (v2 : Int32) : Option (Int32 × XS) :=
    bnd (X8_struckBy (xT xs 0) v2 (gF (xT xs 0) 8)) fun y_29 st_30 =>
    nm (uT xs 0 st_30) fun xs_32 =>
    X10_firstNotSo_p19 5000 xs_32 v1 y_29 (0 : Int32)
abbrev rmX10_firstNotSo : Room := { frames := 5, cells := 0, slots := 0, locals := 114 }
theorem hdX10_firstNotSo : yX10_firstNotSo.cls = RX10 ∧ yX10_firstNotSo.cls ≠ "java/lang/invoke/MethodHandle" ∧ yX10_firstNotSo.cls ≠ "java/lang/invoke/VarHandle" ∧ (parseMethodDescriptor yX10_firstNotSo.desc).map (fun d => d.parameters.length) = some 2 := by decide +kernel
set_option maxRecDepth 100000 in
set_option maxHeartbeats 8000000 in
theorem okX10_firstNotSo (z : Nat → Nat) (l : Launch) (D : va_G) (T : mT3) (b : Nat → Nat) {xa : XA} {xs : XS} {v1 : Nat} {v2 : Int32} {r : Int32} {xs' : XS} (hR : xRel b xa xs) (v1h : v1 < 8) (heq : X10_firstNotSo xs v1 v2 = some (r, xs')) : hXi xSub z l D T b yX10_firstNotSo wsX10_firstNotSo rmX10_firstNotSo [.ref (b 0), .ref (xRa xa v1 0), .int v2] xa xs r xs' := by
  refine xbody_i (plainFor_of_name (by decide)) rfl (Nat.le_of_ble_eq_true rfl) (fun p e s m args below meth c A Q hx hb hml hown hts hK hA hX hret ls hP hD hS hl => ?_)
  have hl : lv_has ls 5 [(0, .ref (b 0)), (1, .ref (xRa xa v1 0)), (2, .int v2)] := hl
  have hin10 : ∀ w ∈ wsX100, w ∈ wsX10_firstNotSo := by decide +kernel
  have hin8 : ∀ w ∈ wsX80, w ∈ wsX10_firstNotSo := by decide +kernel
  have f10 : (Cond.fieldLink RX10 10 RX10 (TX10 0).2.1 (TX10 0).2.2.1).before args s = true := hts (.fieldLink RX10 10 RX10 "now" "LLaidDownTheLane$Town;") (by decide +kernel)
  have f93 : (Cond.fieldLink RX10 93 RX8 (TX8 8).2.1 (TX8 8).2.2.1).before args s = true := hts (.fieldLink RX10 93 RX8 "minute" "I") (by decide +kernel)
  obtain ⟨xa0, hxa0⟩ : ∃ z : XA, z = xa := ⟨_, rfl⟩
  rw [← hxa0] at hret
  have hU : xSub xa0 xa := by rw [hxa0]; exact xSub.rf
  clear hxa0
  have b52 : ∀ (xs : XS) (v4 : Int32) (xa : XA) (H : Heap) (locs : List Loc) (ls : Array Slot), xRel b xa xs → xSub xa0 xa → va_P D vwCl (xW b T xa xs) H → va_D A (xW b T xa xs) → va_S A s.heap H locs → lv_has ls 5 [(4, .int v4)] → X10_firstNotSo_p52 xs v4 = some (r, xs') → W p l e rmX10_firstNotSo s m args below meth c H locs 0 0 Q (F0 m 52 ls []) := by
    intro xs v4 xa H locs ls hR hU hP hD hS hl heq
    unfold X10_firstNotSo_p52 at heq
    refine lv_iload hx hb dX10_firstNotSo_52 (lv_at hl 0 rfl) ?_
    obtain ⟨heq, heq2⟩ := ret_h heq
    subst heq
    subst heq2
    exact hret 54 H locs ls xa hR hU hP hD hS rfl dX10_firstNotSo_54
  have b55 : ∀ (k19 : XS → Nat → Int32 → Int32 → Option (Int32 × XS)) (hk19 : ∀ (xs : XS) (v1 : Nat) (v3 : Int32) (v4 : Int32) (xa : XA) (v1h : v1 < 8) (H : Heap) (locs : List Loc) (ls : Array Slot), xRel b xa xs → xSub xa0 xa → va_P D vwCl (xW b T xa xs) H → va_D A (xW b T xa xs) → va_S A s.heap H locs → lv_has ls 5 [(1, .ref (xRa xa v1 0)), (3, .int v3), (4, .int v4)] → k19 xs v1 v3 v4 = some (r, xs') → W p l e rmX10_firstNotSo s m args below meth c H locs 0 0 Q (F0 m 19 ls [])), ∀ (xs : XS) (v1 : Nat) (v3 : Int32) (v4 : Int32) (xa : XA) (v1h : v1 < 8) (H : Heap) (locs : List Loc) (ls : Array Slot), xRel b xa xs → xSub xa0 xa → va_P D vwCl (xW b T xa xs) H → va_D A (xW b T xa xs) → va_S A s.heap H locs → lv_has ls 5 [(1, .ref (xRa xa v1 0)), (3, .int v3), (4, .int v4)] → X10_firstNotSo_p55 k19 xs v1 v3 v4 = some (r, xs') → W p l e rmX10_firstNotSo s m args below meth c H locs 0 0 Q (F0 m 55 ls []) := by
    intro k19 hk19 xs v1 v3 v4 xa v1h H locs ls hR hU hP hD hS hl heq
    unfold X10_firstNotSo_p55 at heq
    obtain ⟨x_1, ex_1⟩ : ∃ y : Int32, y = v4 + (1 : Int32) := ⟨_, rfl⟩
    have heq := nm_h ex_1 heq
    refine lv_iinc (v := x_1) (lv' := [(4, .int x_1), (1, .ref (xRa xa v1 0)), (3, .int v3)]) hx hb dX10_firstNotSo_55 hl (k := 2) rfl (by rw [ex_1]; rfl) (by decide) rfl (fun ls hl => ?_)
    refine lv_goto (tgt := 19) hx hb dX10_firstNotSo_58 (by decide) ?_
    exact hk19 xs v1 v3 x_1 xa v1h H locs ls hR hU hP hD hS (lv_sub hl [1, 2, 0] rfl) heq
  have b61 : ∀ (xs : XS) (v1 : Nat) (xa : XA) (v1h : v1 < 8) (H : Heap) (locs : List Loc) (ls : Array Slot), xRel b xa xs → xSub xa0 xa → va_P D vwCl (xW b T xa xs) H → va_D A (xW b T xa xs) → va_S A s.heap H locs → lv_has ls 5 [(1, .ref (xRa xa v1 0))] → X10_firstNotSo_p61 xs v1 = some (r, xs') → W p l e rmX10_firstNotSo s m args below meth c H locs 0 0 Q (F0 m 61 ls []) := by
    intro xs v1 xa v1h H locs ls hR hU hP hD hS hl heq
    unfold X10_firstNotSo_p61 at heq
    refine lv_aload_n hx hb dX10_firstNotSo_61 rfl (lv_at hl 0 rfl) ?_
    obtain ⟨rz_2, hz_3, heq⟩ := bd1_h heq
    obtain ⟨y_4, st_5, h_6, heq⟩ := bnd_h heq
    refine h_vi (own := RX10) (As := []) (rest := []) (wr := xWrR b T xa xs v1) hx hb hml hown hts (okX7_size z l D (xRa xa v1) T h_6) (cwV 0 hts gX10_firstNotSo_X7_size rfl rfl rfl hdX7_size ⟨Nat.le_of_ble_eq_true rfl, Nat.le_of_ble_eq_true rfl⟩) hK hA hX hP hD hS (xpR b T xa xs v1h hz_3) (xqR b T xa xs v1h _ _) (ci := 7) (q0 := 0) rfl rfl rfl hl.1 rfl (Nat.le_of_ble_eq_true rfl) dX10_firstNotSo_62 ⟨Nat.le_of_ble_eq_true rfl, Nat.le_of_ble_eq_true rfl⟩ (fun H locs hP hD hS => ?_)
    obtain ⟨xs_7, exs_7⟩ : ∃ z, z = uR xs v1 (some (rz_2.1, st_5)) := ⟨_, rfl⟩
    have hR : xRel b xa (uR xs v1 (some (rz_2.1, st_5))) := hR.uR hz_3
    rw [← exs_7] at hP hD hR
    have heq := nm_h exs_7 heq
    obtain ⟨heq, heq2⟩ := ret_h heq
    subst heq
    subst heq2
    exact hret 65 H locs ls xa hR hU hP hD hS rfl dX10_firstNotSo_65
  have b19 : ∀ (n : Nat), ∀ (xs : XS) (v1 : Nat) (v3 : Int32) (v4 : Int32) (xa : XA) (v1h : v1 < 8) (H : Heap) (locs : List Loc) (ls : Array Slot), xRel b xa xs → xSub xa0 xa → va_P D vwCl (xW b T xa xs) H → va_D A (xW b T xa xs) → va_S A s.heap H locs → lv_has ls 5 [(1, .ref (xRa xa v1 0)), (3, .int v3), (4, .int v4)] → X10_firstNotSo_p19 n xs v1 v3 v4 = some (r, xs') → W p l e rmX10_firstNotSo s m args below meth c H locs 0 0 Q (F0 m 19 ls []) := by
    intro n
    induction n with
    | zero => intro xs v1 v3 v4 xa v1h H locs ls hR hU hP hD hS hl heq; cases heq
    | succ n ih =>
      intro xs v1 v3 v4 xa v1h H locs ls hR hU hP hD hS hl heq
      rw [X10_firstNotSo_p19_s] at heq
      refine lv_iload hx hb dX10_firstNotSo_19 (lv_at hl 2 rfl) ?_
      refine lv_aload_n hx hb dX10_firstNotSo_21 rfl (lv_at hl 0 rfl) ?_
      obtain ⟨rz_8, hz_9, heq⟩ := bd1_h heq
      obtain ⟨y_10, st_11, h_12, heq⟩ := bnd_h heq
      refine h_vi (own := RX10) (As := []) (rest := [.int v4]) (wr := xWrR b T xa xs v1) hx hb hml hown hts (okX7_size z l D (xRa xa v1) T h_12) (cwV 0 hts gX10_firstNotSo_X7_size rfl rfl rfl hdX7_size ⟨Nat.le_of_ble_eq_true rfl, Nat.le_of_ble_eq_true rfl⟩) hK hA hX hP hD hS (xpR b T xa xs v1h hz_9) (xqR b T xa xs v1h _ _) (ci := 7) (q0 := 0) rfl rfl rfl hl.1 rfl (Nat.le_of_ble_eq_true rfl) dX10_firstNotSo_22 ⟨Nat.le_of_ble_eq_true rfl, Nat.le_of_ble_eq_true rfl⟩ (fun H locs hP hD hS => ?_)
      obtain ⟨xs_13, exs_13⟩ : ∃ z, z = uR xs v1 (some (rz_8.1, st_11)) := ⟨_, rfl⟩
      have hR : xRel b xa (uR xs v1 (some (rz_8.1, st_11))) := hR.uR hz_9
      rw [← exs_13] at hP hD hR
      have heq := nm_h exs_13 heq
      refine lv_icmp_ge (tgt := 61) hx hb dX10_firstNotSo_25 (by decide) (fun c_14 => ?_) (fun c_14 => ?_)
      · have heq := it_t c_14 heq
        exact b61 xs_13 v1 xa v1h H locs ls hR hU hP hD hS (lv_sub hl [0] rfl) heq
      have heq := it_f c_14 heq
      refine lv_aload_n hx hb dX10_firstNotSo_28 rfl (lv_at hl 0 rfl) ?_
      refine lv_iload hx hb dX10_firstNotSo_29 (lv_at hl 2 rfl) ?_
      obtain ⟨rz_15, hz_16, heq⟩ := bd1_h heq
      obtain ⟨y_17, st_18, h_19, heq⟩ := bnd_h heq
      refine h_vi (own := RX10) (As := [.int v4]) (rest := []) (wr := xWrR b T xa xs_13 v1) hx hb hml hown hts (okX7_isSkipped z l D (xRa xa v1) T h_19) (cwV 1 hts gX10_firstNotSo_X7_isSkipped rfl rfl rfl hdX7_isSkipped ⟨Nat.le_of_ble_eq_true rfl, Nat.le_of_ble_eq_true rfl⟩) hK hA hX hP hD hS (xpR b T xa xs_13 v1h hz_16) (xqR b T xa xs_13 v1h _ _) (ci := 7) (q0 := 0) rfl rfl rfl hl.1 rfl (Nat.le_of_ble_eq_true rfl) dX10_firstNotSo_31 ⟨Nat.le_of_ble_eq_true rfl, Nat.le_of_ble_eq_true rfl⟩ (fun H locs hP hD hS => ?_)
      obtain ⟨xs_20, exs_20⟩ : ∃ z, z = uR xs_13 v1 (some (rz_15.1, st_18)) := ⟨_, rfl⟩
      have hR : xRel b xa (uR xs_13 v1 (some (rz_15.1, st_18))) := hR.uR hz_16
      rw [← exs_20] at hP hD hR
      have heq := nm_h exs_20 heq
      refine lv_if_ne (tgt := 55) hx hb dX10_firstNotSo_34 (by decide) (fun c_21 => ?_) (fun c_21 => ?_)
      · have heq := it_f c_21 heq
        exact b55 (fun xs v1 v3 v4 => X10_firstNotSo_p19 n xs v1 v3 v4) ih xs_20 v1 v3 v4 xa v1h H locs ls hR hU hP hD hS (lv_sub hl [0, 1, 2] rfl) heq
      have heq := it_t c_21 heq
      refine lv_aload_n hx hb dX10_firstNotSo_37 rfl (lv_at hl 0 rfl) ?_
      refine lv_iload hx hb dX10_firstNotSo_38 (lv_at hl 2 rfl) ?_
      obtain ⟨rz_22, hz_23, heq⟩ := bd1_h heq
      obtain ⟨y_24, st_25, h_26, heq⟩ := bnd_h heq
      refine h_vi (own := RX10) (As := [.int v4]) (rest := []) (wr := xWrR b T xa xs_20 v1) hx hb hml hown hts (okX7_at z l D (xRa xa v1) T h_26) (cwV 1 hts gX10_firstNotSo_X7_at rfl rfl rfl hdX7_at ⟨Nat.le_of_ble_eq_true rfl, Nat.le_of_ble_eq_true rfl⟩) hK hA hX hP hD hS (xpR b T xa xs_20 v1h hz_23) (xqR b T xa xs_20 v1h _ _) (ci := 7) (q0 := 0) rfl rfl rfl hl.1 rfl (Nat.le_of_ble_eq_true rfl) dX10_firstNotSo_40 ⟨Nat.le_of_ble_eq_true rfl, Nat.le_of_ble_eq_true rfl⟩ (fun H locs hP hD hS => ?_)
      obtain ⟨xs_27, exs_27⟩ : ∃ z, z = uR xs_20 v1 (some (rz_22.1, st_25)) := ⟨_, rfl⟩
      have hR : xRel b xa (uR xs_20 v1 (some (rz_22.1, st_25))) := hR.uR hz_23
      rw [← exs_27] at hP hD hR
      have heq := nm_h exs_27 heq
      refine lv_iload_n hx hb dX10_firstNotSo_43 rfl (lv_at hl 1 rfl) ?_
      refine lv_iload hx hb dX10_firstNotSo_44 (lv_at hl 2 rfl) ?_
      refine lv_ishr hx hb dX10_firstNotSo_46 ?_
      refine lv_iconst (v := (1 : Int32)) hx hb dX10_firstNotSo_47 (by decide) ?_
      refine lv_iand hx hb dX10_firstNotSo_48 ?_
      refine lv_icmp_eq (tgt := 55) hx hb dX10_firstNotSo_49 (by decide) (fun c_28 => ?_) (fun c_28 => ?_)
      · have heq := it_t c_28 heq
        exact b55 (fun xs v1 v3 v4 => X10_firstNotSo_p19 n xs v1 v3 v4) ih xs_27 v1 v3 v4 xa v1h H locs ls hR hU hP hD hS (lv_sub hl [0, 1, 2] rfl) heq
      have heq := it_f c_28 heq
      exact b52 xs_27 v4 xa H locs ls hR hU hP hD hS (lv_sub hl [2] rfl) heq
  obtain ⟨H, hH⟩ : ∃ H, H = s.heap := ⟨_, rfl⟩
  obtain ⟨locs, hlocs⟩ : ∃ z : List Loc, z = [] := ⟨_, rfl⟩
  have hS : va_S A s.heap H locs := by rw [hH, hlocs]; exact hS
  have hP : va_P D vwCl (xW b T xa xs) H := by rw [hH]; exact hP
  suffices h9 : W p l e rmX10_firstNotSo s m args below meth c H locs 0 0 Q (F0 m 0 ls []) by rw [hH, hlocs] at h9; exact h9
  clear hH hlocs
  unfold X10_firstNotSo at heq
  refine lv_aload_n hx hb dX10_firstNotSo_0 rfl (lv_at hl 0 rfl) ?_
  refine va_get (D := D) (ci := 10) (v := .ref (b 3)) (C := RX10) (T := TX10) (N := 7) hx hb hts hin10 hown hK hP 0 rfl rfl 0 (by decide) f10 (fun _ h9 => h9) rfl dX10_firstNotSo_1 ?_
  refine lv_iload_n hx hb dX10_firstNotSo_4 rfl (lv_at hl 2 rfl) ?_
  refine lv_aload_n hx hb dX10_firstNotSo_5 rfl (lv_at hl 0 rfl) ?_
  refine va_get (D := D) (ci := 10) (v := .ref (b 3)) (C := RX10) (T := TX10) (N := 7) hx hb hts hin10 hown hK hP 0 rfl rfl 0 (by decide) f10 (fun _ h9 => h9) rfl dX10_firstNotSo_6 ?_
  refine va_get (D := D) (ci := 8) (v := .int (gF (xT xs 0) 8)) (C := RX8) (T := TX8) (N := 10) hx hb hts hin8 hown hK hP 3 rfl rfl 8 (by decide) f93 (fun _ h9 => h9) rfl dX10_firstNotSo_9 ?_
  obtain ⟨y_29, st_30, h_31, heq⟩ := bnd_h heq
  refine h_vi (own := RX10) (As := [.int v2, .int (gF (xT xs 0) 8)]) (rest := []) (wr := xWr0 b T xa xs) hx hb hml hown hts (okX8_struckBy z l D (fun j => b (3 + j)) T (fun j => some (xFo xa 0 j)) h_31) (cwV 2 hts gX10_firstNotSo_X8_struckBy rfl rfl rfl hdX8_struckBy ⟨Nat.le_of_ble_eq_true rfl, Nat.le_of_ble_eq_true rfl⟩) hK hA hX hP hD hS (xp0 b T xa xs) (xq0 b T xa xs _) (ci := 8) (q0 := 0) rfl rfl rfl hl.1 rfl (Nat.le_of_ble_eq_true rfl) dX10_firstNotSo_12 ⟨Nat.le_of_ble_eq_true rfl, Nat.le_of_ble_eq_true rfl⟩ (fun H locs hP hD hS => ?_)
  obtain ⟨xs_32, exs_32⟩ : ∃ z, z = uT xs 0 st_30 := ⟨_, rfl⟩
  have hR : xRel b xa (uT xs 0 st_30) := hR.uT _ _
  rw [← exs_32] at hP hD hR
  have heq := nm_h exs_32 heq
  refine lv_istore_n (lv' := [(3, .int y_29), (0, .ref (b 0)), (1, .ref (xRa xa v1 0)), (2, .int v2)]) hx hb dX10_firstNotSo_15 rfl hl (by decide) rfl (fun ls hl => ?_)
  refine lv_iconst (v := (0 : Int32)) hx hb dX10_firstNotSo_16 (by decide) ?_
  refine lv_istore (lv' := [(4, .int (0 : Int32)), (3, .int y_29), (0, .ref (b 0)), (1, .ref (xRa xa v1 0)), (2, .int v2)]) hx hb dX10_firstNotSo_17 hl (by decide) rfl (fun ls hl => ?_)
  exact b19 5000 xs_32 v1 y_29 (0 : Int32) xa v1h H locs ls hR hU hP hD hS (lv_sub hl [3, 1, 0] rfl) heq
set_option maxRecDepth 20000 in
theorem ggX10_fell_X10_rowOn : GoodIn wsX10_fell wsX10_rowOn := goodIn_r _ [7, 8, 9, 10, 6, 11, 89, 90, 91, 92, 93, 94, 95] (by decide +kernel) (by decide +kernel)
set_option maxRecDepth 20000 in
theorem gX10_fell_X10_rowOn : GoodIn wsX10_fell (wsV RX10 43 RX10 yX10_rowOn wsX10_rowOn) := goodIn_app (goodIn_of _ (by decide +kernel)) ggX10_fell_X10_rowOn
set_option maxRecDepth 20000 in
theorem ggX10_fell_X10_refusal : GoodIn wsX10_fell wsX10_refusal := goodIn_r _ [15, 9, 10, 6, 11, 16, 17, 18, 19, 20, 8, 89, 90, 91, 92, 93, 94, 95] (by decide +kernel) (by decide +kernel)
set_option maxRecDepth 20000 in
theorem gX10_fell_X10_refusal : GoodIn wsX10_fell (wsV RX10 47 RX10 yX10_refusal wsX10_refusal) := goodIn_app (goodIn_of _ (by decide +kernel)) ggX10_fell_X10_refusal
set_option maxRecDepth 20000 in
theorem ggX10_fell_X7_size : GoodIn wsX10_fell wsX7_size := goodIn_r _ [25, 26, 106, 107] (by decide +kernel) (by decide +kernel)
set_option maxRecDepth 20000 in
theorem gX10_fell_X7_size : GoodIn wsX10_fell (wsV RX10 63 RX7 yX7_size wsX7_size) := goodIn_app (goodIn_of _ (by decide +kernel)) ggX10_fell_X7_size
set_option maxRecDepth 20000 in
theorem ggX10_fell_X10_firstNotSo : GoodIn wsX10_fell wsX10_firstNotSo := goodIn_r _ [30, 1, 31, 32, 33, 34, 35, 36, 37, 38, 39, 40, 41, 42, 43, 44, 45, 46, 47, 48, 49, 50, 51, 52, 53, 54, 55, 56, 57, 6, 58, 59, 60, 61, 62, 63, 64, 65, 66, 67, 68, 69, 70, 71, 72, 73, 74, 21, 22, 23, 24, 25, 26, 75, 76, 77, 78, 79, 80, 81, 82, 83, 84, 85, 86, 87, 88, 89, 90, 91, 92, 93, 94, 95, 96, 97, 98, 99, 100, 101, 102, 103, 104, 105, 106, 107] (by decide +kernel) (by decide +kernel)
set_option maxRecDepth 20000 in
theorem gX10_fell_X10_firstNotSo : GoodIn wsX10_fell (wsV RX10 246 RX10 yX10_firstNotSo wsX10_firstNotSo) := goodIn_app (goodIn_of _ (by decide +kernel)) ggX10_fell_X10_firstNotSo
theorem dX10_fell_0 : decode cX10_fell 0 = .ok (.aload_n 0, 1) := by decide +kernel
theorem dX10_fell_1 : decode cX10_fell 1 = .ok (.iload_n 1, 1) := by decide +kernel
theorem dX10_fell_2 : decode cX10_fell 2 = .ok (.invokevirtual 43, 3) := by decide +kernel
theorem dX10_fell_5 : decode cX10_fell 5 = .ok (.astore_n 2, 1) := by decide +kernel
theorem dX10_fell_6 : decode cX10_fell 6 = .ok (.aload_n 2, 1) := by decide +kernel
theorem dX10_fell_7 : decode cX10_fell 7 = .ok (.ifnonnull 9, 3) := by decide +kernel
theorem dX10_fell_10 : decode cX10_fell 10 = .ok (.aload_n 0, 1) := by decide +kernel
theorem dX10_fell_11 : decode cX10_fell 11 = .ok (.iload_n 1, 1) := by decide +kernel
theorem dX10_fell_12 : decode cX10_fell 12 = .ok (.invokevirtual 47, 3) := by decide +kernel
theorem dX10_fell_15 : decode cX10_fell 15 = .ok (.ireturn, 1) := by decide +kernel
theorem dX10_fell_16 : decode cX10_fell 16 = .ok (.aload_n 2, 1) := by decide +kernel
theorem dX10_fell_17 : decode cX10_fell 17 = .ok (.invokevirtual 63, 3) := by decide +kernel
theorem dX10_fell_20 : decode cX10_fell 20 = .ok (.aload_n 0, 1) := by decide +kernel
theorem dX10_fell_21 : decode cX10_fell 21 = .ok (.getfield 10, 3) := by decide +kernel
theorem dX10_fell_24 : decode cX10_fell 24 = .ok (.getfield 126, 3) := by decide +kernel
theorem dX10_fell_27 : decode cX10_fell 27 = .ok (.if_icmp .le 6, 3) := by decide +kernel
theorem dX10_fell_30 : decode cX10_fell 30 = .ok (.bipush (-13), 2) := by decide +kernel
theorem dX10_fell_32 : decode cX10_fell 32 = .ok (.ireturn, 1) := by decide +kernel
theorem dX10_fell_33 : decode cX10_fell 33 = .ok (.iconst 0, 1) := by decide +kernel
theorem dX10_fell_34 : decode cX10_fell 34 = .ok (.istore_n 3, 1) := by decide +kernel
theorem dX10_fell_35 : decode cX10_fell 35 = .ok (.iconst 0, 1) := by decide +kernel
theorem dX10_fell_36 : decode cX10_fell 36 = .ok (.istore 4, 2) := by decide +kernel
theorem dX10_fell_38 : decode cX10_fell 38 = .ok (.iload 4, 2) := by decide +kernel
theorem dX10_fell_40 : decode cX10_fell 40 = .ok (.bipush 12, 2) := by decide +kernel
theorem dX10_fell_42 : decode cX10_fell 42 = .ok (.if_icmp .ge 30, 3) := by decide +kernel
theorem dX10_fell_45 : decode cX10_fell 45 = .ok (.aload_n 0, 1) := by decide +kernel
theorem dX10_fell_46 : decode cX10_fell 46 = .ok (.aload_n 2, 1) := by decide +kernel
theorem dX10_fell_47 : decode cX10_fell 47 = .ok (.iload 4, 2) := by decide +kernel
theorem dX10_fell_49 : decode cX10_fell 49 = .ok (.invokevirtual 246, 3) := by decide +kernel
theorem dX10_fell_52 : decode cX10_fell 52 = .ok (.aload_n 2, 1) := by decide +kernel
theorem dX10_fell_53 : decode cX10_fell 53 = .ok (.invokevirtual 63, 3) := by decide +kernel
theorem dX10_fell_56 : decode cX10_fell 56 = .ok (.if_icmp .ne 10, 3) := by decide +kernel
theorem dX10_fell_59 : decode cX10_fell 59 = .ok (.iload_n 3, 1) := by decide +kernel
theorem dX10_fell_60 : decode cX10_fell 60 = .ok (.iconst 1, 1) := by decide +kernel
theorem dX10_fell_61 : decode cX10_fell 61 = .ok (.iload 4, 2) := by decide +kernel
theorem dX10_fell_63 : decode cX10_fell 63 = .ok (.ishl, 1) := by decide +kernel
theorem dX10_fell_64 : decode cX10_fell 64 = .ok (.ior, 1) := by decide +kernel
theorem dX10_fell_65 : decode cX10_fell 65 = .ok (.istore_n 3, 1) := by decide +kernel
theorem dX10_fell_66 : decode cX10_fell 66 = .ok (.iinc 4 1, 3) := by decide +kernel
theorem dX10_fell_69 : decode cX10_fell 69 = .ok (.goto (-31), 3) := by decide +kernel
theorem dX10_fell_72 : decode cX10_fell 72 = .ok (.iload_n 3, 1) := by decide +kernel
theorem dX10_fell_73 : decode cX10_fell 73 = .ok (.ireturn, 1) := by decide +kernel
/-! X10 fell -/
def X10_fell_p66 (k38 : XS → Nat → Int32 → Int32 → Option (Int32 × XS)) (xs : XS) (v2 : Nat) (v3 : Int32) (v4 : Int32) : Option (Int32 × XS) :=
    nm (v4 + (1 : Int32)) fun x_1 =>
    k38 xs v2 v3 x_1
def X10_fell_p72 (xs : XS) (v3 : Int32) : Option (Int32 × XS) :=
    some (v3, xs)
def X10_fell_p38 : Nat → XS → Nat → Int32 → Int32 → Option (Int32 × XS)
  | 0, _, _, _, _ => none
  | n + 1, xs, v2, v3, v4 =>
    if (12 : Int32) ≤ v4 then
      (X10_fell_p72 xs v3)
    else
    bnd (X10_firstNotSo xs v2 v4) fun y_3 xs_4 =>
    bd1 (xR xs_4 v2) fun rz_8 =>
    bnd (X7_size rz_8.1 rz_8.2) fun y_10 st_11 =>
    nm (uR xs_4 v2 (some (rz_8.1, st_11))) fun xs_13 =>
    if y_3 = y_10 then
      (nm ((v3 ||| ((1 : Int32) <<< (v4 &&& 31)))) fun x_15 =>
      X10_fell_p66 (fun xs v2 v3 v4 => X10_fell_p38 n xs v2 v3 v4) xs_13 v2 x_15 v4)
    else
    X10_fell_p66 (fun xs v2 v3 v4 => X10_fell_p38 n xs v2 v3 v4) xs_13 v2 v3 v4
theorem X10_fell_p38_s (n : Nat) (xs : XS) (v2 : Nat) (v3 : Int32) (v4 : Int32) : X10_fell_p38 (n + 1) xs v2 v3 v4 =
    (if (12 : Int32) ≤ v4 then
      (X10_fell_p72 xs v3)
    else
    bnd (X10_firstNotSo xs v2 v4) fun y_3 xs_4 =>
    bd1 (xR xs_4 v2) fun rz_8 =>
    bnd (X7_size rz_8.1 rz_8.2) fun y_10 st_11 =>
    nm (uR xs_4 v2 (some (rz_8.1, st_11))) fun xs_13 =>
    if y_3 = y_10 then
      (nm ((v3 ||| ((1 : Int32) <<< (v4 &&& 31)))) fun x_15 =>
      X10_fell_p66 (fun xs v2 v3 v4 => X10_fell_p38 n xs v2 v3 v4) xs_13 v2 x_15 v4)
    else
    X10_fell_p66 (fun xs v2 v3 v4 => X10_fell_p38 n xs v2 v3 v4) xs_13 v2 v3 v4) := rfl
def X10_fell (xs : XS) (v1 : Int32) : Option (Int32 × XS) :=
    bnd (X10_rowOn xs v1) fun y_16 xs_17 =>
    ob y_16
      (bnd (X10_refusal xs_17 v1) fun y_25 xs_26 =>
      some (y_25, xs_26))
    fun k_21 =>
    bd1 (xR xs_17 k_21) fun rz_30 =>
    bnd (X7_size rz_30.1 rz_30.2) fun y_32 st_33 =>
    nm (uR xs_17 k_21 (some (rz_30.1, st_33))) fun xs_35 =>
    if y_32 ≤ (gF (xT xs_35 0) 6) then
      (X10_fell_p38 13 xs_35 k_21 (0 : Int32) (0 : Int32))
    else
    some ((-13 : Int32), xs_35)
abbrev rmX10_fell : Room := { frames := 6, cells := 0, slots := 0, locals := 138 }
theorem hdX10_fell : yX10_fell.cls = RX10 ∧ yX10_fell.cls ≠ "java/lang/invoke/MethodHandle" ∧ yX10_fell.cls ≠ "java/lang/invoke/VarHandle" ∧ (parseMethodDescriptor yX10_fell.desc).map (fun d => d.parameters.length) = some 1 := by decide +kernel
set_option maxRecDepth 100000 in
set_option maxHeartbeats 8000000 in
theorem okX10_fell (z : Nat → Nat) (l : Launch) (D : va_G) (T : mT3) (b : Nat → Nat) {xa : XA} {xs : XS} {v1 : Int32} {r : Int32} {xs' : XS} (hR : xRel b xa xs) (heq : X10_fell xs v1 = some (r, xs')) : hXi xSub z l D T b yX10_fell wsX10_fell rmX10_fell [.ref (b 0), .int v1] xa xs r xs' := by
  refine xbody_i (plainFor_of_name (by decide)) rfl (Nat.le_of_ble_eq_true rfl) (fun p e s m args below meth c A Q hx hb hml hown hts hK hA hX hret ls hP hD hS hl => ?_)
  have hl : lv_has ls 5 [(0, .ref (b 0)), (1, .int v1)] := hl
  have hin10 : ∀ w ∈ wsX100, w ∈ wsX10_fell := by decide +kernel
  have hin8 : ∀ w ∈ wsX80, w ∈ wsX10_fell := by decide +kernel
  have f10 : (Cond.fieldLink RX10 10 RX10 (TX10 0).2.1 (TX10 0).2.2.1).before args s = true := hts (.fieldLink RX10 10 RX10 "now" "LLaidDownTheLane$Town;") (by decide +kernel)
  have f126 : (Cond.fieldLink RX10 126 RX8 (TX8 6).2.1 (TX8 6).2.2.1).before args s = true := hts (.fieldLink RX10 126 RX8 "houses" "I") (by decide +kernel)
  obtain ⟨xa0, hxa0⟩ : ∃ z : XA, z = xa := ⟨_, rfl⟩
  rw [← hxa0] at hret
  have hU : xSub xa0 xa := by rw [hxa0]; exact xSub.rf
  clear hxa0
  have b66 : ∀ (k38 : XS → Nat → Int32 → Int32 → Option (Int32 × XS)) (hk38 : ∀ (xs : XS) (v2 : Nat) (v3 : Int32) (v4 : Int32) (xa : XA) (v2h : v2 < 8) (H : Heap) (locs : List Loc) (ls : Array Slot), xRel b xa xs → xSub xa0 xa → va_P D vwCl (xW b T xa xs) H → va_D A (xW b T xa xs) → va_S A s.heap H locs → lv_has ls 5 [(0, .ref (b 0)), (2, .ref (xRa xa v2 0)), (3, .int v3), (4, .int v4)] → k38 xs v2 v3 v4 = some (r, xs') → W p l e rmX10_fell s m args below meth c H locs 0 0 Q (F0 m 38 ls [])), ∀ (xs : XS) (v2 : Nat) (v3 : Int32) (v4 : Int32) (xa : XA) (v2h : v2 < 8) (H : Heap) (locs : List Loc) (ls : Array Slot), xRel b xa xs → xSub xa0 xa → va_P D vwCl (xW b T xa xs) H → va_D A (xW b T xa xs) → va_S A s.heap H locs → lv_has ls 5 [(0, .ref (b 0)), (2, .ref (xRa xa v2 0)), (3, .int v3), (4, .int v4)] → X10_fell_p66 k38 xs v2 v3 v4 = some (r, xs') → W p l e rmX10_fell s m args below meth c H locs 0 0 Q (F0 m 66 ls []) := by
    intro k38 hk38 xs v2 v3 v4 xa v2h H locs ls hR hU hP hD hS hl heq
    unfold X10_fell_p66 at heq
    obtain ⟨x_1, ex_1⟩ : ∃ y : Int32, y = v4 + (1 : Int32) := ⟨_, rfl⟩
    have heq := nm_h ex_1 heq
    refine lv_iinc (v := x_1) (lv' := [(4, .int x_1), (0, .ref (b 0)), (2, .ref (xRa xa v2 0)), (3, .int v3)]) hx hb dX10_fell_66 hl (k := 3) rfl (by rw [ex_1]; rfl) (by decide) rfl (fun ls hl => ?_)
    refine lv_goto (tgt := 38) hx hb dX10_fell_69 (by decide) ?_
    exact hk38 xs v2 v3 x_1 xa v2h H locs ls hR hU hP hD hS (lv_sub hl [1, 2, 3, 0] rfl) heq
  have b72 : ∀ (xs : XS) (v3 : Int32) (xa : XA) (H : Heap) (locs : List Loc) (ls : Array Slot), xRel b xa xs → xSub xa0 xa → va_P D vwCl (xW b T xa xs) H → va_D A (xW b T xa xs) → va_S A s.heap H locs → lv_has ls 5 [(3, .int v3)] → X10_fell_p72 xs v3 = some (r, xs') → W p l e rmX10_fell s m args below meth c H locs 0 0 Q (F0 m 72 ls []) := by
    intro xs v3 xa H locs ls hR hU hP hD hS hl heq
    unfold X10_fell_p72 at heq
    refine lv_iload_n hx hb dX10_fell_72 rfl (lv_at hl 0 rfl) ?_
    obtain ⟨heq, heq2⟩ := ret_h heq
    subst heq
    subst heq2
    exact hret 73 H locs ls xa hR hU hP hD hS rfl dX10_fell_73
  have b38 : ∀ (n : Nat), ∀ (xs : XS) (v2 : Nat) (v3 : Int32) (v4 : Int32) (xa : XA) (v2h : v2 < 8) (H : Heap) (locs : List Loc) (ls : Array Slot), xRel b xa xs → xSub xa0 xa → va_P D vwCl (xW b T xa xs) H → va_D A (xW b T xa xs) → va_S A s.heap H locs → lv_has ls 5 [(0, .ref (b 0)), (2, .ref (xRa xa v2 0)), (3, .int v3), (4, .int v4)] → X10_fell_p38 n xs v2 v3 v4 = some (r, xs') → W p l e rmX10_fell s m args below meth c H locs 0 0 Q (F0 m 38 ls []) := by
    intro n
    induction n with
    | zero => intro xs v2 v3 v4 xa v2h H locs ls hR hU hP hD hS hl heq; cases heq
    | succ n ih =>
      intro xs v2 v3 v4 xa v2h H locs ls hR hU hP hD hS hl heq
      rw [X10_fell_p38_s] at heq
      refine lv_iload hx hb dX10_fell_38 (lv_at hl 3 rfl) ?_
      refine lv_bipush (v := (12 : Int32)) hx hb dX10_fell_40 (by decide) ?_
      refine lv_icmp_ge (tgt := 72) hx hb dX10_fell_42 (by decide) (fun c_2 => ?_) (fun c_2 => ?_)
      · have heq := it_t c_2 heq
        exact b72 xs v3 xa H locs ls hR hU hP hD hS (lv_sub hl [2] rfl) heq
      have heq := it_f c_2 heq
      refine lv_aload_n hx hb dX10_fell_45 rfl (lv_at hl 0 rfl) ?_
      refine lv_aload_n hx hb dX10_fell_46 rfl (lv_at hl 1 rfl) ?_
      refine lv_iload hx hb dX10_fell_47 (lv_at hl 3 rfl) ?_
      obtain ⟨y_3, xs_4, h_5, heq⟩ := bnd_h heq
      refine x_vi (own := RX10) (As := [.ref (xRa xa v2 0), .int v4]) (rest := []) hx hb hml hown hts (okX10_firstNotSo z l D T b hR v2h h_5) (cwV 2 hts gX10_fell_X10_firstNotSo rfl rfl rfl hdX10_firstNotSo ⟨Nat.le_of_ble_eq_true rfl, Nat.le_of_ble_eq_true rfl⟩) hK hA hX hP hD hS (ci := 10) (q0 := 0) rfl rfl rfl hl.1 rfl (Nat.le_of_ble_eq_true rfl) dX10_fell_49 ⟨Nat.le_of_ble_eq_true rfl, Nat.le_of_ble_eq_true rfl⟩ (fun xa_6 H locs hR hsxa_6 hP hD hS => ?_)
      have hU := xSub.tr hU hsxa_6
      have hl : lv_has ls 5 [(0, .ref (b 0)), (2, .ref (xRa xa_6 v2 0)), (3, .int v3), (4, .int v4)] := by rw [hsxa_6.2.2]; exact hl
      refine lv_aload_n hx hb dX10_fell_52 rfl (lv_at hl 1 rfl) ?_
      obtain ⟨rz_8, hz_9, heq⟩ := bd1_h heq
      obtain ⟨y_10, st_11, h_12, heq⟩ := bnd_h heq
      refine h_vi (own := RX10) (As := []) (rest := [.int y_3]) (wr := xWrR b T xa_6 xs_4 v2) hx hb hml hown hts (okX7_size z l D (xRa xa_6 v2) T h_12) (cwV 0 hts gX10_fell_X7_size rfl rfl rfl hdX7_size ⟨Nat.le_of_ble_eq_true rfl, Nat.le_of_ble_eq_true rfl⟩) hK hA hX hP hD hS (xpR b T xa_6 xs_4 v2h hz_9) (xqR b T xa_6 xs_4 v2h _ _) (ci := 7) (q0 := 0) rfl rfl rfl hl.1 rfl (Nat.le_of_ble_eq_true rfl) dX10_fell_53 ⟨Nat.le_of_ble_eq_true rfl, Nat.le_of_ble_eq_true rfl⟩ (fun H locs hP hD hS => ?_)
      obtain ⟨xs_13, exs_13⟩ : ∃ z, z = uR xs_4 v2 (some (rz_8.1, st_11)) := ⟨_, rfl⟩
      have hR : xRel b xa_6 (uR xs_4 v2 (some (rz_8.1, st_11))) := hR.uR hz_9
      rw [← exs_13] at hP hD hR
      have heq := nm_h exs_13 heq
      refine lv_icmp_ne (tgt := 66) hx hb dX10_fell_56 (by decide) (fun c_14 => ?_) (fun c_14 => ?_)
      · have heq := it_f c_14 heq
        exact b66 (fun xs v2 v3 v4 => X10_fell_p38 n xs v2 v3 v4) ih xs_13 v2 v3 v4 xa_6 v2h H locs ls hR hU hP hD hS (lv_sub hl [0, 1, 2, 3] rfl) heq
      have heq := it_t c_14 heq
      refine lv_iload_n hx hb dX10_fell_59 rfl (lv_at hl 2 rfl) ?_
      refine lv_iconst (v := (1 : Int32)) hx hb dX10_fell_60 (by decide) ?_
      refine lv_iload hx hb dX10_fell_61 (lv_at hl 3 rfl) ?_
      refine lv_ishl hx hb dX10_fell_63 ?_
      refine lv_ior hx hb dX10_fell_64 ?_
      refine lv_topi (fun x_15 ex_15 => ?_)
      have heq := nm_h ex_15 heq
      refine lv_istore_n (lv' := [(3, .int x_15), (0, .ref (b 0)), (2, .ref (xRa xa_6 v2 0)), (4, .int v4)]) hx hb dX10_fell_65 rfl hl (by decide) rfl (fun ls hl => ?_)
      exact b66 (fun xs v2 v3 v4 => X10_fell_p38 n xs v2 v3 v4) ih xs_13 v2 x_15 v4 xa_6 v2h H locs ls hR hU hP hD hS (lv_sub hl [1, 2, 0, 3] rfl) heq
  obtain ⟨H, hH⟩ : ∃ H, H = s.heap := ⟨_, rfl⟩
  obtain ⟨locs, hlocs⟩ : ∃ z : List Loc, z = [] := ⟨_, rfl⟩
  have hS : va_S A s.heap H locs := by rw [hH, hlocs]; exact hS
  have hP : va_P D vwCl (xW b T xa xs) H := by rw [hH]; exact hP
  suffices h9 : W p l e rmX10_fell s m args below meth c H locs 0 0 Q (F0 m 0 ls []) by rw [hH, hlocs] at h9; exact h9
  clear hH hlocs
  unfold X10_fell at heq
  refine lv_aload_n hx hb dX10_fell_0 rfl (lv_at hl 0 rfl) ?_
  refine lv_iload_n hx hb dX10_fell_1 rfl (lv_at hl 1 rfl) ?_
  obtain ⟨y_16, xs_17, h_18, heq⟩ := bnd_h heq
  refine x_vr (own := RX10) (As := [.int v1]) (rest := []) hx hb hml hown hts (okX10_rowOn z l D T b hR h_18) (cwV 1 hts gX10_fell_X10_rowOn rfl rfl rfl hdX10_rowOn ⟨Nat.le_of_ble_eq_true rfl, Nat.le_of_ble_eq_true rfl⟩) hK hA hX hP hD hS (ci := 10) (q0 := 0) rfl rfl rfl hl.1 rfl (Nat.le_of_ble_eq_true rfl) dX10_fell_2 ⟨Nat.le_of_ble_eq_true rfl, Nat.le_of_ble_eq_true rfl⟩ (fun xa_19 H locs o_20 hR hsxa_19 ho_20 hP hD hS => ?_)
  have hU := xSub.tr hU hsxa_19
  refine lv_astoreQ_n (lv' := [(2, va_rf o_20), (0, .ref (b 0)), (1, .int v1)]) hx hb dX10_fell_5 rfl hl (by decide) rfl (fun ls hl => ?_)
  refine lv_aloadQ_n (r := o_20) hx hb dX10_fell_6 rfl (lv_at hl 0 rfl) ?_
  rcases obR_h ho_20 heq with ⟨h_22, heq⟩ | ⟨k_21, ⟨h_22, h_24⟩, heq⟩
  · rw [h_22] at hl ⊢
    have hl : lv_has ls 5 [(2, .null), (0, .ref (b 0)), (1, .int v1)] := hl
    refine lv_ifnonnullN hx hb dX10_fell_7 ?_
    refine lv_aload_n hx hb dX10_fell_10 rfl (lv_at hl 1 rfl) ?_
    refine lv_iload_n hx hb dX10_fell_11 rfl (lv_at hl 2 rfl) ?_
    obtain ⟨y_25, xs_26, h_27, heq⟩ := bnd_h heq
    refine x_vi (own := RX10) (As := [.int v1]) (rest := []) hx hb hml hown hts (okX10_refusal z l D T b hR h_27) (cwV 1 hts gX10_fell_X10_refusal rfl rfl rfl hdX10_refusal ⟨Nat.le_of_ble_eq_true rfl, Nat.le_of_ble_eq_true rfl⟩) hK hA hX hP hD hS (ci := 10) (q0 := 0) rfl rfl rfl hl.1 rfl (Nat.le_of_ble_eq_true rfl) dX10_fell_12 ⟨Nat.le_of_ble_eq_true rfl, Nat.le_of_ble_eq_true rfl⟩ (fun xa_28 H locs hR hsxa_28 hP hD hS => ?_)
    have hU := xSub.tr hU hsxa_28
    obtain ⟨heq, heq2⟩ := ret_h heq
    subst heq
    subst heq2
    exact hret 15 H locs ls xa_28 hR hU hP hD hS rfl dX10_fell_15
  rw [h_22] at hl ⊢
  have hl : lv_has ls 5 [(2, .ref (xRa xa_19 k_21 0)), (0, .ref (b 0)), (1, .int v1)] := hl
  refine lv_ifnonnull (tgt := 16) hx hb dX10_fell_7 (by decide) ?_
  refine lv_aload_n hx hb dX10_fell_16 rfl (lv_at hl 0 rfl) ?_
  obtain ⟨rz_30, hz_31, heq⟩ := bd1_h heq
  obtain ⟨y_32, st_33, h_34, heq⟩ := bnd_h heq
  refine h_vi (own := RX10) (As := []) (rest := []) (wr := xWrR b T xa_19 xs_17 k_21) hx hb hml hown hts (okX7_size z l D (xRa xa_19 k_21) T h_34) (cwV 0 hts gX10_fell_X7_size rfl rfl rfl hdX7_size ⟨Nat.le_of_ble_eq_true rfl, Nat.le_of_ble_eq_true rfl⟩) hK hA hX hP hD hS (xpR b T xa_19 xs_17 h_24 hz_31) (xqR b T xa_19 xs_17 h_24 _ _) (ci := 7) (q0 := 0) rfl rfl rfl hl.1 rfl (Nat.le_of_ble_eq_true rfl) dX10_fell_17 ⟨Nat.le_of_ble_eq_true rfl, Nat.le_of_ble_eq_true rfl⟩ (fun H locs hP hD hS => ?_)
  obtain ⟨xs_35, exs_35⟩ : ∃ z, z = uR xs_17 k_21 (some (rz_30.1, st_33)) := ⟨_, rfl⟩
  have hR : xRel b xa_19 (uR xs_17 k_21 (some (rz_30.1, st_33))) := hR.uR hz_31
  rw [← exs_35] at hP hD hR
  have heq := nm_h exs_35 heq
  refine lv_aload_n hx hb dX10_fell_20 rfl (lv_at hl 1 rfl) ?_
  refine va_get (D := D) (ci := 10) (v := .ref (b 3)) (C := RX10) (T := TX10) (N := 7) hx hb hts hin10 hown hK hP 0 rfl rfl 0 (by decide) f10 (fun _ h9 => h9) rfl dX10_fell_21 ?_
  refine va_get (D := D) (ci := 8) (v := .int (gF (xT xs_35 0) 6)) (C := RX8) (T := TX8) (N := 10) hx hb hts hin8 hown hK hP 3 rfl rfl 6 (by decide) f126 (fun _ h9 => h9) rfl dX10_fell_24 ?_
  refine lv_icmp_le (tgt := 33) hx hb dX10_fell_27 (by decide) (fun c_36 => ?_) (fun c_36 => ?_)
  · have heq := it_t c_36 heq
    refine lv_iconst (v := (0 : Int32)) hx hb dX10_fell_33 (by decide) ?_
    refine lv_istore_n (lv' := [(3, .int (0 : Int32)), (2, .ref (xRa xa_19 k_21 0)), (0, .ref (b 0)), (1, .int v1)]) hx hb dX10_fell_34 rfl hl (by decide) rfl (fun ls hl => ?_)
    refine lv_iconst (v := (0 : Int32)) hx hb dX10_fell_35 (by decide) ?_
    refine lv_istore (lv' := [(4, .int (0 : Int32)), (3, .int (0 : Int32)), (2, .ref (xRa xa_19 k_21 0)), (0, .ref (b 0)), (1, .int v1)]) hx hb dX10_fell_36 hl (by decide) rfl (fun ls hl => ?_)
    exact b38 13 xs_35 k_21 (0 : Int32) (0 : Int32) xa_19 h_24 H locs ls hR hU hP hD hS (lv_sub hl [3, 2, 1, 0] rfl) heq
  have heq := it_f c_36 heq
  refine lv_bipush (v := (-13 : Int32)) hx hb dX10_fell_30 (by decide) ?_
  obtain ⟨heq, heq2⟩ := ret_h heq
  subst heq
  subst heq2
  exact hret 32 H locs ls xa_19 hR hU hP hD hS rfl dX10_fell_32
