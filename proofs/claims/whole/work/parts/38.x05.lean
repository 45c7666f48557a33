set_option maxRecDepth 20000 in
theorem ggX10_thick_X8_isDown : GoodIn wsX10_thick wsX8_isDown := goodIn_r _ [8, 9, 187, 188, 189, 190, 191, 192, 193, 194, 195, 196] (by decide +kernel) (by decide +kernel)
set_option maxRecDepth 20000 in
theorem gX10_thick_X8_isDown : GoodIn wsX10_thick (wsV RX10 116 RX8 yX8_isDown wsX8_isDown) := goodIn_app (goodIn_of _ (by decide +kernel)) ggX10_thick_X8_isDown
set_option maxRecDepth 20000 in
theorem ggX10_thick_X8_takeFrom : GoodIn wsX10_thick wsX8_takeFrom := goodIn_r _ [13, 14, 15, 16, 17, 18, 19, 20, 21, 22, 9, 187, 188, 189, 190, 191, 192, 193, 194, 195, 196] (by decide +kernel) (by decide +kernel)
set_option maxRecDepth 20000 in
theorem gX10_thick_X8_takeFrom : GoodIn wsX10_thick (wsV RX10 59 RX8 yX8_takeFrom wsX8_takeFrom) := goodIn_app (goodIn_of _ (by decide +kernel)) ggX10_thick_X8_takeFrom
set_option maxRecDepth 20000 in
theorem ggX10_thick_X10_propCuts : GoodIn wsX10_thick wsX10_propCuts := goodIn_r _ [27, 28, 29, 30, 1, 31, 2, 32, 33, 34, 35, 36, 37, 38, 39, 40, 41, 42, 43, 44, 45, 46, 47, 48, 49, 50, 51, 52, 53, 54, 55, 56, 57, 58, 59, 60, 61, 62, 63, 64, 65, 66, 67, 68, 69, 70, 71, 72, 73, 74, 75, 76, 77, 78, 79, 7, 80, 14, 15, 16, 81, 82, 83, 84, 85, 86, 87, 88, 89, 90, 91, 92, 93, 94, 95, 96, 97, 98, 99, 100, 101, 102, 103, 104, 105, 106, 107, 108, 109, 110, 111, 112, 113, 114, 115, 116, 117, 118, 119, 120, 121, 122, 123, 124, 125, 126, 127, 128, 129, 130, 131, 132, 133, 134, 135, 136, 137, 138, 139, 140, 141, 142, 143, 197, 180, 181, 182, 183, 184, 185, 186, 187, 188, 189, 190, 191, 192, 193, 194, 195, 196, 198, 199, 200, 201, 202, 203, 204] (by decide +kernel) (by decide +kernel)
set_option maxRecDepth 20000 in
theorem gX10_thick_X10_propCuts : GoodIn wsX10_thick (wsV RX10 193 RX10 yX10_propCuts wsX10_propCuts) := goodIn_app (goodIn_of _ (by decide +kernel)) ggX10_thick_X10_propCuts
set_option maxRecDepth 20000 in
theorem ggX10_thick_X8_fallSideAt : GoodIn wsX10_thick wsX8_fallSideAt := goodIn_r _ [147, 148, 149, 150, 7, 151, 152, 153, 154, 155, 17, 156, 157, 158, 159, 160, 161, 162, 163, 164, 165, 166, 16, 15, 187, 188, 189, 190, 191, 192, 193, 194, 195, 196] (by decide +kernel) (by decide +kernel)
set_option maxRecDepth 20000 in
theorem gX10_thick_X8_fallSideAt : GoodIn wsX10_thick (wsV RX10 184 RX8 yX8_fallSideAt wsX8_fallSideAt) := goodIn_app (goodIn_of _ (by decide +kernel)) ggX10_thick_X8_fallSideAt
set_option maxRecDepth 20000 in
theorem ggX10_thick_X8_fallToLaneAfter : GoodIn wsX10_thick wsX8_fallToLaneAfter := goodIn_r _ [170, 22, 17, 171, 172, 173, 7, 174, 175, 176, 177, 178, 16, 179, 145, 146, 147, 148, 149, 150, 151, 152, 153, 154, 155, 156, 157, 158, 159, 160, 161, 162, 163, 164, 165, 166, 15, 187, 188, 189, 190, 191, 192, 193, 194, 195, 196] (by decide +kernel) (by decide +kernel)
set_option maxRecDepth 20000 in
theorem gX10_thick_X8_fallToLaneAfter : GoodIn wsX10_thick (wsV RX10 196 RX8 yX8_fallToLaneAfter wsX8_fallToLaneAfter) := goodIn_app (goodIn_of _ (by decide +kernel)) ggX10_thick_X8_fallToLaneAfter
theorem dX10_thick_0 : decode cX10_thick 0 = .ok (.iload_n 1, 1) := by decide +kernel
theorem dX10_thick_1 : decode cX10_thick 1 = .ok (.ifCond .lt 8, 3) := by decide +kernel
theorem dX10_thick_4 : decode cX10_thick 4 = .ok (.iload_n 1, 1) := by decide +kernel
theorem dX10_thick_5 : decode cX10_thick 5 = .ok (.iconst 1, 1) := by decide +kernel
theorem dX10_thick_6 : decode cX10_thick 6 = .ok (.if_icmp .le 5, 3) := by decide +kernel
theorem dX10_thick_9 : decode cX10_thick 9 = .ok (.iconst (-1), 1) := by decide +kernel
theorem dX10_thick_10 : decode cX10_thick 10 = .ok (.ireturn, 1) := by decide +kernel
theorem dX10_thick_11 : decode cX10_thick 11 = .ok (.aload_n 0, 1) := by decide +kernel
theorem dX10_thick_12 : decode cX10_thick 12 = .ok (.getfield 10, 3) := by decide +kernel
theorem dX10_thick_15 : decode cX10_thick 15 = .ok (.invokevirtual 116, 3) := by decide +kernel
theorem dX10_thick_18 : decode cX10_thick 18 = .ok (.ifCond .eq 6, 3) := by decide +kernel
theorem dX10_thick_21 : decode cX10_thick 21 = .ok (.bipush (-3), 2) := by decide +kernel
theorem dX10_thick_23 : decode cX10_thick 23 = .ok (.ireturn, 1) := by decide +kernel
theorem dX10_thick_24 : decode cX10_thick 24 = .ok (.aload_n 0, 1) := by decide +kernel
theorem dX10_thick_25 : decode cX10_thick 25 = .ok (.getfield 16, 3) := by decide +kernel
theorem dX10_thick_28 : decode cX10_thick 28 = .ok (.aload_n 0, 1) := by decide +kernel
theorem dX10_thick_29 : decode cX10_thick 29 = .ok (.getfield 10, 3) := by decide +kernel
theorem dX10_thick_32 : decode cX10_thick 32 = .ok (.invokevirtual 59, 3) := by decide +kernel
theorem dX10_thick_35 : decode cX10_thick 35 = .ok (.bipush (-4), 2) := by decide +kernel
theorem dX10_thick_37 : decode cX10_thick 37 = .ok (.istore_n 2, 1) := by decide +kernel
theorem dX10_thick_38 : decode cX10_thick 38 = .ok (.bipush (-4), 2) := by decide +kernel
theorem dX10_thick_40 : decode cX10_thick 40 = .ok (.istore_n 3, 1) := by decide +kernel
theorem dX10_thick_41 : decode cX10_thick 41 = .ok (.iconst 1, 1) := by decide +kernel
theorem dX10_thick_42 : decode cX10_thick 42 = .ok (.istore 4, 2) := by decide +kernel
theorem dX10_thick_44 : decode cX10_thick 44 = .ok (.iload 4, 2) := by decide +kernel
theorem dX10_thick_46 : decode cX10_thick 46 = .ok (.bipush 9, 2) := by decide +kernel
theorem dX10_thick_48 : decode cX10_thick 48 = .ok (.if_icmp .gt 71, 3) := by decide +kernel
theorem dX10_thick_51 : decode cX10_thick 51 = .ok (.aload_n 0, 1) := by decide +kernel
theorem dX10_thick_52 : decode cX10_thick 52 = .ok (.iload 4, 2) := by decide +kernel
theorem dX10_thick_54 : decode cX10_thick 54 = .ok (.invokevirtual 193, 3) := by decide +kernel
theorem dX10_thick_57 : decode cX10_thick 57 = .ok (.iload_n 1, 1) := by decide +kernel
theorem dX10_thick_58 : decode cX10_thick 58 = .ok (.ifCond .ne 25, 3) := by decide +kernel
theorem dX10_thick_61 : decode cX10_thick 61 = .ok (.aload_n 0, 1) := by decide +kernel
theorem dX10_thick_62 : decode cX10_thick 62 = .ok (.getfield 16, 3) := by decide +kernel
theorem dX10_thick_65 : decode cX10_thick 65 = .ok (.aload_n 0, 1) := by decide +kernel
theorem dX10_thick_66 : decode cX10_thick 66 = .ok (.getfield 16, 3) := by decide +kernel
theorem dX10_thick_69 : decode cX10_thick 69 = .ok (.getfield 93, 3) := by decide +kernel
theorem dX10_thick_72 : decode cX10_thick 72 = .ok (.invokevirtual 184, 3) := by decide +kernel
theorem dX10_thick_75 : decode cX10_thick 75 = .ok (.bipush (-4), 2) := by decide +kernel
theorem dX10_thick_77 : decode cX10_thick 77 = .ok (.if_icmp .ne 6, 3) := by decide +kernel
theorem dX10_thick_80 : decode cX10_thick 80 = .ok (.iload 4, 2) := by decide +kernel
theorem dX10_thick_82 : decode cX10_thick 82 = .ok (.ireturn, 1) := by decide +kernel
theorem dX10_thick_83 : decode cX10_thick 83 = .ok (.iload_n 1, 1) := by decide +kernel
theorem dX10_thick_84 : decode cX10_thick 84 = .ok (.ifCond .ne 8, 3) := by decide +kernel
theorem dX10_thick_87 : decode cX10_thick 87 = .ok (.bipush (-4), 2) := by decide +kernel
theorem dX10_thick_89 : decode cX10_thick 89 = .ok (.goto 10, 3) := by decide +kernel
theorem dX10_thick_92 : decode cX10_thick 92 = .ok (.aload_n 0, 1) := by decide +kernel
theorem dX10_thick_93 : decode cX10_thick 93 = .ok (.getfield 16, 3) := by decide +kernel
theorem dX10_thick_96 : decode cX10_thick 96 = .ok (.invokevirtual 196, 3) := by decide +kernel
theorem dX10_thick_99 : decode cX10_thick 99 = .ok (.istore 5, 2) := by decide +kernel
theorem dX10_thick_101 : decode cX10_thick 101 = .ok (.iload 5, 2) := by decide +kernel
theorem dX10_thick_103 : decode cX10_thick 103 = .ok (.iload_n 3, 1) := by decide +kernel
theorem dX10_thick_104 : decode cX10_thick 104 = .ok (.if_icmp .le 9, 3) := by decide +kernel
theorem dX10_thick_107 : decode cX10_thick 107 = .ok (.iload 5, 2) := by decide +kernel
theorem dX10_thick_109 : decode cX10_thick 109 = .ok (.istore_n 3, 1) := by decide +kernel
theorem dX10_thick_110 : decode cX10_thick 110 = .ok (.iload 4, 2) := by decide +kernel
theorem dX10_thick_112 : decode cX10_thick 112 = .ok (.istore_n 2, 1) := by decide +kernel
theorem dX10_thick_113 : decode cX10_thick 113 = .ok (.iinc 4 1, 3) := by decide +kernel
theorem dX10_thick_116 : decode cX10_thick 116 = .ok (.goto (-72), 3) := by decide +kernel
theorem dX10_thick_119 : decode cX10_thick 119 = .ok (.iload_n 2, 1) := by decide +kernel
theorem dX10_thick_120 : decode cX10_thick 120 = .ok (.ireturn, 1) := by decide +kernel
/-! X10 thick -/
def X10_thick_p80 (xs : XS) (v4 : Int32) : Option (Int32 × XS) :=
    some (v4, xs)
def X10_thick_p113 (k44 : XS → Int32 → Int32 → Int32 → Int32 → Option (Int32 × XS)) (xs : XS) (v1 : Int32) (v2 : Int32) (v3 : Int32) (v4 : Int32) : Option (Int32 × XS) :=
    nm (v4 + (1 : Int32)) fun x_1 =>
    k44 xs v1 v2 v3 x_1
def X10_thick_p99 (k44 : XS → Int32 → Int32 → Int32 → Int32 → Option (Int32 × XS)) (xs : XS) (v1 : Int32) (v2 : Int32) (v3 : Int32) (v4 : Int32) (t0 : Int32) : Option (Int32 × XS) :=
    if t0 ≤ v3 then
      (X10_thick_p113 k44 xs v1 v2 v3 v4)
    else
    X10_thick_p113 k44 xs v1 v4 t0 v4
def X10_thick_p83 (k44 : XS → Int32 → Int32 → Int32 → Int32 → Option (Int32 × XS)) (xs : XS) (v1 : Int32) (v2 : Int32) (v3 : Int32) (v4 : Int32) : Option (Int32 × XS) :=
    if v1 = 0 then
      (X10_thick_p99 k44 xs v1 v2 v3 v4 (-4 : Int32))
    else
    bnd (X8_fallToLaneAfter (xT xs 1)) fun y_4 st_5 =>
    nm (uT xs 1 st_5) fun xs_7 =>
    X10_thick_p99 k44 xs_7 v1 v2 v3 v4 y_4
def X10_thick_p119 (xs : XS) (v2 : Int32) : Option (Int32 × XS) :=
    some (v2, xs)
def X10_thick_p44 : Nat → XS → Int32 → Int32 → Int32 → Int32 → Option (Int32 × XS)
  | 0, _, _, _, _, _ => none
  | n + 1, xs, v1, v2, v3, v4 =>
    if (9 : Int32) < v4 then
      (X10_thick_p119 xs v2)
    else
    bnd (X10_propCuts xs v4) fun _ xs_9 =>
    if v1 = 0 then
      (bnd (X8_fallSideAt (xT xs_9 1) (gF (xT xs_9 1) 8)) fun y_14 st_15 =>
      nm (uT xs_9 1 st_15) fun xs_17 =>
      if y_14 = (-4 : Int32) then
        (X10_thick_p80 xs_17 v4)
      else
      X10_thick_p83 (fun xs v1 v2 v3 v4 => X10_thick_p44 n xs v1 v2 v3 v4) xs_17 v1 v2 v3 v4)
    else
    X10_thick_p83 (fun xs v1 v2 v3 v4 => X10_thick_p44 n xs v1 v2 v3 v4) xs_9 v1 v2 v3 v4
theorem X10_thick_p44_s (n : Nat) (xs : XS) (v1 : Int32) (v2 : Int32) (v3 : Int32) (v4 : Int32) : X10_thick_p44 (n + 1) xs v1 v2 v3 v4 =
    (if (9 : Int32) < v4 then
      (X10_thick_p119 xs v2)
    else
    bnd (X10_propCuts xs v4) fun _ xs_9 =>
    if v1 = 0 then
      (bnd (X8_fallSideAt (xT xs_9 1) (gF (xT xs_9 1) 8)) fun y_14 st_15 =>
      nm (uT xs_9 1 st_15) fun xs_17 =>
      if y_14 = (-4 : Int32) then
        (X10_thick_p80 xs_17 v4)
      else
      X10_thick_p83 (fun xs v1 v2 v3 v4 => X10_thick_p44 n xs v1 v2 v3 v4) xs_17 v1 v2 v3 v4)
    else
    X10_thick_p83 (fun xs v1 v2 v3 v4 => X10_thick_p44 n xs v1 v2 v3 v4) xs_9 v1 v2 v3 v4) := rfl
def X10_thick (xs : XS) (v1 : Int32) : Option (Int32 × XS) :=
    if v1 < 0 then
      (some ((-1 : Int32), xs))
    else
    if v1 ≤ (1 : Int32) then
      (bnd (X8_isDown (xT xs 0)) fun y_21 st_22 =>
      nm (uT xs 0 st_22) fun xs_24 =>
      if y_21 = 0 then
        (bnd (X8_takeFrom_1_0 xs_24) fun _ xs_26 =>
        X10_thick_p44 11 xs_26 v1 (-4 : Int32) (-4 : Int32) (1 : Int32))
      else
      some ((-3 : Int32), xs_24))
    else
    some ((-1 : Int32), xs)
abbrev rmX10_thick : Room := { frames := 6, cells := 11, slots := 11, locals := 138 }
theorem hdX10_thick : yX10_thick.cls = RX10 ∧ yX10_thick.cls ≠ "java/lang/invoke/MethodHandle" ∧ yX10_thick.cls ≠ "java/lang/invoke/VarHandle" ∧ (parseMethodDescriptor yX10_thick.desc).map (fun d => d.parameters.length) = some 1 := by decide +kernel
set_option maxRecDepth 100000 in
set_option maxHeartbeats 8000000 in
theorem okX10_thick (z : Nat → Nat) (l : Launch) (D : va_G) (T : mT3) (b : Nat → Nat) {xa : XA} {xs : XS} {v1 : Int32} {r : Int32} {xs' : XS} (hR : xRel b xa xs) (heq : X10_thick xs v1 = some (r, xs')) : hXi xSub z l D T b yX10_thick wsX10_thick rmX10_thick [.ref (b 0), .int v1] xa xs r xs' := by
  refine xbody_i (plainFor_of_name (by decide)) rfl (Nat.le_of_ble_eq_true rfl) (fun p e s m args below meth c A Q hx hb hml hown hts hK hA hX hret ls hP hD hS hl => ?_)
  have hl : lv_has ls 6 [(0, .ref (b 0)), (1, .int v1)] := hl
  have hin10 : ∀ w ∈ wsX100, w ∈ wsX10_thick := by decide +kernel
  have hin8 : ∀ w ∈ wsX80, w ∈ wsX10_thick := by decide +kernel
  have f10 : (Cond.fieldLink RX10 10 RX10 (TX10 0).2.1 (TX10 0).2.2.1).before args s = true := hts (.fieldLink RX10 10 RX10 "now" "LLaidDownTheLane$Town;") (by decide +kernel)
  have f16 : (Cond.fieldLink RX10 16 RX10 (TX10 1).2.1 (TX10 1).2.2.1).before args s = true := hts (.fieldLink RX10 16 RX10 "trial" "LLaidDownTheLane$Town;") (by decide +kernel)
  have f93 : (Cond.fieldLink RX10 93 RX8 (TX8 8).2.1 (TX8 8).2.2.1).before args s = true := hts (.fieldLink RX10 93 RX8 "minute" "I") (by decide +kernel)
  obtain ⟨xa0, hxa0⟩ : ∃ z : XA, z = xa := ⟨_, rfl⟩
  rw [← hxa0] at hret
  have hU : xSub xa0 xa := by rw [hxa0]; exact xSub.rf
  clear hxa0
  have b80 : ∀ (xs : XS) (v4 : Int32) (xa : XA) (H : Heap) (locs : List Loc) (ls : Array Slot), xRel b xa xs → xSub xa0 xa → va_P D vwCl (xW b T xa xs) H → va_D A (xW b T xa xs) → va_S A s.heap H locs → lv_has ls 6 [(4, .int v4)] → X10_thick_p80 xs v4 = some (r, xs') → W p l e rmX10_thick s m args below meth c H locs 11 11 Q (F0 m 80 ls []) := by
    intro xs v4 xa H locs ls hR hU hP hD hS hl heq
    unfold X10_thick_p80 at heq
    refine lv_iload hx hb dX10_thick_80 (lv_at hl 0 rfl) ?_
    obtain ⟨heq, heq2⟩ := ret_h heq
    subst heq
    subst heq2
    refine W.widen (k := 11) (n := 11) (by first | decide | omega) (by first | decide | omega) ?_
    exact hret 82 H locs ls xa hR hU hP hD hS rfl dX10_thick_82
  have b113 : ∀ (cs : Nat) (_ : cs ≤ 11), ∀ (k44 : XS → Int32 → Int32 → Int32 → Int32 → Option (Int32 × XS)) (hk44 : ∀ (xs : XS) (v1 : Int32) (v2 : Int32) (v3 : Int32) (v4 : Int32) (xa : XA) (H : Heap) (locs : List Loc) (ls : Array Slot), xRel b xa xs → xSub xa0 xa → va_P D vwCl (xW b T xa xs) H → va_D A (xW b T xa xs) → va_S A s.heap H locs → lv_has ls 6 [(0, .ref (b 0)), (1, .int v1), (2, .int v2), (3, .int v3), (4, .int v4)] → k44 xs v1 v2 v3 v4 = some (r, xs') → W p l e rmX10_thick s m args below meth c H locs cs cs Q (F0 m 44 ls [])), ∀ (xs : XS) (v1 : Int32) (v2 : Int32) (v3 : Int32) (v4 : Int32) (xa : XA) (H : Heap) (locs : List Loc) (ls : Array Slot), xRel b xa xs → xSub xa0 xa → va_P D vwCl (xW b T xa xs) H → va_D A (xW b T xa xs) → va_S A s.heap H locs → lv_has ls 6 [(0, .ref (b 0)), (1, .int v1), (2, .int v2), (3, .int v3), (4, .int v4)] → X10_thick_p113 k44 xs v1 v2 v3 v4 = some (r, xs') → W p l e rmX10_thick s m args below meth c H locs cs cs Q (F0 m 113 ls []) := by
    intro cs hcs k44 hk44 xs v1 v2 v3 v4 xa H locs ls hR hU hP hD hS hl heq
    unfold X10_thick_p113 at heq
    obtain ⟨x_1, ex_1⟩ : ∃ y : Int32, y = v4 + (1 : Int32) := ⟨_, rfl⟩
    have heq := nm_h ex_1 heq
    refine lv_iinc (v := x_1) (lv' := [(4, .int x_1), (0, .ref (b 0)), (1, .int v1), (2, .int v2), (3, .int v3)]) hx hb dX10_thick_113 hl (k := 4) rfl (by rw [ex_1]; rfl) (by decide) rfl (fun ls hl => ?_)
    refine lv_goto (tgt := 44) hx hb dX10_thick_116 (by decide) ?_
    exact hk44 xs v1 v2 v3 x_1 xa H locs ls hR hU hP hD hS (lv_sub hl [1, 2, 3, 4, 0] rfl) heq
  have b99 : ∀ (cs : Nat) (_ : cs ≤ 11), ∀ (k44 : XS → Int32 → Int32 → Int32 → Int32 → Option (Int32 × XS)) (hk44 : ∀ (xs : XS) (v1 : Int32) (v2 : Int32) (v3 : Int32) (v4 : Int32) (xa : XA) (H : Heap) (locs : List Loc) (ls : Array Slot), xRel b xa xs → xSub xa0 xa → va_P D vwCl (xW b T xa xs) H → va_D A (xW b T xa xs) → va_S A s.heap H locs → lv_has ls 6 [(0, .ref (b 0)), (1, .int v1), (2, .int v2), (3, .int v3), (4, .int v4)] → k44 xs v1 v2 v3 v4 = some (r, xs') → W p l e rmX10_thick s m args below meth c H locs cs cs Q (F0 m 44 ls [])), ∀ (xs : XS) (v1 : Int32) (v2 : Int32) (v3 : Int32) (v4 : Int32) (t0 : Int32) (xa : XA) (H : Heap) (locs : List Loc) (ls : Array Slot), xRel b xa xs → xSub xa0 xa → va_P D vwCl (xW b T xa xs) H → va_D A (xW b T xa xs) → va_S A s.heap H locs → lv_has ls 6 [(0, .ref (b 0)), (1, .int v1), (2, .int v2), (3, .int v3), (4, .int v4)] → X10_thick_p99 k44 xs v1 v2 v3 v4 t0 = some (r, xs') → W p l e rmX10_thick s m args below meth c H locs cs cs Q (F0 m 99 ls [.int t0]) := by
    intro cs hcs k44 hk44 xs v1 v2 v3 v4 t0 xa H locs ls hR hU hP hD hS hl heq
    unfold X10_thick_p99 at heq
    refine lv_istore (lv' := [(5, .int t0), (0, .ref (b 0)), (1, .int v1), (2, .int v2), (3, .int v3), (4, .int v4)]) hx hb dX10_thick_99 hl (by decide) rfl (fun ls hl => ?_)
    refine lv_iload hx hb dX10_thick_101 (lv_at hl 0 rfl) ?_
    refine lv_iload_n hx hb dX10_thick_103 rfl (lv_at hl 4 rfl) ?_
    refine lv_icmp_le (tgt := 113) hx hb dX10_thick_104 (by decide) (fun c_2 => ?_) (fun c_2 => ?_)
    · have heq := it_t c_2 heq
      exact b113 cs (by omega) k44 hk44 xs v1 v2 v3 v4 xa H locs ls hR hU hP hD hS (lv_sub hl [1, 2, 3, 4, 5] rfl) heq
    have heq := it_f c_2 heq
    refine lv_iload hx hb dX10_thick_107 (lv_at hl 0 rfl) ?_
    refine lv_istore_n (lv' := [(3, .int t0), (5, .int t0), (0, .ref (b 0)), (1, .int v1), (2, .int v2), (4, .int v4)]) hx hb dX10_thick_109 rfl hl (by decide) rfl (fun ls hl => ?_)
    refine lv_iload hx hb dX10_thick_110 (lv_at hl 5 rfl) ?_
    refine lv_istore_n (lv' := [(2, .int v4), (3, .int t0), (5, .int t0), (0, .ref (b 0)), (1, .int v1), (4, .int v4)]) hx hb dX10_thick_112 rfl hl (by decide) rfl (fun ls hl => ?_)
    exact b113 cs (by omega) k44 hk44 xs v1 v4 t0 v4 xa H locs ls hR hU hP hD hS (lv_sub hl [3, 4, 0, 1, 5] rfl) heq
  have b83 : ∀ (cs : Nat) (_ : cs ≤ 11), ∀ (k44 : XS → Int32 → Int32 → Int32 → Int32 → Option (Int32 × XS)) (hk44 : ∀ (xs : XS) (v1 : Int32) (v2 : Int32) (v3 : Int32) (v4 : Int32) (xa : XA) (H : Heap) (locs : List Loc) (ls : Array Slot), xRel b xa xs → xSub xa0 xa → va_P D vwCl (xW b T xa xs) H → va_D A (xW b T xa xs) → va_S A s.heap H locs → lv_has ls 6 [(0, .ref (b 0)), (1, .int v1), (2, .int v2), (3, .int v3), (4, .int v4)] → k44 xs v1 v2 v3 v4 = some (r, xs') → W p l e rmX10_thick s m args below meth c H locs cs cs Q (F0 m 44 ls [])), ∀ (xs : XS) (v1 : Int32) (v2 : Int32) (v3 : Int32) (v4 : Int32) (xa : XA) (H : Heap) (locs : List Loc) (ls : Array Slot), xRel b xa xs → xSub xa0 xa → va_P D vwCl (xW b T xa xs) H → va_D A (xW b T xa xs) → va_S A s.heap H locs → lv_has ls 6 [(0, .ref (b 0)), (1, .int v1), (2, .int v2), (3, .int v3), (4, .int v4)] → X10_thick_p83 k44 xs v1 v2 v3 v4 = some (r, xs') → W p l e rmX10_thick s m args below meth c H locs cs cs Q (F0 m 83 ls []) := by
    intro cs hcs k44 hk44 xs v1 v2 v3 v4 xa H locs ls hR hU hP hD hS hl heq
    unfold X10_thick_p83 at heq
    refine lv_iload_n hx hb dX10_thick_83 rfl (lv_at hl 1 rfl) ?_
    refine lv_if_ne (tgt := 92) hx hb dX10_thick_84 (by decide) (fun c_3 => ?_) (fun c_3 => ?_)
    · have heq := it_f c_3 heq
      refine lv_aload_n hx hb dX10_thick_92 rfl (lv_at hl 0 rfl) ?_
      refine va_get (D := D) (ci := 10) (v := .ref (b 10)) (C := RX10) (T := TX10) (N := 7) hx hb hts hin10 hown hK hP 0 rfl rfl 1 (by decide) f16 (fun _ h9 => h9) rfl dX10_thick_93 ?_
      obtain ⟨y_4, st_5, h_6, heq⟩ := bnd_h heq
      refine h_vi (own := RX10) (As := []) (rest := []) (wr := xWr1 b T xa xs) hx hb hml hown hts (okX8_fallToLaneAfter z l D (fun j => b (10 + j)) T (fun j => some (xFo xa 1 j)) h_6) (cwV 0 hts gX10_thick_X8_fallToLaneAfter rfl rfl rfl hdX8_fallToLaneAfter ⟨Nat.le_of_ble_eq_true rfl, Nat.le_of_ble_eq_true rfl⟩) hK hA hX hP hD hS (xp1 b T xa xs) (xq1 b T xa xs _) (ci := 8) (q0 := 0) rfl rfl rfl hl.1 rfl (Nat.le_of_ble_eq_true rfl) dX10_thick_96 ⟨by show cs + 0 ≤ 11; omega, by show cs + 0 ≤ 11; omega⟩ (fun H locs hP hD hS => ?_)
      obtain ⟨xs_7, exs_7⟩ : ∃ z, z = uT xs 1 st_5 := ⟨_, rfl⟩
      refine W.widen (k := cs) (n := cs) (Nat.le_refl _) (Nat.le_refl _) ?_
      have hR : xRel b xa (uT xs 1 st_5) := hR.uT _ _
      rw [← exs_7] at hP hD hR
      have heq := nm_h exs_7 heq
      exact b99 cs (by omega) k44 hk44 xs_7 v1 v2 v3 v4 y_4 xa H locs ls hR hU hP hD hS (lv_sub hl [0, 1, 2, 3, 4] rfl) heq
    have heq := it_t c_3 heq
    refine lv_bipush (v := (-4 : Int32)) hx hb dX10_thick_87 (by decide) ?_
    refine lv_goto (tgt := 99) hx hb dX10_thick_89 (by decide) ?_
    exact b99 cs (by omega) k44 hk44 xs v1 v2 v3 v4 (-4 : Int32) xa H locs ls hR hU hP hD hS (lv_sub hl [0, 1, 2, 3, 4] rfl) heq
  have b119 : ∀ (xs : XS) (v2 : Int32) (xa : XA) (H : Heap) (locs : List Loc) (ls : Array Slot), xRel b xa xs → xSub xa0 xa → va_P D vwCl (xW b T xa xs) H → va_D A (xW b T xa xs) → va_S A s.heap H locs → lv_has ls 6 [(2, .int v2)] → X10_thick_p119 xs v2 = some (r, xs') → W p l e rmX10_thick s m args below meth c H locs 11 11 Q (F0 m 119 ls []) := by
    intro xs v2 xa H locs ls hR hU hP hD hS hl heq
    unfold X10_thick_p119 at heq
    refine lv_iload_n hx hb dX10_thick_119 rfl (lv_at hl 0 rfl) ?_
    obtain ⟨heq, heq2⟩ := ret_h heq
    subst heq
    subst heq2
    refine W.widen (k := 11) (n := 11) (by first | decide | omega) (by first | decide | omega) ?_
    exact hret 120 H locs ls xa hR hU hP hD hS rfl dX10_thick_120
  have b44 : ∀ (n : Nat), ∀ (cs : Nat) (_ : cs + n ≤ 11) (xs : XS) (v1 : Int32) (v2 : Int32) (v3 : Int32) (v4 : Int32) (xa : XA) (H : Heap) (locs : List Loc) (ls : Array Slot), xRel b xa xs → xSub xa0 xa → va_P D vwCl (xW b T xa xs) H → va_D A (xW b T xa xs) → va_S A s.heap H locs → lv_has ls 6 [(0, .ref (b 0)), (1, .int v1), (2, .int v2), (3, .int v3), (4, .int v4)] → X10_thick_p44 n xs v1 v2 v3 v4 = some (r, xs') → W p l e rmX10_thick s m args below meth c H locs cs cs Q (F0 m 44 ls []) := by
    intro n
    induction n with
    | zero => intro cs hcs xs v1 v2 v3 v4 xa H locs ls hR hU hP hD hS hl heq; cases heq
    | succ n ih =>
      intro cs hcs xs v1 v2 v3 v4 xa H locs ls hR hU hP hD hS hl heq
      rw [X10_thick_p44_s] at heq
      refine lv_iload hx hb dX10_thick_44 (lv_at hl 4 rfl) ?_
      refine lv_bipush (v := (9 : Int32)) hx hb dX10_thick_46 (by decide) ?_
      refine lv_icmp_gt (tgt := 119) hx hb dX10_thick_48 (by decide) (fun c_8 => ?_) (fun c_8 => ?_)
      · have heq := it_t c_8 heq
        refine W.widen (k := 11) (n := 11) (by first | decide | omega) (by first | decide | omega) ?_
        exact b119 xs v2 xa H locs ls hR hU hP hD hS (lv_sub hl [2] rfl) heq
      have heq := it_f c_8 heq
      refine lv_aload_n hx hb dX10_thick_51 rfl (lv_at hl 0 rfl) ?_
      refine lv_iload hx hb dX10_thick_52 (lv_at hl 4 rfl) ?_
      obtain ⟨⟨⟩, xs_9, h_10, heq⟩ := bnd_h heq
      refine x_vv (own := RX10) (As := [.int v4]) (rest := []) hx hb hml hown hts (okX10_propCuts z l D T b hR h_10) (cwV 1 hts gX10_thick_X10_propCuts rfl rfl rfl hdX10_propCuts ⟨Nat.le_of_ble_eq_true rfl, Nat.le_of_ble_eq_true rfl⟩) hK hA hX hP hD hS (ci := 10) (q0 := 0) rfl rfl rfl hl.1 rfl (Nat.le_of_ble_eq_true rfl) dX10_thick_54 ⟨by show cs + 1 ≤ 11; omega, by show cs + 1 ≤ 11; omega⟩ (fun xa_11 H locs hR hsxa_11 hP hD hS => ?_)
      refine W.widen (k := (cs + 1)) (n := (cs + 1)) (Nat.le_refl _) (Nat.le_refl _) ?_
      have hU := xSub.tr hU hsxa_11
      refine lv_iload_n hx hb dX10_thick_57 rfl (lv_at hl 1 rfl) ?_
      refine lv_if_ne (tgt := 83) hx hb dX10_thick_58 (by decide) (fun c_13 => ?_) (fun c_13 => ?_)
      · have heq := it_f c_13 heq
        exact b83 (cs + 1) (by omega) (fun xs v1 v2 v3 v4 => X10_thick_p44 n xs v1 v2 v3 v4) (ih (cs + 1) (by omega)) xs_9 v1 v2 v3 v4 xa_11 H locs ls hR hU hP hD hS (lv_sub hl [0, 1, 2, 3, 4] rfl) heq
      have heq := it_t c_13 heq
      refine lv_aload_n hx hb dX10_thick_61 rfl (lv_at hl 0 rfl) ?_
      refine va_get (D := D) (ci := 10) (v := .ref (b 10)) (C := RX10) (T := TX10) (N := 7) hx hb hts hin10 hown hK hP 0 rfl rfl 1 (by decide) f16 (fun _ h9 => h9) rfl dX10_thick_62 ?_
      refine lv_aload_n hx hb dX10_thick_65 rfl (lv_at hl 0 rfl) ?_
      refine va_get (D := D) (ci := 10) (v := .ref (b 10)) (C := RX10) (T := TX10) (N := 7) hx hb hts hin10 hown hK hP 0 rfl rfl 1 (by decide) f16 (fun _ h9 => h9) rfl dX10_thick_66 ?_
      refine va_get (D := D) (ci := 8) (v := .int (gF (xT xs_9 1) 8)) (C := RX8) (T := TX8) (N := 10) hx hb hts hin8 hown hK hP 10 rfl rfl 8 (by decide) f93 (fun _ h9 => h9) rfl dX10_thick_69 ?_
      obtain ⟨y_14, st_15, h_16, heq⟩ := bnd_h heq
      refine h_vi (own := RX10) (As := [.int (gF (xT xs_9 1) 8)]) (rest := []) (wr := xWr1 b T xa_11 xs_9) hx hb hml hown hts (okX8_fallSideAt z l D (fun j => b (10 + j)) T (fun j => some (xFo xa_11 1 j)) h_16) (cwV 1 hts gX10_thick_X8_fallSideAt rfl rfl rfl hdX8_fallSideAt ⟨Nat.le_of_ble_eq_true rfl, Nat.le_of_ble_eq_true rfl⟩) hK hA hX hP hD hS (xp1 b T xa_11 xs_9) (xq1 b T xa_11 xs_9 _) (ci := 8) (q0 := 0) rfl rfl rfl hl.1 rfl (Nat.le_of_ble_eq_true rfl) dX10_thick_72 ⟨by show (cs + 1) + 0 ≤ 11; omega, by show (cs + 1) + 0 ≤ 11; omega⟩ (fun H locs hP hD hS => ?_)
      obtain ⟨xs_17, exs_17⟩ : ∃ z, z = uT xs_9 1 st_15 := ⟨_, rfl⟩
      refine W.widen (k := (cs + 1)) (n := (cs + 1)) (Nat.le_refl _) (Nat.le_refl _) ?_
      have hR : xRel b xa_11 (uT xs_9 1 st_15) := hR.uT _ _
      rw [← exs_17] at hP hD hR
      have heq := nm_h exs_17 heq
      refine lv_bipush (v := (-4 : Int32)) hx hb dX10_thick_75 (by decide) ?_
      refine lv_icmp_ne (tgt := 83) hx hb dX10_thick_77 (by decide) (fun c_18 => ?_) (fun c_18 => ?_)
      · have heq := it_f c_18 heq
        exact b83 (cs + 1) (by omega) (fun xs v1 v2 v3 v4 => X10_thick_p44 n xs v1 v2 v3 v4) (ih (cs + 1) (by omega)) xs_17 v1 v2 v3 v4 xa_11 H locs ls hR hU hP hD hS (lv_sub hl [0, 1, 2, 3, 4] rfl) heq
      have heq := it_t c_18 heq
      refine W.widen (k := 11) (n := 11) (by first | decide | omega) (by first | decide | omega) ?_
      exact b80 xs_17 v4 xa_11 H locs ls hR hU hP hD hS (lv_sub hl [4] rfl) heq
  obtain ⟨H, hH⟩ : ∃ H, H = s.heap := ⟨_, rfl⟩
  obtain ⟨locs, hlocs⟩ : ∃ z : List Loc, z = [] := ⟨_, rfl⟩
  have hS : va_S A s.heap H locs := by rw [hH, hlocs]; exact hS
  have hP : va_P D vwCl (xW b T xa xs) H := by rw [hH]; exact hP
  suffices h9 : W p l e rmX10_thick s m args below meth c H locs 0 0 Q (F0 m 0 ls []) by rw [hH, hlocs] at h9; exact h9
  clear hH hlocs
  unfold X10_thick at heq
  refine lv_iload_n hx hb dX10_thick_0 rfl (lv_at hl 1 rfl) ?_
  refine lv_if_lt (tgt := 9) hx hb dX10_thick_1 (by decide) (fun c_19 => ?_) (fun c_19 => ?_)
  · have heq := it_t c_19 heq
    refine lv_iconst (v := (-1 : Int32)) hx hb dX10_thick_9 (by decide) ?_
    obtain ⟨heq, heq2⟩ := ret_h heq
    subst heq
    subst heq2
    refine W.widen (k := 11) (n := 11) (by first | decide | omega) (by first | decide | omega) ?_
    exact hret 10 H locs ls xa hR hU hP hD hS rfl dX10_thick_10
  have heq := it_f c_19 heq
  refine lv_iload_n hx hb dX10_thick_4 rfl (lv_at hl 1 rfl) ?_
  refine lv_iconst (v := (1 : Int32)) hx hb dX10_thick_5 (by decide) ?_
  refine lv_icmp_le (tgt := 11) hx hb dX10_thick_6 (by decide) (fun c_20 => ?_) (fun c_20 => ?_)
  · have heq := it_t c_20 heq
    refine lv_aload_n hx hb dX10_thick_11 rfl (lv_at hl 0 rfl) ?_
    refine va_get (D := D) (ci := 10) (v := .ref (b 3)) (C := RX10) (T := TX10) (N := 7) hx hb hts hin10 hown hK hP 0 rfl rfl 0 (by decide) f10 (fun _ h9 => h9) rfl dX10_thick_12 ?_
    obtain ⟨y_21, st_22, h_23, heq⟩ := bnd_h heq
    refine h_vi (own := RX10) (As := []) (rest := []) (wr := xWr0 b T xa xs) hx hb hml hown hts (okX8_isDown z l D (fun j => b (3 + j)) T (fun j => some (xFo xa 0 j)) h_23) (cwV 0 hts gX10_thick_X8_isDown rfl rfl rfl hdX8_isDown ⟨Nat.le_of_ble_eq_true rfl, Nat.le_of_ble_eq_true rfl⟩) hK hA hX hP hD hS (xp0 b T xa xs) (xq0 b T xa xs _) (ci := 8) (q0 := 0) rfl rfl rfl hl.1 rfl (Nat.le_of_ble_eq_true rfl) dX10_thick_15 ⟨by show 0 + 0 ≤ 11; omega, by show 0 + 0 ≤ 11; omega⟩ (fun H locs hP hD hS => ?_)
    obtain ⟨xs_24, exs_24⟩ : ∃ z, z = uT xs 0 st_22 := ⟨_, rfl⟩
    refine W.widen (k := 0) (n := 0) (Nat.le_refl _) (Nat.le_refl _) ?_
    have hR : xRel b xa (uT xs 0 st_22) := hR.uT _ _
    rw [← exs_24] at hP hD hR
    have heq := nm_h exs_24 heq
    refine lv_if_eq (tgt := 24) hx hb dX10_thick_18 (by decide) (fun c_25 => ?_) (fun c_25 => ?_)
    · have heq := it_t c_25 heq
      refine lv_aload_n hx hb dX10_thick_24 rfl (lv_at hl 0 rfl) ?_
      refine va_get (D := D) (ci := 10) (v := .ref (b 10)) (C := RX10) (T := TX10) (N := 7) hx hb hts hin10 hown hK hP 0 rfl rfl 1 (by decide) f16 (fun _ h9 => h9) rfl dX10_thick_25 ?_
      refine lv_aload_n hx hb dX10_thick_28 rfl (lv_at hl 0 rfl) ?_
      refine va_get (D := D) (ci := 10) (v := .ref (b 3)) (C := RX10) (T := TX10) (N := 7) hx hb hts hin10 hown hK hP 0 rfl rfl 0 (by decide) f10 (fun _ h9 => h9) rfl dX10_thick_29 ?_
      obtain ⟨⟨⟩, xs_26, h_27, heq⟩ := bnd_h heq
      refine x_vv (own := RX10) (As := [.ref (b 3)]) (rest := []) hx hb hml hown hts (okX8_takeFrom_1_0 z l D T b hR h_27) (cwV 1 hts gX10_thick_X8_takeFrom rfl rfl rfl hdX8_takeFrom ⟨Nat.le_of_ble_eq_true rfl, Nat.le_of_ble_eq_true rfl⟩) hK hA hX hP hD hS (ci := 8) (q0 := 10) rfl rfl rfl hl.1 rfl (Nat.le_of_ble_eq_true rfl) dX10_thick_32 ⟨by show 0 + 0 ≤ 11; omega, by show 0 + 0 ≤ 11; omega⟩ (fun xa_28 H locs hR hsxa_28 hP hD hS => ?_)
      refine W.widen (k := 0) (n := 0) (Nat.le_refl _) (Nat.le_refl _) ?_
      have hU := xSub.tr hU hsxa_28
      refine lv_bipush (v := (-4 : Int32)) hx hb dX10_thick_35 (by decide) ?_
      refine lv_istore_n (lv' := [(2, .int (-4 : Int32)), (0, .ref (b 0)), (1, .int v1)]) hx hb dX10_thick_37 rfl hl (by decide) rfl (fun ls hl => ?_)
      refine lv_bipush (v := (-4 : Int32)) hx hb dX10_thick_38 (by decide) ?_
      refine lv_istore_n (lv' := [(3, .int (-4 : Int32)), (2, .int (-4 : Int32)), (0, .ref (b 0)), (1, .int v1)]) hx hb dX10_thick_40 rfl hl (by decide) rfl (fun ls hl => ?_)
      refine lv_iconst (v := (1 : Int32)) hx hb dX10_thick_41 (by decide) ?_
      refine lv_istore (lv' := [(4, .int (1 : Int32)), (3, .int (-4 : Int32)), (2, .int (-4 : Int32)), (0, .ref (b 0)), (1, .int v1)]) hx hb dX10_thick_42 hl (by decide) rfl (fun ls hl => ?_)
      exact b44 11 0 (by omega) xs_26 v1 (-4 : Int32) (-4 : Int32) (1 : Int32) xa_28 H locs ls hR hU hP hD hS (lv_sub hl [3, 4, 2, 1, 0] rfl) heq
    have heq := it_f c_25 heq
    refine lv_bipush (v := (-3 : Int32)) hx hb dX10_thick_21 (by decide) ?_
    obtain ⟨heq, heq2⟩ := ret_h heq
    subst heq
    subst heq2
    refine W.widen (k := 11) (n := 11) (by first | decide | omega) (by first | decide | omega) ?_
    exact hret 23 H locs ls xa hR hU hP hD hS rfl dX10_thick_23
  have heq := it_f c_20 heq
  refine lv_iconst (v := (-1 : Int32)) hx hb dX10_thick_9 (by decide) ?_
  obtain ⟨heq, heq2⟩ := ret_h heq
  subst heq
  subst heq2
  refine W.widen (k := 11) (n := 11) (by first | decide | omega) (by first | decide | omega) ?_
  exact hret 10 H locs ls xa hR hU hP hD hS rfl dX10_thick_10
set_option maxRecDepth 20000 in
theorem ggX10_winds_X8_isDown : GoodIn wsX10_winds wsX8_isDown := goodIn_r _ [8, 9, 65, 66, 67, 68, 69, 70, 71, 72, 73, 74] (by decide +kernel) (by decide +kernel)
set_option maxRecDepth 20000 in
theorem gX10_winds_X8_isDown : GoodIn wsX10_winds (wsV RX10 116 RX8 yX8_isDown wsX8_isDown) := goodIn_app (goodIn_of _ (by decide +kernel)) ggX10_winds_X8_isDown
set_option maxRecDepth 20000 in
theorem ggX10_winds_X8_takeFrom : GoodIn wsX10_winds wsX8_takeFrom := goodIn_r _ [13, 14, 15, 16, 17, 18, 19, 20, 21, 22, 9, 65, 66, 67, 68, 69, 70, 71, 72, 73, 74] (by decide +kernel) (by decide +kernel)
set_option maxRecDepth 20000 in
theorem gX10_winds_X8_takeFrom : GoodIn wsX10_winds (wsV RX10 59 RX8 yX8_takeFrom wsX8_takeFrom) := goodIn_app (goodIn_of _ (by decide +kernel)) ggX10_winds_X8_takeFrom
set_option maxRecDepth 20000 in
theorem ggX10_winds_X8_fallToLaneAfter : GoodIn wsX10_winds wsX8_fallToLaneAfter := goodIn_r _ [26, 22, 17, 27, 28, 29, 7, 30, 31, 32, 33, 34, 16, 35, 36, 37, 38, 39, 40, 41, 42, 43, 44, 45, 46, 47, 48, 49, 50, 51, 52, 53, 54, 55, 56, 57, 15, 65, 66, 67, 68, 69, 70, 71, 72, 73, 74] (by decide +kernel) (by decide +kernel)
set_option maxRecDepth 20000 in
theorem gX10_winds_X8_fallToLaneAfter : GoodIn wsX10_winds (wsV RX10 196 RX8 yX8_fallToLaneAfter wsX8_fallToLaneAfter) := goodIn_app (goodIn_of _ (by decide +kernel)) ggX10_winds_X8_fallToLaneAfter
theorem dX10_winds_0 : decode cX10_winds 0 = .ok (.iload_n 1, 1) := by decide +kernel
theorem dX10_winds_1 : decode cX10_winds 1 = .ok (.ifCond .lt 8, 3) := by decide +kernel
theorem dX10_winds_4 : decode cX10_winds 4 = .ok (.iload_n 1, 1) := by decide +kernel
theorem dX10_winds_5 : decode cX10_winds 5 = .ok (.iconst 1, 1) := by decide +kernel
theorem dX10_winds_6 : decode cX10_winds 6 = .ok (.if_icmp .le 5, 3) := by decide +kernel
theorem dX10_winds_9 : decode cX10_winds 9 = .ok (.iconst (-1), 1) := by decide +kernel
theorem dX10_winds_10 : decode cX10_winds 10 = .ok (.ireturn, 1) := by decide +kernel
theorem dX10_winds_11 : decode cX10_winds 11 = .ok (.aload_n 0, 1) := by decide +kernel
theorem dX10_winds_12 : decode cX10_winds 12 = .ok (.getfield 10, 3) := by decide +kernel
theorem dX10_winds_15 : decode cX10_winds 15 = .ok (.invokevirtual 116, 3) := by decide +kernel
theorem dX10_winds_18 : decode cX10_winds 18 = .ok (.ifCond .eq 6, 3) := by decide +kernel
theorem dX10_winds_21 : decode cX10_winds 21 = .ok (.bipush (-3), 2) := by decide +kernel
theorem dX10_winds_23 : decode cX10_winds 23 = .ok (.ireturn, 1) := by decide +kernel
theorem dX10_winds_24 : decode cX10_winds 24 = .ok (.aload_n 0, 1) := by decide +kernel
theorem dX10_winds_25 : decode cX10_winds 25 = .ok (.getfield 16, 3) := by decide +kernel
theorem dX10_winds_28 : decode cX10_winds 28 = .ok (.aload_n 0, 1) := by decide +kernel
theorem dX10_winds_29 : decode cX10_winds 29 = .ok (.getfield 10, 3) := by decide +kernel
theorem dX10_winds_32 : decode cX10_winds 32 = .ok (.invokevirtual 59, 3) := by decide +kernel
theorem dX10_winds_35 : decode cX10_winds 35 = .ok (.iconst 0, 1) := by decide +kernel
theorem dX10_winds_36 : decode cX10_winds 36 = .ok (.istore_n 2, 1) := by decide +kernel
theorem dX10_winds_37 : decode cX10_winds 37 = .ok (.bipush (-4), 2) := by decide +kernel
theorem dX10_winds_39 : decode cX10_winds 39 = .ok (.istore_n 3, 1) := by decide +kernel
theorem dX10_winds_40 : decode cX10_winds 40 = .ok (.iconst 0, 1) := by decide +kernel
theorem dX10_winds_41 : decode cX10_winds 41 = .ok (.istore 4, 2) := by decide +kernel
theorem dX10_winds_43 : decode cX10_winds 43 = .ok (.iload 4, 2) := by decide +kernel
theorem dX10_winds_45 : decode cX10_winds 45 = .ok (.bipush 20, 2) := by decide +kernel
theorem dX10_winds_47 : decode cX10_winds 47 = .ok (.if_icmp .gt 38, 3) := by decide +kernel
theorem dX10_winds_50 : decode cX10_winds 50 = .ok (.aload_n 0, 1) := by decide +kernel
theorem dX10_winds_51 : decode cX10_winds 51 = .ok (.getfield 16, 3) := by decide +kernel
theorem dX10_winds_54 : decode cX10_winds 54 = .ok (.getfield 120, 3) := by decide +kernel
theorem dX10_winds_57 : decode cX10_winds 57 = .ok (.iconst 3, 1) := by decide +kernel
theorem dX10_winds_58 : decode cX10_winds 58 = .ok (.iload 4, 2) := by decide +kernel
theorem dX10_winds_60 : decode cX10_winds 60 = .ok (.iastore, 1) := by decide +kernel
theorem dX10_winds_61 : decode cX10_winds 61 = .ok (.aload_n 0, 1) := by decide +kernel
theorem dX10_winds_62 : decode cX10_winds 62 = .ok (.getfield 16, 3) := by decide +kernel
theorem dX10_winds_65 : decode cX10_winds 65 = .ok (.invokevirtual 196, 3) := by decide +kernel
theorem dX10_winds_68 : decode cX10_winds 68 = .ok (.bipush (-4), 2) := by decide +kernel
theorem dX10_winds_70 : decode cX10_winds 70 = .ok (.if_icmp .eq 9, 3) := by decide +kernel
theorem dX10_winds_73 : decode cX10_winds 73 = .ok (.iinc 2 1, 3) := by decide +kernel
theorem dX10_winds_76 : decode cX10_winds 76 = .ok (.iload 4, 2) := by decide +kernel
theorem dX10_winds_78 : decode cX10_winds 78 = .ok (.istore_n 3, 1) := by decide +kernel
theorem dX10_winds_79 : decode cX10_winds 79 = .ok (.iinc 4 1, 3) := by decide +kernel
theorem dX10_winds_82 : decode cX10_winds 82 = .ok (.goto (-39), 3) := by decide +kernel
theorem dX10_winds_85 : decode cX10_winds 85 = .ok (.iload_n 1, 1) := by decide +kernel
theorem dX10_winds_86 : decode cX10_winds 86 = .ok (.ifCond .ne 7, 3) := by decide +kernel
theorem dX10_winds_89 : decode cX10_winds 89 = .ok (.iload_n 2, 1) := by decide +kernel
theorem dX10_winds_90 : decode cX10_winds 90 = .ok (.goto 4, 3) := by decide +kernel
theorem dX10_winds_93 : decode cX10_winds 93 = .ok (.iload_n 3, 1) := by decide +kernel
theorem dX10_winds_94 : decode cX10_winds 94 = .ok (.ireturn, 1) := by decide +kernel
/-! X10 winds -/
def X10_winds_p79 (k43 : XS → Int32 → Int32 → Int32 → Int32 → Option (Int32 × XS)) (xs : XS) (v1 : Int32) (v2 : Int32) (v3 : Int32) (v4 : Int32) : Option (Int32 × XS) :=
    nm (v4 + (1 : Int32)) fun x_1 =>
    k43 xs v1 v2 v3 x_1
def X10_winds_p94 (xs : XS) (t0 : Int32) : Option (Int32 × XS) :=
    some (t0, xs)
def X10_winds_p85 (xs : XS) (v1 : Int32) (v2 : Int32) (v3 : Int32) : Option (Int32 × XS) :=
    if v1 = 0 then
      (X10_winds_p94 xs v2)
    else
    X10_winds_p94 xs v3
def X10_winds_p43 : Nat → XS → Int32 → Int32 → Int32 → Int32 → Option (Int32 × XS)
  | 0, _, _, _, _, _ => none
  | n + 1, xs, v1, v2, v3, v4 =>
    if (20 : Int32) < v4 then
      (X10_winds_p85 xs v1 v2 v3)
    else
    inr (3 : Int32) 7 <|
    nm (uT xs 1 (sA (xT xs 1) 3 (3 : Int32).toNatClampNeg v4)) fun xs_5 =>
    bnd (X8_fallToLaneAfter (xT xs_5 1)) fun y_6 st_7 =>
    nm (uT xs_5 1 st_7) fun xs_9 =>
    if y_6 = (-4 : Int32) then
      (X10_winds_p79 (fun xs v1 v2 v3 v4 => X10_winds_p43 n xs v1 v2 v3 v4) xs_9 v1 v2 v3 v4)
    else
    nm (v2 + (1 : Int32)) fun x_11 =>
    X10_winds_p79 (fun xs v1 v2 v3 v4 => X10_winds_p43 n xs v1 v2 v3 v4) xs_9 v1 x_11 v4 v4
theorem X10_winds_p43_s (n : Nat) (xs : XS) (v1 : Int32) (v2 : Int32) (v3 : Int32) (v4 : Int32) : X10_winds_p43 (n + 1) xs v1 v2 v3 v4 =
    (if (20 : Int32) < v4 then
      (X10_winds_p85 xs v1 v2 v3)
    else
    inr (3 : Int32) 7 <|
    nm (uT xs 1 (sA (xT xs 1) 3 (3 : Int32).toNatClampNeg v4)) fun xs_5 =>
    bnd (X8_fallToLaneAfter (xT xs_5 1)) fun y_6 st_7 =>
    nm (uT xs_5 1 st_7) fun xs_9 =>
    if y_6 = (-4 : Int32) then
      (X10_winds_p79 (fun xs v1 v2 v3 v4 => X10_winds_p43 n xs v1 v2 v3 v4) xs_9 v1 v2 v3 v4)
    else
    nm (v2 + (1 : Int32)) fun x_11 =>
    X10_winds_p79 (fun xs v1 v2 v3 v4 => X10_winds_p43 n xs v1 v2 v3 v4) xs_9 v1 x_11 v4 v4) := rfl
def X10_winds (xs : XS) (v1 : Int32) : Option (Int32 × XS) :=
    if v1 < 0 then
      (some ((-1 : Int32), xs))
    else
    if v1 ≤ (1 : Int32) then
      (bnd (X8_isDown (xT xs 0)) fun y_14 st_15 =>
      nm (uT xs 0 st_15) fun xs_17 =>
      if y_14 = 0 then
        (bnd (X8_takeFrom_1_0 xs_17) fun _ xs_19 =>
        X10_winds_p43 22 xs_19 v1 (0 : Int32) (-4 : Int32) (0 : Int32))
      else
      some ((-3 : Int32), xs_17))
    else
    some ((-1 : Int32), xs)
abbrev rmX10_winds : Room := { frames := 6, cells := 0, slots := 0, locals := 138 }
theorem hdX10_winds : yX10_winds.cls = RX10 ∧ yX10_winds.cls ≠ "java/lang/invoke/MethodHandle" ∧ yX10_winds.cls ≠ "java/lang/invoke/VarHandle" ∧ (parseMethodDescriptor yX10_winds.desc).map (fun d => d.parameters.length) = some 1 := by decide +kernel
set_option maxRecDepth 100000 in
set_option maxHeartbeats 8000000 in
theorem okX10_winds (z : Nat → Nat) (l : Launch) (D : va_G) (T : mT3) (b : Nat → Nat) {xa : XA} {xs : XS} {v1 : Int32} {r : Int32} {xs' : XS} (hR : xRel b xa xs) (heq : X10_winds xs v1 = some (r, xs')) : hXi xSub z l D T b yX10_winds wsX10_winds rmX10_winds [.ref (b 0), .int v1] xa xs r xs' := by
  refine xbody_i (plainFor_of_name (by decide)) rfl (Nat.le_of_ble_eq_true rfl) (fun p e s m args below meth c A Q hx hb hml hown hts hK hA hX hret ls hP hD hS hl => ?_)
  have hl : lv_has ls 5 [(0, .ref (b 0)), (1, .int v1)] := hl
  have hin10 : ∀ w ∈ wsX100, w ∈ wsX10_winds := by decide +kernel
  have hin8 : ∀ w ∈ wsX80, w ∈ wsX10_winds := by decide +kernel
  have f10 : (Cond.fieldLink RX10 10 RX10 (TX10 0).2.1 (TX10 0).2.2.1).before args s = true := hts (.fieldLink RX10 10 RX10 "now" "LLaidDownTheLane$Town;") (by decide +kernel)
  have f16 : (Cond.fieldLink RX10 16 RX10 (TX10 1).2.1 (TX10 1).2.2.1).before args s = true := hts (.fieldLink RX10 16 RX10 "trial" "LLaidDownTheLane$Town;") (by decide +kernel)
  have f120 : (Cond.fieldLink RX10 120 RX8 (TX8 3).2.1 (TX8 3).2.2.1).before args s = true := hts (.fieldLink RX10 120 RX8 "told" "[I") (by decide +kernel)
  obtain ⟨xa0, hxa0⟩ : ∃ z : XA, z = xa := ⟨_, rfl⟩
  rw [← hxa0] at hret
  have hU : xSub xa0 xa := by rw [hxa0]; exact xSub.rf
  clear hxa0
  have b79 : ∀ (k43 : XS → Int32 → Int32 → Int32 → Int32 → Option (Int32 × XS)) (hk43 : ∀ (xs : XS) (v1 : Int32) (v2 : Int32) (v3 : Int32) (v4 : Int32) (xa : XA) (H : Heap) (locs : List Loc) (ls : Array Slot), xRel b xa xs → xSub xa0 xa → va_P D vwCl (xW b T xa xs) H → va_D A (xW b T xa xs) → va_S A s.heap H locs → lv_has ls 5 [(0, .ref (b 0)), (1, .int v1), (2, .int v2), (3, .int v3), (4, .int v4)] → k43 xs v1 v2 v3 v4 = some (r, xs') → W p l e rmX10_winds s m args below meth c H locs 0 0 Q (F0 m 43 ls [])), ∀ (xs : XS) (v1 : Int32) (v2 : Int32) (v3 : Int32) (v4 : Int32) (xa : XA) (H : Heap) (locs : List Loc) (ls : Array Slot), xRel b xa xs → xSub xa0 xa → va_P D vwCl (xW b T xa xs) H → va_D A (xW b T xa xs) → va_S A s.heap H locs → lv_has ls 5 [(0, .ref (b 0)), (1, .int v1), (2, .int v2), (3, .int v3), (4, .int v4)] → X10_winds_p79 k43 xs v1 v2 v3 v4 = some (r, xs') → W p l e rmX10_winds s m args below meth c H locs 0 0 Q (F0 m 79 ls []) := by
    intro k43 hk43 xs v1 v2 v3 v4 xa H locs ls hR hU hP hD hS hl heq
    unfold X10_winds_p79 at heq
    obtain ⟨x_1, ex_1⟩ : ∃ y : Int32, y = v4 + (1 : Int32) := ⟨_, rfl⟩
    have heq := nm_h ex_1 heq
    refine lv_iinc (v := x_1) (lv' := [(4, .int x_1), (0, .ref (b 0)), (1, .int v1), (2, .int v2), (3, .int v3)]) hx hb dX10_winds_79 hl (k := 4) rfl (by rw [ex_1]; rfl) (by decide) rfl (fun ls hl => ?_)
    refine lv_goto (tgt := 43) hx hb dX10_winds_82 (by decide) ?_
    exact hk43 xs v1 v2 v3 x_1 xa H locs ls hR hU hP hD hS (lv_sub hl [1, 2, 3, 4, 0] rfl) heq
  have b94 : ∀ (xs : XS) (t0 : Int32) (xa : XA) (H : Heap) (locs : List Loc) (ls : Array Slot), xRel b xa xs → xSub xa0 xa → va_P D vwCl (xW b T xa xs) H → va_D A (xW b T xa xs) → va_S A s.heap H locs → lv_has ls 5 [] → X10_winds_p94 xs t0 = some (r, xs') → W p l e rmX10_winds s m args below meth c H locs 0 0 Q (F0 m 94 ls [.int t0]) := by
    intro xs t0 xa H locs ls hR hU hP hD hS hl heq
    unfold X10_winds_p94 at heq
    obtain ⟨heq, heq2⟩ := ret_h heq
    subst heq
    subst heq2
    exact hret 94 H locs ls xa hR hU hP hD hS rfl dX10_winds_94
  have b85 : ∀ (xs : XS) (v1 : Int32) (v2 : Int32) (v3 : Int32) (xa : XA) (H : Heap) (locs : List Loc) (ls : Array Slot), xRel b xa xs → xSub xa0 xa → va_P D vwCl (xW b T xa xs) H → va_D A (xW b T xa xs) → va_S A s.heap H locs → lv_has ls 5 [(1, .int v1), (2, .int v2), (3, .int v3)] → X10_winds_p85 xs v1 v2 v3 = some (r, xs') → W p l e rmX10_winds s m args below meth c H locs 0 0 Q (F0 m 85 ls []) := by
    intro xs v1 v2 v3 xa H locs ls hR hU hP hD hS hl heq
    unfold X10_winds_p85 at heq
    refine lv_iload_n hx hb dX10_winds_85 rfl (lv_at hl 0 rfl) ?_
    refine lv_if_ne (tgt := 93) hx hb dX10_winds_86 (by decide) (fun c_2 => ?_) (fun c_2 => ?_)
    · have heq := it_f c_2 heq
      refine lv_iload_n hx hb dX10_winds_93 rfl (lv_at hl 2 rfl) ?_
      exact b94 xs v3 xa H locs ls hR hU hP hD hS (lv_sub hl [] rfl) heq
    have heq := it_t c_2 heq
    refine lv_iload_n hx hb dX10_winds_89 rfl (lv_at hl 1 rfl) ?_
    refine lv_goto (tgt := 94) hx hb dX10_winds_90 (by decide) ?_
    exact b94 xs v2 xa H locs ls hR hU hP hD hS (lv_sub hl [] rfl) heq
  have b43 : ∀ (n : Nat), ∀ (xs : XS) (v1 : Int32) (v2 : Int32) (v3 : Int32) (v4 : Int32) (xa : XA) (H : Heap) (locs : List Loc) (ls : Array Slot), xRel b xa xs → xSub xa0 xa → va_P D vwCl (xW b T xa xs) H → va_D A (xW b T xa xs) → va_S A s.heap H locs → lv_has ls 5 [(0, .ref (b 0)), (1, .int v1), (2, .int v2), (3, .int v3), (4, .int v4)] → X10_winds_p43 n xs v1 v2 v3 v4 = some (r, xs') → W p l e rmX10_winds s m args below meth c H locs 0 0 Q (F0 m 43 ls []) := by
    intro n
    induction n with
    | zero => intro xs v1 v2 v3 v4 xa H locs ls hR hU hP hD hS hl heq; cases heq
    | succ n ih =>
      intro xs v1 v2 v3 v4 xa H locs ls hR hU hP hD hS hl heq
      rw [X10_winds_p43_s] at heq
      refine lv_iload hx hb dX10_winds_43 (lv_at hl 4 rfl) ?_
      refine lv_bipush (v := (20 : Int32)) hx hb dX10_winds_45 (by decide) ?_
      refine lv_icmp_gt (tgt := 85) hx hb dX10_winds_47 (by decide) (fun c_3 => ?_) (fun c_3 => ?_)
      · have heq := it_t c_3 heq
        exact b85 xs v1 v2 v3 xa H locs ls hR hU hP hD hS (lv_sub hl [1, 2, 3] rfl) heq
      have heq := it_f c_3 heq
      refine lv_aload_n hx hb dX10_winds_50 rfl (lv_at hl 0 rfl) ?_
      refine va_get (D := D) (ci := 10) (v := .ref (b 10)) (C := RX10) (T := TX10) (N := 7) hx hb hts hin10 hown hK hP 0 rfl rfl 1 (by decide) f16 (fun _ h9 => h9) rfl dX10_winds_51 ?_
      refine va_get (D := D) (ci := 8) (v := .ref (b 14)) (C := RX8) (T := TX8) (N := 10) hx hb hts hin8 hown hK hP 10 rfl rfl 3 (by decide) f120 (fun _ h9 => h9) rfl dX10_winds_54 ?_
      refine lv_iconst (v := (3 : Int32)) hx hb dX10_winds_57 (by decide) ?_
      refine lv_iload hx hb dX10_winds_58 (lv_at hl 4 rfl) ?_
      obtain ⟨n_4, heq⟩ := inr_h heq
      refine va_iast (f := gA (xT xs 1) 3) (n := 7) hx hb hK hP hD hS 14 0 rfl rfl n_4 dX10_winds_60 (fun H locs hP hD hS => ?_)
      obtain ⟨xs_5, exs_5⟩ : ∃ z, z = uT xs 1 (sA (xT xs 1) 3 (3 : Int32).toNatClampNeg v4) := ⟨_, rfl⟩
      have hP : va_P D vwCl (xW b T xa (uT xs 1 (sA (xT xs 1) 3 (3 : Int32).toNatClampNeg v4))) H := hP
      have hD : va_D A (xW b T xa (uT xs 1 (sA (xT xs 1) 3 (3 : Int32).toNatClampNeg v4))) := hD
      have hR : xRel b xa (uT xs 1 (sA (xT xs 1) 3 (3 : Int32).toNatClampNeg v4)) := hR.uT _ _
      rw [← exs_5] at hP hD hR
      have heq := nm_h exs_5 heq
      refine lv_aload_n hx hb dX10_winds_61 rfl (lv_at hl 0 rfl) ?_
      refine va_get (D := D) (ci := 10) (v := .ref (b 10)) (C := RX10) (T := TX10) (N := 7) hx hb hts hin10 hown hK hP 0 rfl rfl 1 (by decide) f16 (fun _ h9 => h9) rfl dX10_winds_62 ?_
      obtain ⟨y_6, st_7, h_8, heq⟩ := bnd_h heq
      refine h_vi (own := RX10) (As := []) (rest := []) (wr := xWr1 b T xa xs_5) hx hb hml hown hts (okX8_fallToLaneAfter z l D (fun j => b (10 + j)) T (fun j => some (xFo xa 1 j)) h_8) (cwV 0 hts gX10_winds_X8_fallToLaneAfter rfl rfl rfl hdX8_fallToLaneAfter ⟨Nat.le_of_ble_eq_true rfl, Nat.le_of_ble_eq_true rfl⟩) hK hA hX hP hD hS (xp1 b T xa xs_5) (xq1 b T xa xs_5 _) (ci := 8) (q0 := 0) rfl rfl rfl hl.1 rfl (Nat.le_of_ble_eq_true rfl) dX10_winds_65 ⟨Nat.le_of_ble_eq_true rfl, Nat.le_of_ble_eq_true rfl⟩ (fun H locs hP hD hS => ?_)
      obtain ⟨xs_9, exs_9⟩ : ∃ z, z = uT xs_5 1 st_7 := ⟨_, rfl⟩
      have hR : xRel b xa (uT xs_5 1 st_7) := hR.uT _ _
      rw [← exs_9] at hP hD hR
      have heq := nm_h exs_9 heq
      refine lv_bipush (v := (-4 : Int32)) hx hb dX10_winds_68 (by decide) ?_
      refine lv_icmp_eq (tgt := 79) hx hb dX10_winds_70 (by decide) (fun c_10 => ?_) (fun c_10 => ?_)
      · have heq := it_t c_10 heq
        exact b79 (fun xs v1 v2 v3 v4 => X10_winds_p43 n xs v1 v2 v3 v4) ih xs_9 v1 v2 v3 v4 xa H locs ls hR hU hP hD hS (lv_sub hl [0, 1, 2, 3, 4] rfl) heq
      have heq := it_f c_10 heq
      obtain ⟨x_11, ex_11⟩ : ∃ y : Int32, y = v2 + (1 : Int32) := ⟨_, rfl⟩
      have heq := nm_h ex_11 heq
      refine lv_iinc (v := x_11) (lv' := [(2, .int x_11), (0, .ref (b 0)), (1, .int v1), (3, .int v3), (4, .int v4)]) hx hb dX10_winds_73 hl (k := 2) rfl (by rw [ex_11]; rfl) (by decide) rfl (fun ls hl => ?_)
      refine lv_iload hx hb dX10_winds_76 (lv_at hl 4 rfl) ?_
      refine lv_istore_n (lv' := [(3, .int v4), (2, .int x_11), (0, .ref (b 0)), (1, .int v1), (4, .int v4)]) hx hb dX10_winds_78 rfl hl (by decide) rfl (fun ls hl => ?_)
      exact b79 (fun xs v1 v2 v3 v4 => X10_winds_p43 n xs v1 v2 v3 v4) ih xs_9 v1 x_11 v4 v4 xa H locs ls hR hU hP hD hS (lv_sub hl [2, 3, 1, 0, 4] rfl) heq
  obtain ⟨H, hH⟩ : ∃ H, H = s.heap := ⟨_, rfl⟩
  obtain ⟨locs, hlocs⟩ : ∃ z : List Loc, z = [] := ⟨_, rfl⟩
  have hS : va_S A s.heap H locs := by rw [hH, hlocs]; exact hS
  have hP : va_P D vwCl (xW b T xa xs) H := by rw [hH]; exact hP
  suffices h9 : W p l e rmX10_winds s m args below meth c H locs 0 0 Q (F0 m 0 ls []) by rw [hH, hlocs] at h9; exact h9
  clear hH hlocs
  unfold X10_winds at heq
  refine lv_iload_n hx hb dX10_winds_0 rfl (lv_at hl 1 rfl) ?_
  refine lv_if_lt (tgt := 9) hx hb dX10_winds_1 (by decide) (fun c_12 => ?_) (fun c_12 => ?_)
  · have heq := it_t c_12 heq
    refine lv_iconst (v := (-1 : Int32)) hx hb dX10_winds_9 (by decide) ?_
    obtain ⟨heq, heq2⟩ := ret_h heq
    subst heq
    subst heq2
    exact hret 10 H locs ls xa hR hU hP hD hS rfl dX10_winds_10
  have heq := it_f c_12 heq
  refine lv_iload_n hx hb dX10_winds_4 rfl (lv_at hl 1 rfl) ?_
  refine lv_iconst (v := (1 : Int32)) hx hb dX10_winds_5 (by decide) ?_
  refine lv_icmp_le (tgt := 11) hx hb dX10_winds_6 (by decide) (fun c_13 => ?_) (fun c_13 => ?_)
  · have heq := it_t c_13 heq
    refine lv_aload_n hx hb dX10_winds_11 rfl (lv_at hl 0 rfl) ?_
    refine va_get (D := D) (ci := 10) (v := .ref (b 3)) (C := RX10) (T := TX10) (N := 7) hx hb hts hin10 hown hK hP 0 rfl rfl 0 (by decide) f10 (fun _ h9 => h9) rfl dX10_winds_12 ?_
    obtain ⟨y_14, st_15, h_16, heq⟩ := bnd_h heq
    refine h_vi (own := RX10) (As := []) (rest := []) (wr := xWr0 b T xa xs) hx hb hml hown hts (okX8_isDown z l D (fun j => b (3 + j)) T (fun j => some (xFo xa 0 j)) h_16) (cwV 0 hts gX10_winds_X8_isDown rfl rfl rfl hdX8_isDown ⟨Nat.le_of_ble_eq_true rfl, Nat.le_of_ble_eq_true rfl⟩) hK hA hX hP hD hS (xp0 b T xa xs) (xq0 b T xa xs _) (ci := 8) (q0 := 0) rfl rfl rfl hl.1 rfl (Nat.le_of_ble_eq_true rfl) dX10_winds_15 ⟨Nat.le_of_ble_eq_true rfl, Nat.le_of_ble_eq_true rfl⟩ (fun H locs hP hD hS => ?_)
    obtain ⟨xs_17, exs_17⟩ : ∃ z, z = uT xs 0 st_15 := ⟨_, rfl⟩
    have hR : xRel b xa (uT xs 0 st_15) := hR.uT _ _
    rw [← exs_17] at hP hD hR
    have heq := nm_h exs_17 heq
    refine lv_if_eq (tgt := 24) hx hb dX10_winds_18 (by decide) (fun c_18 => ?_) (fun c_18 => ?_)
    · have heq := it_t c_18 heq
      refine lv_aload_n hx hb dX10_winds_24 rfl (lv_at hl 0 rfl) ?_
      refine va_get (D := D) (ci := 10) (v := .ref (b 10)) (C := RX10) (T := TX10) (N := 7) hx hb hts hin10 hown hK hP 0 rfl rfl 1 (by decide) f16 (fun _ h9 => h9) rfl dX10_winds_25 ?_
      refine lv_aload_n hx hb dX10_winds_28 rfl (lv_at hl 0 rfl) ?_
      refine va_get (D := D) (ci := 10) (v := .ref (b 3)) (C := RX10) (T := TX10) (N := 7) hx hb hts hin10 hown hK hP 0 rfl rfl 0 (by decide) f10 (fun _ h9 => h9) rfl dX10_winds_29 ?_
      obtain ⟨⟨⟩, xs_19, h_20, heq⟩ := bnd_h heq
      refine x_vv (own := RX10) (As := [.ref (b 3)]) (rest := []) hx hb hml hown hts (okX8_takeFrom_1_0 z l D T b hR h_20) (cwV 1 hts gX10_winds_X8_takeFrom rfl rfl rfl hdX8_takeFrom ⟨Nat.le_of_ble_eq_true rfl, Nat.le_of_ble_eq_true rfl⟩) hK hA hX hP hD hS (ci := 8) (q0 := 10) rfl rfl rfl hl.1 rfl (Nat.le_of_ble_eq_true rfl) dX10_winds_32 ⟨Nat.le_of_ble_eq_true rfl, Nat.le_of_ble_eq_true rfl⟩ (fun xa_21 H locs hR hsxa_21 hP hD hS => ?_)
      have hU := xSub.tr hU hsxa_21
      refine lv_iconst (v := (0 : Int32)) hx hb dX10_winds_35 (by decide) ?_
      refine lv_istore_n (lv' := [(2, .int (0 : Int32)), (0, .ref (b 0)), (1, .int v1)]) hx hb dX10_winds_36 rfl hl (by decide) rfl (fun ls hl => ?_)
      refine lv_bipush (v := (-4 : Int32)) hx hb dX10_winds_37 (by decide) ?_
      refine lv_istore_n (lv' := [(3, .int (-4 : Int32)), (2, .int (0 : Int32)), (0, .ref (b 0)), (1, .int v1)]) hx hb dX10_winds_39 rfl hl (by decide) rfl (fun ls hl => ?_)
      refine lv_iconst (v := (0 : Int32)) hx hb dX10_winds_40 (by decide) ?_
      refine lv_istore (lv' := [(4, .int (0 : Int32)), (3, .int (-4 : Int32)), (2, .int (0 : Int32)), (0, .ref (b 0)), (1, .int v1)]) hx hb dX10_winds_41 hl (by decide) rfl (fun ls hl => ?_)
      exact b43 22 xs_19 v1 (0 : Int32) (-4 : Int32) (0 : Int32) xa_21 H locs ls hR hU hP hD hS (lv_sub hl [3, 4, 2, 1, 0] rfl) heq
    have heq := it_f c_18 heq
    refine lv_bipush (v := (-3 : Int32)) hx hb dX10_winds_21 (by decide) ?_
    obtain ⟨heq, heq2⟩ := ret_h heq
    subst heq
    subst heq2
    exact hret 23 H locs ls xa hR hU hP hD hS rfl dX10_winds_23
  have heq := it_f c_13 heq
  refine lv_iconst (v := (-1 : Int32)) hx hb dX10_winds_9 (by decide) ?_
  obtain ⟨heq, heq2⟩ := ret_h heq
  subst heq
  subst heq2
  exact hret 10 H locs ls xa hR hU hP hD hS rfl dX10_winds_10
set_option maxRecDepth 20000 in
theorem ggX10_anyWind_X8_isDown : GoodIn wsX10_anyWind wsX8_isDown := goodIn_r _ [10, 11, 71, 72, 73, 74, 75, 76, 77, 78, 79, 80] (by decide +kernel) (by decide +kernel)
set_option maxRecDepth 20000 in
theorem gX10_anyWind_X8_isDown : GoodIn wsX10_anyWind (wsV RX10 116 RX8 yX8_isDown wsX8_isDown) := goodIn_app (goodIn_of _ (by decide +kernel)) ggX10_anyWind_X8_isDown
set_option maxRecDepth 20000 in
theorem ggX10_anyWind_X8_takeFrom : GoodIn wsX10_anyWind wsX8_takeFrom := goodIn_r _ [15, 16, 17, 18, 19, 20, 21, 22, 23, 24, 11, 71, 72, 73, 74, 75, 76, 77, 78, 79, 80] (by decide +kernel) (by decide +kernel)
set_option maxRecDepth 20000 in
theorem gX10_anyWind_X8_takeFrom : GoodIn wsX10_anyWind (wsV RX10 59 RX8 yX8_takeFrom wsX8_takeFrom) := goodIn_app (goodIn_of _ (by decide +kernel)) ggX10_anyWind_X8_takeFrom
set_option maxRecDepth 20000 in
theorem ggX10_anyWind_X8_fallToLaneAfter : GoodIn wsX10_anyWind wsX8_fallToLaneAfter := goodIn_r _ [28, 24, 19, 29, 30, 31, 9, 32, 33, 34, 35, 36, 18, 37, 38, 39, 40, 41, 42, 43, 44, 45, 46, 47, 48, 49, 50, 51, 52, 53, 54, 55, 56, 57, 58, 59, 17, 71, 72, 73, 74, 75, 76, 77, 78, 79, 80] (by decide +kernel) (by decide +kernel)
set_option maxRecDepth 20000 in
theorem gX10_anyWind_X8_fallToLaneAfter : GoodIn wsX10_anyWind (wsV RX10 196 RX8 yX8_fallToLaneAfter wsX8_fallToLaneAfter) := goodIn_app (goodIn_of _ (by decide +kernel)) ggX10_anyWind_X8_fallToLaneAfter
set_option maxRecDepth 20000 in
theorem ggX10_anyWind_X10_partOf : GoodIn wsX10_anyWind wsX10_partOf := goodIn_r _ [63] (by decide +kernel) (by decide +kernel)
set_option maxRecDepth 20000 in
theorem gX10_anyWind_X10_partOf : GoodIn wsX10_anyWind (va_wsS RX10 203 yX10_partOf wsX10_partOf) := goodIn_app (goodIn_of _ (by decide +kernel)) ggX10_anyWind_X10_partOf
theorem dX10_anyWind_0 : decode cX10_anyWind 0 = .ok (.iload_n 1, 1) := by decide +kernel
theorem dX10_anyWind_1 : decode cX10_anyWind 1 = .ok (.ifCond .lt 8, 3) := by decide +kernel
theorem dX10_anyWind_4 : decode cX10_anyWind 4 = .ok (.iload_n 1, 1) := by decide +kernel
theorem dX10_anyWind_5 : decode cX10_anyWind 5 = .ok (.iconst 1, 1) := by decide +kernel
theorem dX10_anyWind_6 : decode cX10_anyWind 6 = .ok (.if_icmp .le 7, 3) := by decide +kernel
theorem dX10_anyWind_9 : decode cX10_anyWind 9 = .ok (.ldc2_w 199, 3) := by decide +kernel
theorem dX10_anyWind_12 : decode cX10_anyWind 12 = .ok (.lreturn, 1) := by decide +kernel
theorem dX10_anyWind_13 : decode cX10_anyWind 13 = .ok (.aload_n 0, 1) := by decide +kernel
theorem dX10_anyWind_14 : decode cX10_anyWind 14 = .ok (.getfield 10, 3) := by decide +kernel
theorem dX10_anyWind_17 : decode cX10_anyWind 17 = .ok (.invokevirtual 116, 3) := by decide +kernel
theorem dX10_anyWind_20 : decode cX10_anyWind 20 = .ok (.ifCond .eq 7, 3) := by decide +kernel
theorem dX10_anyWind_23 : decode cX10_anyWind 23 = .ok (.ldc2_w 201, 3) := by decide +kernel
theorem dX10_anyWind_26 : decode cX10_anyWind 26 = .ok (.lreturn, 1) := by decide +kernel
theorem dX10_anyWind_27 : decode cX10_anyWind 27 = .ok (.aload_n 0, 1) := by decide +kernel
theorem dX10_anyWind_28 : decode cX10_anyWind 28 = .ok (.getfield 16, 3) := by decide +kernel
theorem dX10_anyWind_31 : decode cX10_anyWind 31 = .ok (.aload_n 0, 1) := by decide +kernel
theorem dX10_anyWind_32 : decode cX10_anyWind 32 = .ok (.getfield 10, 3) := by decide +kernel
theorem dX10_anyWind_35 : decode cX10_anyWind 35 = .ok (.invokevirtual 59, 3) := by decide +kernel
theorem dX10_anyWind_38 : decode cX10_anyWind 38 = .ok (.iconst 0, 1) := by decide +kernel
theorem dX10_anyWind_39 : decode cX10_anyWind 39 = .ok (.istore_n 2, 1) := by decide +kernel
theorem dX10_anyWind_40 : decode cX10_anyWind 40 = .ok (.iconst 0, 1) := by decide +kernel
theorem dX10_anyWind_41 : decode cX10_anyWind 41 = .ok (.istore_n 3, 1) := by decide +kernel
theorem dX10_anyWind_42 : decode cX10_anyWind 42 = .ok (.iload_n 3, 1) := by decide +kernel
theorem dX10_anyWind_43 : decode cX10_anyWind 43 = .ok (.bipush 12, 2) := by decide +kernel
theorem dX10_anyWind_45 : decode cX10_anyWind 45 = .ok (.if_icmp .ge 34, 3) := by decide +kernel
theorem dX10_anyWind_48 : decode cX10_anyWind 48 = .ok (.aload_n 0, 1) := by decide +kernel
theorem dX10_anyWind_49 : decode cX10_anyWind 49 = .ok (.getfield 16, 3) := by decide +kernel
theorem dX10_anyWind_52 : decode cX10_anyWind 52 = .ok (.getfield 120, 3) := by decide +kernel
theorem dX10_anyWind_55 : decode cX10_anyWind 55 = .ok (.iconst 2, 1) := by decide +kernel
theorem dX10_anyWind_56 : decode cX10_anyWind 56 = .ok (.iload_n 3, 1) := by decide +kernel
theorem dX10_anyWind_57 : decode cX10_anyWind 57 = .ok (.iastore, 1) := by decide +kernel
theorem dX10_anyWind_58 : decode cX10_anyWind 58 = .ok (.aload_n 0, 1) := by decide +kernel
theorem dX10_anyWind_59 : decode cX10_anyWind 59 = .ok (.getfield 16, 3) := by decide +kernel
theorem dX10_anyWind_62 : decode cX10_anyWind 62 = .ok (.invokevirtual 196, 3) := by decide +kernel
theorem dX10_anyWind_65 : decode cX10_anyWind 65 = .ok (.bipush (-4), 2) := by decide +kernel
theorem dX10_anyWind_67 : decode cX10_anyWind 67 = .ok (.if_icmp .eq 6, 3) := by decide +kernel
theorem dX10_anyWind_70 : decode cX10_anyWind 70 = .ok (.iinc 2 1, 3) := by decide +kernel
theorem dX10_anyWind_73 : decode cX10_anyWind 73 = .ok (.iinc 3 1, 3) := by decide +kernel
theorem dX10_anyWind_76 : decode cX10_anyWind 76 = .ok (.goto (-34), 3) := by decide +kernel
theorem dX10_anyWind_79 : decode cX10_anyWind 79 = .ok (.iload_n 2, 1) := by decide +kernel
theorem dX10_anyWind_80 : decode cX10_anyWind 80 = .ok (.bipush 12, 2) := by decide +kernel
theorem dX10_anyWind_82 : decode cX10_anyWind 82 = .ok (.iload_n 1, 1) := by decide +kernel
theorem dX10_anyWind_83 : decode cX10_anyWind 83 = .ok (.invokestatic 203, 3) := by decide +kernel
theorem dX10_anyWind_86 : decode cX10_anyWind 86 = .ok (.lreturn, 1) := by decide +kernel
/-! X10 anyWind -/
def X10_anyWind_p9 (xs : XS) : Option (Int64 × XS) :=
    some ((-1000000001 : Int64), xs)
def X10_anyWind_p73 (k42 : XS → Int32 → Int32 → Int32 → Option (Int64 × XS)) (xs : XS) (v1 : Int32) (v2 : Int32) (v3 : Int32) : Option (Int64 × XS) :=
    nm (v3 + (1 : Int32)) fun x_1 =>
    k42 xs v1 v2 x_1
def X10_anyWind_p79 (xs : XS) (v1 : Int32) (v2 : Int32) : Option (Int64 × XS) :=
    bd1 (X10_partOf v2 (12 : Int32) v1) fun y_2 =>
    some (y_2, xs)
def X10_anyWind_p42 : Nat → XS → Int32 → Int32 → Int32 → Option (Int64 × XS)
  | 0, _, _, _, _ => none
  | n + 1, xs, v1, v2, v3 =>
    if (12 : Int32) ≤ v3 then
      (X10_anyWind_p79 xs v1 v2)
    else
    inr (2 : Int32) 7 <|
    nm (uT xs 1 (sA (xT xs 1) 3 (2 : Int32).toNatClampNeg v3)) fun xs_6 =>
    bnd (X8_fallToLaneAfter (xT xs_6 1)) fun y_7 st_8 =>
    nm (uT xs_6 1 st_8) fun xs_10 =>
    if y_7 = (-4 : Int32) then
      (X10_anyWind_p73 (fun xs v1 v2 v3 => X10_anyWind_p42 n xs v1 v2 v3) xs_10 v1 v2 v3)
    else
    nm (v2 + (1 : Int32)) fun x_12 =>
    X10_anyWind_p73 (fun xs v1 v2 v3 => X10_anyWind_p42 n xs v1 v2 v3) xs_10 v1 x_12 v3
theorem X10_anyWind_p42_s (n : Nat) (xs : XS) (v1 : Int32) (v2 : Int32) (v3 : Int32) : X10_anyWind_p42 (n + 1) xs v1 v2 v3 =
    (if (12 : Int32) ≤ v3 then
      (X10_anyWind_p79 xs v1 v2)
    else
    inr (2 : Int32) 7 <|
    nm (uT xs 1 (sA (xT xs 1) 3 (2 : Int32).toNatClampNeg v3)) fun xs_6 =>
    bnd (X8_fallToLaneAfter (xT xs_6 1)) fun y_7 st_8 =>
    nm (uT xs_6 1 st_8) fun xs_10 =>
    if y_7 = (-4 : Int32) then
      (X10_anyWind_p73 (fun xs v1 v2 v3 => X10_anyWind_p42 n xs v1 v2 v3) xs_10 v1 v2 v3)
    else
    nm (v2 + (1 : Int32)) fun x_12 =>
    X10_anyWind_p73 (fun xs v1 v2 v3 => X10_anyWind_p42 n xs v1 v2 v3) xs_10 v1 x_12 v3) := rfl
def X10_anyWind (xs : XS) (v1 : Int32) : Option (Int64 × XS) :=
    if v1 < 0 then
      (X10_anyWind_p9 xs)
    else
    if v1 ≤ (1 : Int32) then
      (bnd (X8_isDown (xT xs 0)) fun y_15 st_16 =>
      nm (uT xs 0 st_16) fun xs_18 =>
      if y_15 = 0 then
        (bnd (X8_takeFrom_1_0 xs_18) fun _ xs_20 =>
        X10_anyWind_p42 13 xs_20 v1 (0 : Int32) (0 : Int32))
      else
      some ((-1000000003 : Int64), xs_18))
    else
    X10_anyWind_p9 xs
abbrev rmX10_anyWind : Room := { frames := 6, cells := 0, slots := 0, locals := 138 }
theorem hdX10_anyWind : yX10_anyWind.cls = RX10 ∧ yX10_anyWind.cls ≠ "java/lang/invoke/MethodHandle" ∧ yX10_anyWind.cls ≠ "java/lang/invoke/VarHandle" ∧ (parseMethodDescriptor yX10_anyWind.desc).map (fun d => d.parameters.length) = some 1 := by decide +kernel
set_option maxRecDepth 100000 in
set_option maxHeartbeats 8000000 in
theorem okX10_anyWind (z : Nat → Nat) (l : Launch) (D : va_G) (T : mT3) (b : Nat → Nat) {xa : XA} {xs : XS} {v1 : Int32} {r : Int64} {xs' : XS} (hR : xRel b xa xs) (heq : X10_anyWind xs v1 = some (r, xs')) : hXl xSub z l D T b yX10_anyWind wsX10_anyWind rmX10_anyWind [.ref (b 0), .int v1] xa xs r xs' := by
  refine xbody_l (plainFor_of_name (by decide)) rfl (Nat.le_of_ble_eq_true rfl) (fun p e s m args below meth c A Q hx hb hml hown hts hK hA hX hret ls hP hD hS hl => ?_)
  have hl : lv_has ls 4 [(0, .ref (b 0)), (1, .int v1)] := hl
  have hin10 : ∀ w ∈ wsX100, w ∈ wsX10_anyWind := by decide +kernel
  have hin8 : ∀ w ∈ wsX80, w ∈ wsX10_anyWind := by decide +kernel
  have f10 : (Cond.fieldLink RX10 10 RX10 (TX10 0).2.1 (TX10 0).2.2.1).before args s = true := hts (.fieldLink RX10 10 RX10 "now" "LLaidDownTheLane$Town;") (by decide +kernel)
  have f16 : (Cond.fieldLink RX10 16 RX10 (TX10 1).2.1 (TX10 1).2.2.1).before args s = true := hts (.fieldLink RX10 16 RX10 "trial" "LLaidDownTheLane$Town;") (by decide +kernel)
  have f120 : (Cond.fieldLink RX10 120 RX8 (TX8 3).2.1 (TX8 3).2.2.1).before args s = true := hts (.fieldLink RX10 120 RX8 "told" "[I") (by decide +kernel)
  have c199 := hts (.constantLong RX10 199 (-1000000001)) (by decide +kernel)
  have c201 := hts (.constantLong RX10 201 (-1000000003)) (by decide +kernel)
  obtain ⟨xa0, hxa0⟩ : ∃ z : XA, z = xa := ⟨_, rfl⟩
  rw [← hxa0] at hret
  have hU : xSub xa0 xa := by rw [hxa0]; exact xSub.rf
  clear hxa0
  have b9 : ∀ (xs : XS) (xa : XA) (H : Heap) (locs : List Loc) (ls : Array Slot), xRel b xa xs → xSub xa0 xa → va_P D vwCl (xW b T xa xs) H → va_D A (xW b T xa xs) → va_S A s.heap H locs → lv_has ls 4 [] → X10_anyWind_p9 xs = some (r, xs') → W p l e rmX10_anyWind s m args below meth c H locs 0 0 Q (F0 m 9 ls []) := by
    intro xs xa H locs ls hR hU hP hD hS hl heq
    unfold X10_anyWind_p9 at heq
    refine lv_ldc2 (v := (-1000000001 : Int64)) hx hb hown c199 dX10_anyWind_9 ?_
    obtain ⟨heq, heq2⟩ := ret_h heq
    subst heq
    subst heq2
    exact hret 12 H locs ls xa hR hU hP hD hS dX10_anyWind_12
  have b73 : ∀ (k42 : XS → Int32 → Int32 → Int32 → Option (Int64 × XS)) (hk42 : ∀ (xs : XS) (v1 : Int32) (v2 : Int32) (v3 : Int32) (xa : XA) (H : Heap) (locs : List Loc) (ls : Array Slot), xRel b xa xs → xSub xa0 xa → va_P D vwCl (xW b T xa xs) H → va_D A (xW b T xa xs) → va_S A s.heap H locs → lv_has ls 4 [(0, .ref (b 0)), (1, .int v1), (2, .int v2), (3, .int v3)] → k42 xs v1 v2 v3 = some (r, xs') → W p l e rmX10_anyWind s m args below meth c H locs 0 0 Q (F0 m 42 ls [])), ∀ (xs : XS) (v1 : Int32) (v2 : Int32) (v3 : Int32) (xa : XA) (H : Heap) (locs : List Loc) (ls : Array Slot), xRel b xa xs → xSub xa0 xa → va_P D vwCl (xW b T xa xs) H → va_D A (xW b T xa xs) → va_S A s.heap H locs → lv_has ls 4 [(0, .ref (b 0)), (1, .int v1), (2, .int v2), (3, .int v3)] → X10_anyWind_p73 k42 xs v1 v2 v3 = some (r, xs') → W p l e rmX10_anyWind s m args below meth c H locs 0 0 Q (F0 m 73 ls []) := by
    intro k42 hk42 xs v1 v2 v3 xa H locs ls hR hU hP hD hS hl heq
    unfold X10_anyWind_p73 at heq
    obtain ⟨x_1, ex_1⟩ : ∃ y : Int32, y = v3 + (1 : Int32) := ⟨_, rfl⟩
    have heq := nm_h ex_1 heq
    refine lv_iinc (v := x_1) (lv' := [(3, .int x_1), (0, .ref (b 0)), (1, .int v1), (2, .int v2)]) hx hb dX10_anyWind_73 hl (k := 3) rfl (by rw [ex_1]; rfl) (by decide) rfl (fun ls hl => ?_)
    refine lv_goto (tgt := 42) hx hb dX10_anyWind_76 (by decide) ?_
    exact hk42 xs v1 v2 x_1 xa H locs ls hR hU hP hD hS (lv_sub hl [1, 2, 3, 0] rfl) heq
  have b79 : ∀ (xs : XS) (v1 : Int32) (v2 : Int32) (xa : XA) (H : Heap) (locs : List Loc) (ls : Array Slot), xRel b xa xs → xSub xa0 xa → va_P D vwCl (xW b T xa xs) H → va_D A (xW b T xa xs) → va_S A s.heap H locs → lv_has ls 4 [(1, .int v1), (2, .int v2)] → X10_anyWind_p79 xs v1 v2 = some (r, xs') → W p l e rmX10_anyWind s m args below meth c H locs 0 0 Q (F0 m 79 ls []) := by
    intro xs v1 v2 xa H locs ls hR hU hP hD hS hl heq
    unfold X10_anyWind_p79 at heq
    refine lv_iload_n hx hb dX10_anyWind_79 rfl (lv_at hl 1 rfl) ?_
    refine lv_bipush (v := (12 : Int32)) hx hb dX10_anyWind_80 (by decide) ?_
    refine lv_iload_n hx hb dX10_anyWind_82 rfl (lv_at hl 0 rfl) ?_
    obtain ⟨y_2, h_3, heq⟩ := bd1_h heq
    refine h_sl (own := RX10) (As := [.int v2, .int (12 : Int32), .int v1]) (rest := []) (w0 := []) (w1 := []) (wr := xW b T xa xs) hx hb hml hown hts (okX10_partOf z l D h_3) (va_cwS 3 hts gX10_anyWind_X10_partOf rfl rfl rfl (hdX10_partOf).2 ⟨Nat.le_of_ble_eq_true rfl, Nat.le_of_ble_eq_true rfl⟩) (hK.sub [] rfl) hA hX hP hD hS (List.Perm.refl _) (List.Perm.refl _) rfl hl.1 rfl (Nat.le_of_ble_eq_true rfl) dX10_anyWind_83 ⟨Nat.le_of_ble_eq_true rfl, Nat.le_of_ble_eq_true rfl⟩ (fun H locs hP hD hS => ?_)
    obtain ⟨heq, heq2⟩ := ret_h heq
    subst heq
    subst heq2
    exact hret 86 H locs ls xa hR hU hP hD hS dX10_anyWind_86
  have b42 : ∀ (n : Nat), ∀ (xs : XS) (v1 : Int32) (v2 : Int32) (v3 : Int32) (xa : XA) (H : Heap) (locs : List Loc) (ls : Array Slot), xRel b xa xs → xSub xa0 xa → va_P D vwCl (xW b T xa xs) H → va_D A (xW b T xa xs) → va_S A s.heap H locs → lv_has ls 4 [(0, .ref (b 0)), (1, .int v1), (2, .int v2), (3, .int v3)] → X10_anyWind_p42 n xs v1 v2 v3 = some (r, xs') → W p l e rmX10_anyWind s m args below meth c H locs 0 0 Q (F0 m 42 ls []) := by
    intro n
    induction n with
    | zero => intro xs v1 v2 v3 xa H locs ls hR hU hP hD hS hl heq; cases heq
    | succ n ih =>
      intro xs v1 v2 v3 xa H locs ls hR hU hP hD hS hl heq
      rw [X10_anyWind_p42_s] at heq
      refine lv_iload_n hx hb dX10_anyWind_42 rfl (lv_at hl 3 rfl) ?_
      refine lv_bipush (v := (12 : Int32)) hx hb dX10_anyWind_43 (by decide) ?_
      refine lv_icmp_ge (tgt := 79) hx hb dX10_anyWind_45 (by decide) (fun c_4 => ?_) (fun c_4 => ?_)
      · have heq := it_t c_4 heq
        exact b79 xs v1 v2 xa H locs ls hR hU hP hD hS (lv_sub hl [1, 2] rfl) heq
      have heq := it_f c_4 heq
      refine lv_aload_n hx hb dX10_anyWind_48 rfl (lv_at hl 0 rfl) ?_
      refine va_get (D := D) (ci := 10) (v := .ref (b 10)) (C := RX10) (T := TX10) (N := 7) hx hb hts hin10 hown hK hP 0 rfl rfl 1 (by decide) f16 (fun _ h9 => h9) rfl dX10_anyWind_49 ?_
      refine va_get (D := D) (ci := 8) (v := .ref (b 14)) (C := RX8) (T := TX8) (N := 10) hx hb hts hin8 hown hK hP 10 rfl rfl 3 (by decide) f120 (fun _ h9 => h9) rfl dX10_anyWind_52 ?_
      refine lv_iconst (v := (2 : Int32)) hx hb dX10_anyWind_55 (by decide) ?_
      refine lv_iload_n hx hb dX10_anyWind_56 rfl (lv_at hl 3 rfl) ?_
      obtain ⟨n_5, heq⟩ := inr_h heq
      refine va_iast (f := gA (xT xs 1) 3) (n := 7) hx hb hK hP hD hS 14 0 rfl rfl n_5 dX10_anyWind_57 (fun H locs hP hD hS => ?_)
      obtain ⟨xs_6, exs_6⟩ : ∃ z, z = uT xs 1 (sA (xT xs 1) 3 (2 : Int32).toNatClampNeg v3) := ⟨_, rfl⟩
      have hP : va_P D vwCl (xW b T xa (uT xs 1 (sA (xT xs 1) 3 (2 : Int32).toNatClampNeg v3))) H := hP
      have hD : va_D A (xW b T xa (uT xs 1 (sA (xT xs 1) 3 (2 : Int32).toNatClampNeg v3))) := hD
      have hR : xRel b xa (uT xs 1 (sA (xT xs 1) 3 (2 : Int32).toNatClampNeg v3)) := hR.uT _ _
      rw [← exs_6] at hP hD hR
      have heq := nm_h exs_6 heq
      refine lv_aload_n hx hb dX10_anyWind_58 rfl (lv_at hl 0 rfl) ?_
      refine va_get (D := D) (ci := 10) (v := .ref (b 10)) (C := RX10) (T := TX10) (N := 7) hx hb hts hin10 hown hK hP 0 rfl rfl 1 (by decide) f16 (fun _ h9 => h9) rfl dX10_anyWind_59 ?_
      obtain ⟨y_7, st_8, h_9, heq⟩ := bnd_h heq
      refine h_vi (own := RX10) (As := []) (rest := []) (wr := xWr1 b T xa xs_6) hx hb hml hown hts (okX8_fallToLaneAfter z l D (fun j => b (10 + j)) T (fun j => some (xFo xa 1 j)) h_9) (cwV 0 hts gX10_anyWind_X8_fallToLaneAfter rfl rfl rfl hdX8_fallToLaneAfter ⟨Nat.le_of_ble_eq_true rfl, Nat.le_of_ble_eq_true rfl⟩) hK hA hX hP hD hS (xp1 b T xa xs_6) (xq1 b T xa xs_6 _) (ci := 8) (q0 := 0) rfl rfl rfl hl.1 rfl (Nat.le_of_ble_eq_true rfl) dX10_anyWind_62 ⟨Nat.le_of_ble_eq_true rfl, Nat.le_of_ble_eq_true rfl⟩ (fun H locs hP hD hS => ?_)
      obtain ⟨xs_10, exs_10⟩ : ∃ z, z = uT xs_6 1 st_8 := ⟨_, rfl⟩
      have hR : xRel b xa (uT xs_6 1 st_8) := hR.uT _ _
      rw [← exs_10] at hP hD hR
      have heq := nm_h exs_10 heq
      refine lv_bipush (v := (-4 : Int32)) hx hb dX10_anyWind_65 (by decide) ?_
      refine lv_icmp_eq (tgt := 73) hx hb dX10_anyWind_67 (by decide) (fun c_11 => ?_) (fun c_11 => ?_)
      · have heq := it_t c_11 heq
        exact b73 (fun xs v1 v2 v3 => X10_anyWind_p42 n xs v1 v2 v3) ih xs_10 v1 v2 v3 xa H locs ls hR hU hP hD hS (lv_sub hl [0, 1, 2, 3] rfl) heq
      have heq := it_f c_11 heq
      obtain ⟨x_12, ex_12⟩ : ∃ y : Int32, y = v2 + (1 : Int32) := ⟨_, rfl⟩
      have heq := nm_h ex_12 heq
      refine lv_iinc (v := x_12) (lv' := [(2, .int x_12), (0, .ref (b 0)), (1, .int v1), (3, .int v3)]) hx hb dX10_anyWind_70 hl (k := 2) rfl (by rw [ex_12]; rfl) (by decide) rfl (fun ls hl => ?_)
      exact b73 (fun xs v1 v2 v3 => X10_anyWind_p42 n xs v1 v2 v3) ih xs_10 v1 x_12 v3 xa H locs ls hR hU hP hD hS (lv_sub hl [1, 2, 0, 3] rfl) heq
  obtain ⟨H, hH⟩ : ∃ H, H = s.heap := ⟨_, rfl⟩
  obtain ⟨locs, hlocs⟩ : ∃ z : List Loc, z = [] := ⟨_, rfl⟩
  have hS : va_S A s.heap H locs := by rw [hH, hlocs]; exact hS
  have hP : va_P D vwCl (xW b T xa xs) H := by rw [hH]; exact hP
  suffices h9 : W p l e rmX10_anyWind s m args below meth c H locs 0 0 Q (F0 m 0 ls []) by rw [hH, hlocs] at h9; exact h9
  clear hH hlocs
  unfold X10_anyWind at heq
  refine lv_iload_n hx hb dX10_anyWind_0 rfl (lv_at hl 1 rfl) ?_
  refine lv_if_lt (tgt := 9) hx hb dX10_anyWind_1 (by decide) (fun c_13 => ?_) (fun c_13 => ?_)
  · have heq := it_t c_13 heq
    exact b9 xs xa H locs ls hR hU hP hD hS (lv_sub hl [] rfl) heq
  have heq := it_f c_13 heq
  refine lv_iload_n hx hb dX10_anyWind_4 rfl (lv_at hl 1 rfl) ?_
  refine lv_iconst (v := (1 : Int32)) hx hb dX10_anyWind_5 (by decide) ?_
  refine lv_icmp_le (tgt := 13) hx hb dX10_anyWind_6 (by decide) (fun c_14 => ?_) (fun c_14 => ?_)
  · have heq := it_t c_14 heq
    refine lv_aload_n hx hb dX10_anyWind_13 rfl (lv_at hl 0 rfl) ?_
    refine va_get (D := D) (ci := 10) (v := .ref (b 3)) (C := RX10) (T := TX10) (N := 7) hx hb hts hin10 hown hK hP 0 rfl rfl 0 (by decide) f10 (fun _ h9 => h9) rfl dX10_anyWind_14 ?_
    obtain ⟨y_15, st_16, h_17, heq⟩ := bnd_h heq
    refine h_vi (own := RX10) (As := []) (rest := []) (wr := xWr0 b T xa xs) hx hb hml hown hts (okX8_isDown z l D (fun j => b (3 + j)) T (fun j => some (xFo xa 0 j)) h_17) (cwV 0 hts gX10_anyWind_X8_isDown rfl rfl rfl hdX8_isDown ⟨Nat.le_of_ble_eq_true rfl, Nat.le_of_ble_eq_true rfl⟩) hK hA hX hP hD hS (xp0 b T xa xs) (xq0 b T xa xs _) (ci := 8) (q0 := 0) rfl rfl rfl hl.1 rfl (Nat.le_of_ble_eq_true rfl) dX10_anyWind_17 ⟨Nat.le_of_ble_eq_true rfl, Nat.le_of_ble_eq_true rfl⟩ (fun H locs hP hD hS => ?_)
    obtain ⟨xs_18, exs_18⟩ : ∃ z, z = uT xs 0 st_16 := ⟨_, rfl⟩
    have hR : xRel b xa (uT xs 0 st_16) := hR.uT _ _
    rw [← exs_18] at hP hD hR
    have heq := nm_h exs_18 heq
    refine lv_if_eq (tgt := 27) hx hb dX10_anyWind_20 (by decide) (fun c_19 => ?_) (fun c_19 => ?_)
    · have heq := it_t c_19 heq
      refine lv_aload_n hx hb dX10_anyWind_27 rfl (lv_at hl 0 rfl) ?_
      refine va_get (D := D) (ci := 10) (v := .ref (b 10)) (C := RX10) (T := TX10) (N := 7) hx hb hts hin10 hown hK hP 0 rfl rfl 1 (by decide) f16 (fun _ h9 => h9) rfl dX10_anyWind_28 ?_
      refine lv_aload_n hx hb dX10_anyWind_31 rfl (lv_at hl 0 rfl) ?_
      refine va_get (D := D) (ci := 10) (v := .ref (b 3)) (C := RX10) (T := TX10) (N := 7) hx hb hts hin10 hown hK hP 0 rfl rfl 0 (by decide) f10 (fun _ h9 => h9) rfl dX10_anyWind_32 ?_
      obtain ⟨⟨⟩, xs_20, h_21, heq⟩ := bnd_h heq
      refine x_vv (own := RX10) (As := [.ref (b 3)]) (rest := []) hx hb hml hown hts (okX8_takeFrom_1_0 z l D T b hR h_21) (cwV 1 hts gX10_anyWind_X8_takeFrom rfl rfl rfl hdX8_takeFrom ⟨Nat.le_of_ble_eq_true rfl, Nat.le_of_ble_eq_true rfl⟩) hK hA hX hP hD hS (ci := 8) (q0 := 10) rfl rfl rfl hl.1 rfl (Nat.le_of_ble_eq_true rfl) dX10_anyWind_35 ⟨Nat.le_of_ble_eq_true rfl, Nat.le_of_ble_eq_true rfl⟩ (fun xa_22 H locs hR hsxa_22 hP hD hS => ?_)
      have hU := xSub.tr hU hsxa_22
      refine lv_iconst (v := (0 : Int32)) hx hb dX10_anyWind_38 (by decide) ?_
      refine lv_istore_n (lv' := [(2, .int (0 : Int32)), (0, .ref (b 0)), (1, .int v1)]) hx hb dX10_anyWind_39 rfl hl (by decide) rfl (fun ls hl => ?_)
      refine lv_iconst (v := (0 : Int32)) hx hb dX10_anyWind_40 (by decide) ?_
      refine lv_istore_n (lv' := [(3, .int (0 : Int32)), (2, .int (0 : Int32)), (0, .ref (b 0)), (1, .int v1)]) hx hb dX10_anyWind_41 rfl hl (by decide) rfl (fun ls hl => ?_)
      exact b42 13 xs_20 v1 (0 : Int32) (0 : Int32) xa_22 H locs ls hR hU hP hD hS (lv_sub hl [2, 3, 1, 0] rfl) heq
    have heq := it_f c_19 heq
    refine lv_ldc2 (v := (-1000000003 : Int64)) hx hb hown c201 dX10_anyWind_23 ?_
    obtain ⟨heq, heq2⟩ := ret_h heq
    subst heq
    subst heq2
    exact hret 26 H locs ls xa hR hU hP hD hS dX10_anyWind_26
  have heq := it_f c_14 heq
  exact b9 xs xa H locs ls hR hU hP hD hS (lv_sub hl [] rfl) heq
theorem dX10_burnUnlike_0 : decode cX10_burnUnlike 0 = .ok (.iload_n 1, 1) := by decide +kernel
theorem dX10_burnUnlike_1 : decode cX10_burnUnlike 1 = .ok (.istore_n 2, 1) := by decide +kernel
theorem dX10_burnUnlike_2 : decode cX10_burnUnlike 2 = .ok (.iconst 0, 1) := by decide +kernel
theorem dX10_burnUnlike_3 : decode cX10_burnUnlike 3 = .ok (.istore_n 3, 1) := by decide +kernel
theorem dX10_burnUnlike_4 : decode cX10_burnUnlike 4 = .ok (.iload_n 3, 1) := by decide +kernel
theorem dX10_burnUnlike_5 : decode cX10_burnUnlike 5 = .ok (.bipush 12, 2) := by decide +kernel
theorem dX10_burnUnlike_7 : decode cX10_burnUnlike 7 = .ok (.if_icmp .ge 63, 3) := by decide +kernel
theorem dX10_burnUnlike_10 : decode cX10_burnUnlike 10 = .ok (.aload_n 0, 1) := by decide +kernel
theorem dX10_burnUnlike_11 : decode cX10_burnUnlike 11 = .ok (.getfield 10, 3) := by decide +kernel
theorem dX10_burnUnlike_14 : decode cX10_burnUnlike 14 = .ok (.getfield 100, 3) := by decide +kernel
theorem dX10_burnUnlike_17 : decode cX10_burnUnlike 17 = .ok (.iload_n 3, 1) := by decide +kernel
theorem dX10_burnUnlike_18 : decode cX10_burnUnlike 18 = .ok (.iaload, 1) := by decide +kernel
theorem dX10_burnUnlike_19 : decode cX10_burnUnlike 19 = .ok (.bipush (-4), 2) := by decide +kernel
theorem dX10_burnUnlike_21 : decode cX10_burnUnlike 21 = .ok (.if_icmp .eq 43, 3) := by decide +kernel
theorem dX10_burnUnlike_24 : decode cX10_burnUnlike 24 = .ok (.aload_n 0, 1) := by decide +kernel
theorem dX10_burnUnlike_25 : decode cX10_burnUnlike 25 = .ok (.getfield 16, 3) := by decide +kernel
theorem dX10_burnUnlike_28 : decode cX10_burnUnlike 28 = .ok (.getfield 100, 3) := by decide +kernel
theorem dX10_burnUnlike_31 : decode cX10_burnUnlike 31 = .ok (.iload_n 3, 1) := by decide +kernel
theorem dX10_burnUnlike_32 : decode cX10_burnUnlike 32 = .ok (.aload_n 0, 1) := by decide +kernel
theorem dX10_burnUnlike_33 : decode cX10_burnUnlike 33 = .ok (.getfield 10, 3) := by decide +kernel
theorem dX10_burnUnlike_36 : decode cX10_burnUnlike 36 = .ok (.getfield 100, 3) := by decide +kernel
theorem dX10_burnUnlike_39 : decode cX10_burnUnlike 39 = .ok (.iload_n 3, 1) := by decide +kernel
theorem dX10_burnUnlike_40 : decode cX10_burnUnlike 40 = .ok (.iaload, 1) := by decide +kernel
theorem dX10_burnUnlike_41 : decode cX10_burnUnlike 41 = .ok (.iload_n 2, 1) := by decide +kernel
theorem dX10_burnUnlike_42 : decode cX10_burnUnlike 42 = .ok (.iconst 3, 1) := by decide +kernel
theorem dX10_burnUnlike_43 : decode cX10_burnUnlike 43 = .ok (.irem, 1) := by decide +kernel
theorem dX10_burnUnlike_44 : decode cX10_burnUnlike 44 = .ok (.iconst 1, 1) := by decide +kernel
theorem dX10_burnUnlike_45 : decode cX10_burnUnlike 45 = .ok (.isub, 1) := by decide +kernel
theorem dX10_burnUnlike_46 : decode cX10_burnUnlike 46 = .ok (.aload_n 0, 1) := by decide +kernel
theorem dX10_burnUnlike_47 : decode cX10_burnUnlike 47 = .ok (.getfield 10, 3) := by decide +kernel
theorem dX10_burnUnlike_50 : decode cX10_burnUnlike 50 = .ok (.getfield 100, 3) := by decide +kernel
theorem dX10_burnUnlike_53 : decode cX10_burnUnlike 53 = .ok (.iload_n 3, 1) := by decide +kernel
theorem dX10_burnUnlike_54 : decode cX10_burnUnlike 54 = .ok (.iaload, 1) := by decide +kernel
theorem dX10_burnUnlike_55 : decode cX10_burnUnlike 55 = .ok (.iconst 3, 1) := by decide +kernel
theorem dX10_burnUnlike_56 : decode cX10_burnUnlike 56 = .ok (.idiv, 1) := by decide +kernel
theorem dX10_burnUnlike_57 : decode cX10_burnUnlike 57 = .ok (.imul, 1) := by decide +kernel
theorem dX10_burnUnlike_58 : decode cX10_burnUnlike 58 = .ok (.iadd, 1) := by decide +kernel
theorem dX10_burnUnlike_59 : decode cX10_burnUnlike 59 = .ok (.iastore, 1) := by decide +kernel
theorem dX10_burnUnlike_60 : decode cX10_burnUnlike 60 = .ok (.iload_n 2, 1) := by decide +kernel
theorem dX10_burnUnlike_61 : decode cX10_burnUnlike 61 = .ok (.iconst 3, 1) := by decide +kernel
theorem dX10_burnUnlike_62 : decode cX10_burnUnlike 62 = .ok (.idiv, 1) := by decide +kernel
theorem dX10_burnUnlike_63 : decode cX10_burnUnlike 63 = .ok (.istore_n 2, 1) := by decide +kernel
theorem dX10_burnUnlike_64 : decode cX10_burnUnlike 64 = .ok (.iinc 3 1, 3) := by decide +kernel
theorem dX10_burnUnlike_67 : decode cX10_burnUnlike 67 = .ok (.goto (-63), 3) := by decide +kernel
theorem dX10_burnUnlike_70 : decode cX10_burnUnlike 70 = .ok (.return_, 1) := by decide +kernel
/-! X10 burnUnlike -/
def X10_burnUnlike_p64 (k4 : XS → Int32 → Int32 → Option (Unit × XS)) (xs : XS) (v2 : Int32) (v3 : Int32) : Option (Unit × XS) :=
    nm (v3 + (1 : Int32)) fun x_1 =>
    k4 xs v2 x_1
def X10_burnUnlike_p70 (xs : XS) : Option (Unit × XS) :=
    some ((), xs)
def X10_burnUnlike_p4 : Nat → XS → Int32 → Int32 → Option (Unit × XS)
  | 0, _, _, _ => none
  | n + 1, xs, v2, v3 =>
    if (12 : Int32) ≤ v3 then
      (X10_burnUnlike_p70 xs)
    else
    inr v3 12 <|
    if (gA (xT xs 0) 2 v3.toNatClampNeg) = (-4 : Int32) then
      (X10_burnUnlike_p64 (fun xs v2 v3 => X10_burnUnlike_p4 n xs v2 v3) xs v2 v3)
    else
    inr v3 12 <|
    dvi (3 : Int32) <|
    inr v3 12 <|
    dvi (3 : Int32) <|
    inr v3 12 <|
    nm (uT xs 1 (sA (xT xs 1) 2 v3.toNatClampNeg ((gA (xT xs 0) 2 v3.toNatClampNeg) + (((v2 - v2 / (3 : Int32) * (3 : Int32)) - (1 : Int32)) * ((gA (xT xs 0) 2 v3.toNatClampNeg) / (3 : Int32)))))) fun xs_10 =>
    dvi (3 : Int32) <|
    nm ((v2 / (3 : Int32))) fun x_12 =>
    X10_burnUnlike_p64 (fun xs v2 v3 => X10_burnUnlike_p4 n xs v2 v3) xs_10 x_12 v3
theorem X10_burnUnlike_p4_s (n : Nat) (xs : XS) (v2 : Int32) (v3 : Int32) : X10_burnUnlike_p4 (n + 1) xs v2 v3 =
    (if (12 : Int32) ≤ v3 then
      (X10_burnUnlike_p70 xs)
    else
    inr v3 12 <|
    if (gA (xT xs 0) 2 v3.toNatClampNeg) = (-4 : Int32) then
      (X10_burnUnlike_p64 (fun xs v2 v3 => X10_burnUnlike_p4 n xs v2 v3) xs v2 v3)
    else
    inr v3 12 <|
    dvi (3 : Int32) <|
    inr v3 12 <|
    dvi (3 : Int32) <|
    inr v3 12 <|
    nm (uT xs 1 (sA (xT xs 1) 2 v3.toNatClampNeg ((gA (xT xs 0) 2 v3.toNatClampNeg) + (((v2 - v2 / (3 : Int32) * (3 : Int32)) - (1 : Int32)) * ((gA (xT xs 0) 2 v3.toNatClampNeg) / (3 : Int32)))))) fun xs_10 =>
    dvi (3 : Int32) <|
    nm ((v2 / (3 : Int32))) fun x_12 =>
    X10_burnUnlike_p64 (fun xs v2 v3 => X10_burnUnlike_p4 n xs v2 v3) xs_10 x_12 v3) := rfl
def X10_burnUnlike (xs : XS) (v1 : Int32) : Option (Unit × XS) :=
    X10_burnUnlike_p4 13 xs v1 (0 : Int32)
abbrev rmX10_burnUnlike : Room := { frames := 0, cells := 0, slots := 0, locals := 0 }
theorem hdX10_burnUnlike : yX10_burnUnlike.cls = RX10 ∧ yX10_burnUnlike.cls ≠ "java/lang/invoke/MethodHandle" ∧ yX10_burnUnlike.cls ≠ "java/lang/invoke/VarHandle" ∧ (parseMethodDescriptor yX10_burnUnlike.desc).map (fun d => d.parameters.length) = some 1 := by decide +kernel
set_option maxRecDepth 100000 in
set_option maxHeartbeats 8000000 in
theorem okX10_burnUnlike (z : Nat → Nat) (l : Launch) (D : va_G) (T : mT3) (b : Nat → Nat) {xa : XA} {xs : XS} {v1 : Int32} {xs' : XS} (hR : xRel b xa xs) (heq : X10_burnUnlike xs v1 = some ((), xs')) : hXv xSub z l D T b yX10_burnUnlike wsX10_burnUnlike rmX10_burnUnlike [.ref (b 0), .int v1] xa xs xs' := by
  refine xbody_v (plainFor_of_name (by decide)) rfl (Nat.le_of_ble_eq_true rfl) (fun p e s m args below meth c A Q hx hb hml hown hts hK hA hX hret ls hP hD hS hl => ?_)
  have hl : lv_has ls 4 [(0, .ref (b 0)), (1, .int v1)] := hl
  have hin10 : ∀ w ∈ wsX100, w ∈ wsX10_burnUnlike := by decide +kernel
  have hin8 : ∀ w ∈ wsX80, w ∈ wsX10_burnUnlike := by decide +kernel
  have f10 : (Cond.fieldLink RX10 10 RX10 (TX10 0).2.1 (TX10 0).2.2.1).before args s = true := hts (.fieldLink RX10 10 RX10 "now" "LLaidDownTheLane$Town;") (by decide +kernel)
  have f16 : (Cond.fieldLink RX10 16 RX10 (TX10 1).2.1 (TX10 1).2.2.1).before args s = true := hts (.fieldLink RX10 16 RX10 "trial" "LLaidDownTheLane$Town;") (by decide +kernel)
  have f100 : (Cond.fieldLink RX10 100 RX8 (TX8 2).2.1 (TX8 2).2.2.1).before args s = true := hts (.fieldLink RX10 100 RX8 "burns" "[I") (by decide +kernel)
  obtain ⟨xa0, hxa0⟩ : ∃ z : XA, z = xa := ⟨_, rfl⟩
  rw [← hxa0] at hret
  have hU : xSub xa0 xa := by rw [hxa0]; exact xSub.rf
  clear hxa0
  have b64 : ∀ (k4 : XS → Int32 → Int32 → Option (Unit × XS)) (hk4 : ∀ (xs : XS) (v2 : Int32) (v3 : Int32) (xa : XA) (H : Heap) (locs : List Loc) (ls : Array Slot), xRel b xa xs → xSub xa0 xa → va_P D vwCl (xW b T xa xs) H → va_D A (xW b T xa xs) → va_S A s.heap H locs → lv_has ls 4 [(0, .ref (b 0)), (2, .int v2), (3, .int v3)] → k4 xs v2 v3 = some ((), xs') → W p l e rmX10_burnUnlike s m args below meth c H locs 0 0 Q (F0 m 4 ls [])), ∀ (xs : XS) (v2 : Int32) (v3 : Int32) (xa : XA) (H : Heap) (locs : List Loc) (ls : Array Slot), xRel b xa xs → xSub xa0 xa → va_P D vwCl (xW b T xa xs) H → va_D A (xW b T xa xs) → va_S A s.heap H locs → lv_has ls 4 [(0, .ref (b 0)), (2, .int v2), (3, .int v3)] → X10_burnUnlike_p64 k4 xs v2 v3 = some ((), xs') → W p l e rmX10_burnUnlike s m args below meth c H locs 0 0 Q (F0 m 64 ls []) := by
    intro k4 hk4 xs v2 v3 xa H locs ls hR hU hP hD hS hl heq
    unfold X10_burnUnlike_p64 at heq
    obtain ⟨x_1, ex_1⟩ : ∃ y : Int32, y = v3 + (1 : Int32) := ⟨_, rfl⟩
    have heq := nm_h ex_1 heq
    refine lv_iinc (v := x_1) (lv' := [(3, .int x_1), (0, .ref (b 0)), (2, .int v2)]) hx hb dX10_burnUnlike_64 hl (k := 2) rfl (by rw [ex_1]; rfl) (by decide) rfl (fun ls hl => ?_)
    refine lv_goto (tgt := 4) hx hb dX10_burnUnlike_67 (by decide) ?_
    exact hk4 xs v2 x_1 xa H locs ls hR hU hP hD hS (lv_sub hl [1, 2, 0] rfl) heq
  have b70 : ∀ (xs : XS) (xa : XA) (H : Heap) (locs : List Loc) (ls : Array Slot), xRel b xa xs → xSub xa0 xa → va_P D vwCl (xW b T xa xs) H → va_D A (xW b T xa xs) → va_S A s.heap H locs → lv_has ls 4 [] → X10_burnUnlike_p70 xs = some ((), xs') → W p l e rmX10_burnUnlike s m args below meth c H locs 0 0 Q (F0 m 70 ls []) := by
    intro xs xa H locs ls hR hU hP hD hS hl heq
    unfold X10_burnUnlike_p70 at heq
    obtain ⟨-, heq2⟩ := ret_h heq
    subst heq2
    exact hret 70 H locs ls xa hR hU hP hD hS dX10_burnUnlike_70
  have b4 : ∀ (n : Nat), ∀ (xs : XS) (v2 : Int32) (v3 : Int32) (xa : XA) (H : Heap) (locs : List Loc) (ls : Array Slot), xRel b xa xs → xSub xa0 xa → va_P D vwCl (xW b T xa xs) H → va_D A (xW b T xa xs) → va_S A s.heap H locs → lv_has ls 4 [(0, .ref (b 0)), (2, .int v2), (3, .int v3)] → X10_burnUnlike_p4 n xs v2 v3 = some ((), xs') → W p l e rmX10_burnUnlike s m args below meth c H locs 0 0 Q (F0 m 4 ls []) := by
    intro n
    induction n with
    | zero => intro xs v2 v3 xa H locs ls hR hU hP hD hS hl heq; cases heq
    | succ n ih =>
      intro xs v2 v3 xa H locs ls hR hU hP hD hS hl heq
      rw [X10_burnUnlike_p4_s] at heq
      refine lv_iload_n hx hb dX10_burnUnlike_4 rfl (lv_at hl 2 rfl) ?_
      refine lv_bipush (v := (12 : Int32)) hx hb dX10_burnUnlike_5 (by decide) ?_
      refine lv_icmp_ge (tgt := 70) hx hb dX10_burnUnlike_7 (by decide) (fun c_2 => ?_) (fun c_2 => ?_)
      · have heq := it_t c_2 heq
        exact b70 xs xa H locs ls hR hU hP hD hS (lv_sub hl [] rfl) heq
      have heq := it_f c_2 heq
      refine lv_aload_n hx hb dX10_burnUnlike_10 rfl (lv_at hl 0 rfl) ?_
      refine va_get (D := D) (ci := 10) (v := .ref (b 3)) (C := RX10) (T := TX10) (N := 7) hx hb hts hin10 hown hK hP 0 rfl rfl 0 (by decide) f10 (fun _ h9 => h9) rfl dX10_burnUnlike_11 ?_
      refine va_get (D := D) (ci := 8) (v := .ref (b 6)) (C := RX8) (T := TX8) (N := 10) hx hb hts hin8 hown hK hP 3 rfl rfl 2 (by decide) f100 (fun _ h9 => h9) rfl dX10_burnUnlike_14 ?_
      refine lv_iload_n hx hb dX10_burnUnlike_17 rfl (lv_at hl 2 rfl) ?_
      obtain ⟨n_3, heq⟩ := inr_h heq
      refine va_iald (f := gA (xT xs 0) 2) (n := 12) hx hb hK hP 6 0 rfl rfl n_3 dX10_burnUnlike_18 ?_
      refine lv_bipush (v := (-4 : Int32)) hx hb dX10_burnUnlike_19 (by decide) ?_
      refine lv_icmp_eq (tgt := 64) hx hb dX10_burnUnlike_21 (by decide) (fun c_4 => ?_) (fun c_4 => ?_)
      · have heq := it_t c_4 heq
        exact b64 (fun xs v2 v3 => X10_burnUnlike_p4 n xs v2 v3) ih xs v2 v3 xa H locs ls hR hU hP hD hS (lv_sub hl [0, 1, 2] rfl) heq
      have heq := it_f c_4 heq
      refine lv_aload_n hx hb dX10_burnUnlike_24 rfl (lv_at hl 0 rfl) ?_
      refine va_get (D := D) (ci := 10) (v := .ref (b 10)) (C := RX10) (T := TX10) (N := 7) hx hb hts hin10 hown hK hP 0 rfl rfl 1 (by decide) f16 (fun _ h9 => h9) rfl dX10_burnUnlike_25 ?_
      refine va_get (D := D) (ci := 8) (v := .ref (b 13)) (C := RX8) (T := TX8) (N := 10) hx hb hts hin8 hown hK hP 10 rfl rfl 2 (by decide) f100 (fun _ h9 => h9) rfl dX10_burnUnlike_28 ?_
      refine lv_iload_n hx hb dX10_burnUnlike_31 rfl (lv_at hl 2 rfl) ?_
      refine lv_aload_n hx hb dX10_burnUnlike_32 rfl (lv_at hl 0 rfl) ?_
      refine va_get (D := D) (ci := 10) (v := .ref (b 3)) (C := RX10) (T := TX10) (N := 7) hx hb hts hin10 hown hK hP 0 rfl rfl 0 (by decide) f10 (fun _ h9 => h9) rfl dX10_burnUnlike_33 ?_
      refine va_get (D := D) (ci := 8) (v := .ref (b 6)) (C := RX8) (T := TX8) (N := 10) hx hb hts hin8 hown hK hP 3 rfl rfl 2 (by decide) f100 (fun _ h9 => h9) rfl dX10_burnUnlike_36 ?_
      refine lv_iload_n hx hb dX10_burnUnlike_39 rfl (lv_at hl 2 rfl) ?_
      obtain ⟨n_5, heq⟩ := inr_h heq
      refine va_iald (f := gA (xT xs 0) 2) (n := 12) hx hb hK hP 6 0 rfl rfl n_5 dX10_burnUnlike_40 ?_
      refine lv_iload_n hx hb dX10_burnUnlike_41 rfl (lv_at hl 1 rfl) ?_
      refine lv_iconst (v := (3 : Int32)) hx hb dX10_burnUnlike_42 (by decide) ?_
      obtain ⟨n_6, heq⟩ := dvi_h heq
      refine lv_irem hx hb dX10_burnUnlike_43 n_6 ?_
      refine lv_iconst (v := (1 : Int32)) hx hb dX10_burnUnlike_44 (by decide) ?_
      refine lv_isub hx hb dX10_burnUnlike_45 ?_
      refine lv_aload_n hx hb dX10_burnUnlike_46 rfl (lv_at hl 0 rfl) ?_
      refine va_get (D := D) (ci := 10) (v := .ref (b 3)) (C := RX10) (T := TX10) (N := 7) hx hb hts hin10 hown hK hP 0 rfl rfl 0 (by decide) f10 (fun _ h9 => h9) rfl dX10_burnUnlike_47 ?_
      refine va_get (D := D) (ci := 8) (v := .ref (b 6)) (C := RX8) (T := TX8) (N := 10) hx hb hts hin8 hown hK hP 3 rfl rfl 2 (by decide) f100 (fun _ h9 => h9) rfl dX10_burnUnlike_50 ?_
      refine lv_iload_n hx hb dX10_burnUnlike_53 rfl (lv_at hl 2 rfl) ?_
      obtain ⟨n_7, heq⟩ := inr_h heq
      refine va_iald (f := gA (xT xs 0) 2) (n := 12) hx hb hK hP 6 0 rfl rfl n_7 dX10_burnUnlike_54 ?_
      refine lv_iconst (v := (3 : Int32)) hx hb dX10_burnUnlike_55 (by decide) ?_
      obtain ⟨n_8, heq⟩ := dvi_h heq
      refine lv_idiv hx hb dX10_burnUnlike_56 n_8 ?_
      refine lv_imul hx hb dX10_burnUnlike_57 ?_
      refine lv_iadd hx hb dX10_burnUnlike_58 ?_
      obtain ⟨n_9, heq⟩ := inr_h heq
      refine va_iast (f := gA (xT xs 1) 2) (n := 12) hx hb hK hP hD hS 13 0 rfl rfl n_9 dX10_burnUnlike_59 (fun H locs hP hD hS => ?_)
      obtain ⟨xs_10, exs_10⟩ : ∃ z, z = uT xs 1 (sA (xT xs 1) 2 v3.toNatClampNeg ((gA (xT xs 0) 2 v3.toNatClampNeg) + (((v2 - v2 / (3 : Int32) * (3 : Int32)) - (1 : Int32)) * ((gA (xT xs 0) 2 v3.toNatClampNeg) / (3 : Int32))))) := ⟨_, rfl⟩
      have hP : va_P D vwCl (xW b T xa (uT xs 1 (sA (xT xs 1) 2 v3.toNatClampNeg ((gA (xT xs 0) 2 v3.toNatClampNeg) + (((v2 - v2 / (3 : Int32) * (3 : Int32)) - (1 : Int32)) * ((gA (xT xs 0) 2 v3.toNatClampNeg) / (3 : Int32))))))) H := hP
      have hD : va_D A (xW b T xa (uT xs 1 (sA (xT xs 1) 2 v3.toNatClampNeg ((gA (xT xs 0) 2 v3.toNatClampNeg) + (((v2 - v2 / (3 : Int32) * (3 : Int32)) - (1 : Int32)) * ((gA (xT xs 0) 2 v3.toNatClampNeg) / (3 : Int32))))))) := hD
      have hR : xRel b xa (uT xs 1 (sA (xT xs 1) 2 v3.toNatClampNeg ((gA (xT xs 0) 2 v3.toNatClampNeg) + (((v2 - v2 / (3 : Int32) * (3 : Int32)) - (1 : Int32)) * ((gA (xT xs 0) 2 v3.toNatClampNeg) / (3 : Int32)))))) := hR.uT _ _
      rw [← exs_10] at hP hD hR
      have heq := nm_h exs_10 heq
      refine lv_iload_n hx hb dX10_burnUnlike_60 rfl (lv_at hl 1 rfl) ?_
      refine lv_iconst (v := (3 : Int32)) hx hb dX10_burnUnlike_61 (by decide) ?_
      obtain ⟨n_11, heq⟩ := dvi_h heq
      refine lv_idiv hx hb dX10_burnUnlike_62 n_11 ?_
      refine lv_topi (fun x_12 ex_12 => ?_)
      have heq := nm_h ex_12 heq
      refine lv_istore_n (lv' := [(2, .int x_12), (0, .ref (b 0)), (3, .int v3)]) hx hb dX10_burnUnlike_63 rfl hl (by decide) rfl (fun ls hl => ?_)
      exact b64 (fun xs v2 v3 => X10_burnUnlike_p4 n xs v2 v3) ih xs_10 x_12 v3 xa H locs ls hR hU hP hD hS (lv_sub hl [1, 0, 2] rfl) heq
  obtain ⟨H, hH⟩ : ∃ H, H = s.heap := ⟨_, rfl⟩
  obtain ⟨locs, hlocs⟩ : ∃ z : List Loc, z = [] := ⟨_, rfl⟩
  have hS : va_S A s.heap H locs := by rw [hH, hlocs]; exact hS
  have hP : va_P D vwCl (xW b T xa xs) H := by rw [hH]; exact hP
  suffices h9 : W p l e rmX10_burnUnlike s m args below meth c H locs 0 0 Q (F0 m 0 ls []) by rw [hH, hlocs] at h9; exact h9
  clear hH hlocs
  unfold X10_burnUnlike at heq
  refine lv_iload_n hx hb dX10_burnUnlike_0 rfl (lv_at hl 1 rfl) ?_
  refine lv_istore_n (lv' := [(2, .int v1), (0, .ref (b 0)), (1, .int v1)]) hx hb dX10_burnUnlike_1 rfl hl (by decide) rfl (fun ls hl => ?_)
  refine lv_iconst (v := (0 : Int32)) hx hb dX10_burnUnlike_2 (by decide) ?_
  refine lv_istore_n (lv' := [(3, .int (0 : Int32)), (2, .int v1), (0, .ref (b 0)), (1, .int v1)]) hx hb dX10_burnUnlike_3 rfl hl (by decide) rfl (fun ls hl => ?_)
  exact b4 13 xs v1 (0 : Int32) xa H locs ls hR hU hP hD hS (lv_sub hl [2, 1, 0] rfl) heq
set_option maxRecDepth 20000 in
theorem ggX10_unlike_X8_countBurning : GoodIn wsX10_unlike wsX8_countBurning := goodIn_r _ [9, 10, 79, 80, 81, 82, 83, 84, 85, 86, 87, 88] (by decide +kernel) (by decide +kernel)
set_option maxRecDepth 20000 in
theorem gX10_unlike_X8_countBurning : GoodIn wsX10_unlike (wsV RX10 138 RX8 yX8_countBurning wsX8_countBurning) := goodIn_app (goodIn_of _ (by decide +kernel)) ggX10_unlike_X8_countBurning
set_option maxRecDepth 20000 in
theorem ggX10_unlike_X8_isDown : GoodIn wsX10_unlike wsX8_isDown := goodIn_r _ [14, 15, 79, 80, 81, 82, 83, 84, 85, 86, 87, 88] (by decide +kernel) (by decide +kernel)
set_option maxRecDepth 20000 in
theorem gX10_unlike_X8_isDown : GoodIn wsX10_unlike (wsV RX10 116 RX8 yX8_isDown wsX8_isDown) := goodIn_app (goodIn_of _ (by decide +kernel)) ggX10_unlike_X8_isDown
set_option maxRecDepth 20000 in
theorem ggX10_unlike_X8_takeFrom : GoodIn wsX10_unlike wsX8_takeFrom := goodIn_r _ [19, 20, 21, 10, 22, 23, 24, 25, 26, 27, 15, 79, 80, 81, 82, 83, 84, 85, 86, 87, 88] (by decide +kernel) (by decide +kernel)
set_option maxRecDepth 20000 in
theorem gX10_unlike_X8_takeFrom : GoodIn wsX10_unlike (wsV RX10 59 RX8 yX8_takeFrom wsX8_takeFrom) := goodIn_app (goodIn_of _ (by decide +kernel)) ggX10_unlike_X8_takeFrom
set_option maxRecDepth 20000 in
theorem ggX10_unlike_X10_burnUnlike : GoodIn wsX10_unlike wsX10_burnUnlike := goodIn_r _ [32, 2, 33, 4, 72, 73, 74, 75, 76, 77, 78, 79, 80, 81, 82, 83, 84, 85, 86, 87, 88] (by decide +kernel) (by decide +kernel)
set_option maxRecDepth 20000 in
theorem gX10_unlike_X10_burnUnlike : GoodIn wsX10_unlike (wsV RX10 207 RX10 yX10_burnUnlike wsX10_burnUnlike) := goodIn_app (goodIn_of _ (by decide +kernel)) ggX10_unlike_X10_burnUnlike
set_option maxRecDepth 20000 in
theorem ggX10_unlike_X8_fallToLaneAfter : GoodIn wsX10_unlike wsX8_fallToLaneAfter := goodIn_r _ [37, 27, 22, 38, 39, 40, 8, 41, 42, 43, 44, 45, 10, 46, 47, 48, 49, 50, 51, 52, 53, 54, 55, 56, 57, 58, 59, 60, 61, 62, 63, 64, 65, 66, 67, 68, 21, 79, 80, 81, 82, 83, 84, 85, 86, 87, 88] (by decide +kernel) (by decide +kernel)
set_option maxRecDepth 20000 in
theorem gX10_unlike_X8_fallToLaneAfter : GoodIn wsX10_unlike (wsV RX10 196 RX8 yX8_fallToLaneAfter wsX8_fallToLaneAfter) := goodIn_app (goodIn_of _ (by decide +kernel)) ggX10_unlike_X8_fallToLaneAfter
set_option maxRecDepth 20000 in
theorem ggX10_unlike_X10_partOf : GoodIn wsX10_unlike wsX10_partOf := goodIn_r _ [71] (by decide +kernel) (by decide +kernel)
set_option maxRecDepth 20000 in
theorem gX10_unlike_X10_partOf : GoodIn wsX10_unlike (va_wsS RX10 203 yX10_partOf wsX10_partOf) := goodIn_app (goodIn_of _ (by decide +kernel)) ggX10_unlike_X10_partOf
theorem dX10_unlike_0 : decode cX10_unlike 0 = .ok (.iload_n 1, 1) := by decide +kernel
theorem dX10_unlike_1 : decode cX10_unlike 1 = .ok (.ifCond .lt 8, 3) := by decide +kernel
theorem dX10_unlike_4 : decode cX10_unlike 4 = .ok (.iload_n 1, 1) := by decide +kernel
theorem dX10_unlike_5 : decode cX10_unlike 5 = .ok (.iconst 1, 1) := by decide +kernel
theorem dX10_unlike_6 : decode cX10_unlike 6 = .ok (.if_icmp .le 7, 3) := by decide +kernel
theorem dX10_unlike_9 : decode cX10_unlike 9 = .ok (.ldc2_w 199, 3) := by decide +kernel
theorem dX10_unlike_12 : decode cX10_unlike 12 = .ok (.lreturn, 1) := by decide +kernel
theorem dX10_unlike_13 : decode cX10_unlike 13 = .ok (.aload_n 0, 1) := by decide +kernel
theorem dX10_unlike_14 : decode cX10_unlike 14 = .ok (.getfield 10, 3) := by decide +kernel
theorem dX10_unlike_17 : decode cX10_unlike 17 = .ok (.invokevirtual 138, 3) := by decide +kernel
theorem dX10_unlike_20 : decode cX10_unlike 20 = .ok (.istore_n 2, 1) := by decide +kernel
theorem dX10_unlike_21 : decode cX10_unlike 21 = .ok (.aload_n 0, 1) := by decide +kernel
theorem dX10_unlike_22 : decode cX10_unlike 22 = .ok (.getfield 10, 3) := by decide +kernel
theorem dX10_unlike_25 : decode cX10_unlike 25 = .ok (.invokevirtual 116, 3) := by decide +kernel
theorem dX10_unlike_28 : decode cX10_unlike 28 = .ok (.ifCond .ne 9, 3) := by decide +kernel
theorem dX10_unlike_31 : decode cX10_unlike 31 = .ok (.iload_n 2, 1) := by decide +kernel
theorem dX10_unlike_32 : decode cX10_unlike 32 = .ok (.bipush 6, 2) := by decide +kernel
theorem dX10_unlike_34 : decode cX10_unlike 34 = .ok (.if_icmp .le 7, 3) := by decide +kernel
theorem dX10_unlike_37 : decode cX10_unlike 37 = .ok (.ldc2_w 201, 3) := by decide +kernel
theorem dX10_unlike_40 : decode cX10_unlike 40 = .ok (.lreturn, 1) := by decide +kernel
theorem dX10_unlike_41 : decode cX10_unlike 41 = .ok (.aload_n 0, 1) := by decide +kernel
theorem dX10_unlike_42 : decode cX10_unlike 42 = .ok (.getfield 16, 3) := by decide +kernel
theorem dX10_unlike_45 : decode cX10_unlike 45 = .ok (.aload_n 0, 1) := by decide +kernel
theorem dX10_unlike_46 : decode cX10_unlike 46 = .ok (.getfield 10, 3) := by decide +kernel
theorem dX10_unlike_49 : decode cX10_unlike 49 = .ok (.invokevirtual 59, 3) := by decide +kernel
theorem dX10_unlike_52 : decode cX10_unlike 52 = .ok (.iconst 1, 1) := by decide +kernel
theorem dX10_unlike_53 : decode cX10_unlike 53 = .ok (.istore_n 3, 1) := by decide +kernel
theorem dX10_unlike_54 : decode cX10_unlike 54 = .ok (.iconst 0, 1) := by decide +kernel
theorem dX10_unlike_55 : decode cX10_unlike 55 = .ok (.istore 4, 2) := by decide +kernel
theorem dX10_unlike_57 : decode cX10_unlike 57 = .ok (.iload 4, 2) := by decide +kernel
theorem dX10_unlike_59 : decode cX10_unlike 59 = .ok (.iload_n 2, 1) := by decide +kernel
theorem dX10_unlike_60 : decode cX10_unlike 60 = .ok (.if_icmp .ge 13, 3) := by decide +kernel
theorem dX10_unlike_63 : decode cX10_unlike 63 = .ok (.iload_n 3, 1) := by decide +kernel
theorem dX10_unlike_64 : decode cX10_unlike 64 = .ok (.iconst 3, 1) := by decide +kernel
theorem dX10_unlike_65 : decode cX10_unlike 65 = .ok (.imul, 1) := by decide +kernel
theorem dX10_unlike_66 : decode cX10_unlike 66 = .ok (.istore_n 3, 1) := by decide +kernel
theorem dX10_unlike_67 : decode cX10_unlike 67 = .ok (.iinc 4 1, 3) := by decide +kernel
theorem dX10_unlike_70 : decode cX10_unlike 70 = .ok (.goto (-13), 3) := by decide +kernel
theorem dX10_unlike_73 : decode cX10_unlike 73 = .ok (.iconst 0, 1) := by decide +kernel
theorem dX10_unlike_74 : decode cX10_unlike 74 = .ok (.istore 4, 2) := by decide +kernel
theorem dX10_unlike_76 : decode cX10_unlike 76 = .ok (.iconst 0, 1) := by decide +kernel
theorem dX10_unlike_77 : decode cX10_unlike 77 = .ok (.istore 5, 2) := by decide +kernel
theorem dX10_unlike_79 : decode cX10_unlike 79 = .ok (.iload 5, 2) := by decide +kernel
theorem dX10_unlike_81 : decode cX10_unlike 81 = .ok (.iload_n 3, 1) := by decide +kernel
theorem dX10_unlike_82 : decode cX10_unlike 82 = .ok (.if_icmp .ge 30, 3) := by decide +kernel
theorem dX10_unlike_85 : decode cX10_unlike 85 = .ok (.aload_n 0, 1) := by decide +kernel
theorem dX10_unlike_86 : decode cX10_unlike 86 = .ok (.iload 5, 2) := by decide +kernel
theorem dX10_unlike_88 : decode cX10_unlike 88 = .ok (.invokevirtual 207, 3) := by decide +kernel
theorem dX10_unlike_91 : decode cX10_unlike 91 = .ok (.aload_n 0, 1) := by decide +kernel
theorem dX10_unlike_92 : decode cX10_unlike 92 = .ok (.getfield 16, 3) := by decide +kernel
theorem dX10_unlike_95 : decode cX10_unlike 95 = .ok (.invokevirtual 196, 3) := by decide +kernel
theorem dX10_unlike_98 : decode cX10_unlike 98 = .ok (.bipush (-4), 2) := by decide +kernel
theorem dX10_unlike_100 : decode cX10_unlike 100 = .ok (.if_icmp .eq 6, 3) := by decide +kernel
theorem dX10_unlike_103 : decode cX10_unlike 103 = .ok (.iinc 4 1, 3) := by decide +kernel
theorem dX10_unlike_106 : decode cX10_unlike 106 = .ok (.iinc 5 1, 3) := by decide +kernel
theorem dX10_unlike_109 : decode cX10_unlike 109 = .ok (.goto (-30), 3) := by decide +kernel
theorem dX10_unlike_112 : decode cX10_unlike 112 = .ok (.iload 4, 2) := by decide +kernel
theorem dX10_unlike_114 : decode cX10_unlike 114 = .ok (.iload_n 3, 1) := by decide +kernel
theorem dX10_unlike_115 : decode cX10_unlike 115 = .ok (.iload_n 1, 1) := by decide +kernel
theorem dX10_unlike_116 : decode cX10_unlike 116 = .ok (.invokestatic 203, 3) := by decide +kernel
theorem dX10_unlike_119 : decode cX10_unlike 119 = .ok (.lreturn, 1) := by decide +kernel
/-! X10 unlike -/
def X10_unlike_p9 (xs : XS) : Option (Int64 × XS) :=
    some ((-1000000001 : Int64), xs)
def X10_unlike_p37 (xs : XS) : Option (Int64 × XS) :=
    some ((-1000000003 : Int64), xs)
def X10_unlike_p106 (k79 : XS → Int32 → Int32 → Int32 → Int32 → Option (Int64 × XS)) (xs : XS) (v1 : Int32) (v3 : Int32) (v4 : Int32) (v5 : Int32) : Option (Int64 × XS) :=
    nm (v5 + (1 : Int32)) fun x_1 =>
    k79 xs v1 v3 v4 x_1
def X10_unlike_p112 (xs : XS) (v1 : Int32) (v3 : Int32) (v4 : Int32) : Option (Int64 × XS) :=
    bd1 (X10_partOf v4 v3 v1) fun y_2 =>
    some (y_2, xs)
def X10_unlike_p79 : Nat → XS → Int32 → Int32 → Int32 → Int32 → Option (Int64 × XS)
  | 0, _, _, _, _, _ => none
  | n + 1, xs, v1, v3, v4, v5 =>
    if v3 ≤ v5 then
      (X10_unlike_p112 xs v1 v3 v4)
    else
    bnd (X10_burnUnlike xs v5) fun _ xs_5 =>
    bnd (X8_fallToLaneAfter (xT xs_5 1)) fun y_9 st_10 =>
    nm (uT xs_5 1 st_10) fun xs_12 =>
    if y_9 = (-4 : Int32) then
      (X10_unlike_p106 (fun xs v1 v3 v4 v5 => X10_unlike_p79 n xs v1 v3 v4 v5) xs_12 v1 v3 v4 v5)
    else
    nm (v4 + (1 : Int32)) fun x_14 =>
    X10_unlike_p106 (fun xs v1 v3 v4 v5 => X10_unlike_p79 n xs v1 v3 v4 v5) xs_12 v1 v3 x_14 v5
theorem X10_unlike_p79_s (n : Nat) (xs : XS) (v1 : Int32) (v3 : Int32) (v4 : Int32) (v5 : Int32) : X10_unlike_p79 (n + 1) xs v1 v3 v4 v5 =
    (if v3 ≤ v5 then
      (X10_unlike_p112 xs v1 v3 v4)
    else
    bnd (X10_burnUnlike xs v5) fun _ xs_5 =>
    bnd (X8_fallToLaneAfter (xT xs_5 1)) fun y_9 st_10 =>
    nm (uT xs_5 1 st_10) fun xs_12 =>
    if y_9 = (-4 : Int32) then
      (X10_unlike_p106 (fun xs v1 v3 v4 v5 => X10_unlike_p79 n xs v1 v3 v4 v5) xs_12 v1 v3 v4 v5)
    else
    nm (v4 + (1 : Int32)) fun x_14 =>
    X10_unlike_p106 (fun xs v1 v3 v4 v5 => X10_unlike_p79 n xs v1 v3 v4 v5) xs_12 v1 v3 x_14 v5) := rfl
def X10_unlike_p73 (xs : XS) (v1 : Int32) (v3 : Int32) : Option (Int64 × XS) :=
    X10_unlike_p79 5000 xs v1 v3 (0 : Int32) (0 : Int32)
def X10_unlike_p57 : Nat → XS → Int32 → Int32 → Int32 → Int32 → Option (Int64 × XS)
  | 0, _, _, _, _, _ => none
  | n + 1, xs, v1, v2, v3, v4 =>
    if v2 ≤ v4 then
      (X10_unlike_p73 xs v1 v3)
    else
    nm ((v3 * (3 : Int32))) fun x_16 =>
    nm (v4 + (1 : Int32)) fun x_17 =>
    X10_unlike_p57 n xs v1 v2 x_16 x_17
theorem X10_unlike_p57_s (n : Nat) (xs : XS) (v1 : Int32) (v2 : Int32) (v3 : Int32) (v4 : Int32) : X10_unlike_p57 (n + 1) xs v1 v2 v3 v4 =
    (if v2 ≤ v4 then
      (X10_unlike_p73 xs v1 v3)
    else
    nm ((v3 * (3 : Int32))) fun x_16 =>
    nm (v4 + (1 : Int32)) fun x_17 =>
    X10_unlike_p57 n xs v1 v2 x_16 x_17) := rfl
def X10_unlike (xs : XS) (v1 : Int32) : Option (Int64 × XS) :=
    if v1 < 0 then
      (X10_unlike_p9 xs)
    else
    if v1 ≤ (1 : Int32) then
      (bnd (X8_countBurning (xT xs 0)) fun y_20 st_21 =>
      nm (uT xs 0 st_21) fun xs_23 =>
      bnd (X8_isDown (xT xs_23 0)) fun y_24 st_25 =>
      nm (uT xs_23 0 st_25) fun xs_27 =>
      if y_24 = 0 then
        (if y_20 ≤ (6 : Int32) then
          (bnd (X8_takeFrom_1_0 xs_27) fun _ xs_30 =>
          X10_unlike_p57 5000 xs_30 v1 y_20 (1 : Int32) (0 : Int32))
        else
        X10_unlike_p37 xs_27)
      else
      X10_unlike_p37 xs_27)
    else
    X10_unlike_p9 xs
abbrev rmX10_unlike : Room := { frames := 6, cells := 0, slots := 0, locals := 138 }
theorem hdX10_unlike : yX10_unlike.cls = RX10 ∧ yX10_unlike.cls ≠ "java/lang/invoke/MethodHandle" ∧ yX10_unlike.cls ≠ "java/lang/invoke/VarHandle" ∧ (parseMethodDescriptor yX10_unlike.desc).map (fun d => d.parameters.length) = some 1 := by decide +kernel
set_option maxRecDepth 100000 in
set_option maxHeartbeats 8000000 in
theorem okX10_unlike (z : Nat → Nat) (l : Launch) (D : va_G) (T : mT3) (b : Nat → Nat) {xa : XA} {xs : XS} {v1 : Int32} {r : Int64} {xs' : XS} (hR : xRel b xa xs) (heq : X10_unlike xs v1 = some (r, xs')) : hXl xSub z l D T b yX10_unlike wsX10_unlike rmX10_unlike [.ref (b 0), .int v1] xa xs r xs' := by
  refine xbody_l (plainFor_of_name (by decide)) rfl (Nat.le_of_ble_eq_true rfl) (fun p e s m args below meth c A Q hx hb hml hown hts hK hA hX hret ls hP hD hS hl => ?_)
  have hl : lv_has ls 6 [(0, .ref (b 0)), (1, .int v1)] := hl
  have hin10 : ∀ w ∈ wsX100, w ∈ wsX10_unlike := by decide +kernel
  have f10 : (Cond.fieldLink RX10 10 RX10 (TX10 0).2.1 (TX10 0).2.2.1).before args s = true := hts (.fieldLink RX10 10 RX10 "now" "LLaidDownTheLane$Town;") (by decide +kernel)
  have f16 : (Cond.fieldLink RX10 16 RX10 (TX10 1).2.1 (TX10 1).2.2.1).before args s = true := hts (.fieldLink RX10 16 RX10 "trial" "LLaidDownTheLane$Town;") (by decide +kernel)
  have c199 := hts (.constantLong RX10 199 (-1000000001)) (by decide +kernel)
  have c201 := hts (.constantLong RX10 201 (-1000000003)) (by decide +kernel)
  obtain ⟨xa0, hxa0⟩ : ∃ z : XA, z = xa := ⟨_, rfl⟩
  rw [← hxa0] at hret
  have hU : xSub xa0 xa := by rw [hxa0]; exact xSub.rf
  clear hxa0
  have b9 : ∀ (xs : XS) (xa : XA) (H : Heap) (locs : List Loc) (ls : Array Slot), xRel b xa xs → xSub xa0 xa → va_P D vwCl (xW b T xa xs) H → va_D A (xW b T xa xs) → va_S A s.heap H locs → lv_has ls 6 [] → X10_unlike_p9 xs = some (r, xs') → W p l e rmX10_unlike s m args below meth c H locs 0 0 Q (F0 m 9 ls []) := by
    intro xs xa H locs ls hR hU hP hD hS hl heq
    unfold X10_unlike_p9 at heq
    refine lv_ldc2 (v := (-1000000001 : Int64)) hx hb hown c199 dX10_unlike_9 ?_
    obtain ⟨heq, heq2⟩ := ret_h heq
    subst heq
    subst heq2
    exact hret 12 H locs ls xa hR hU hP hD hS dX10_unlike_12
  have b37 : ∀ (xs : XS) (xa : XA) (H : Heap) (locs : List Loc) (ls : Array Slot), xRel b xa xs → xSub xa0 xa → va_P D vwCl (xW b T xa xs) H → va_D A (xW b T xa xs) → va_S A s.heap H locs → lv_has ls 6 [] → X10_unlike_p37 xs = some (r, xs') → W p l e rmX10_unlike s m args below meth c H locs 0 0 Q (F0 m 37 ls []) := by
    intro xs xa H locs ls hR hU hP hD hS hl heq
    unfold X10_unlike_p37 at heq
    refine lv_ldc2 (v := (-1000000003 : Int64)) hx hb hown c201 dX10_unlike_37 ?_
    obtain ⟨heq, heq2⟩ := ret_h heq
    subst heq
    subst heq2
    exact hret 40 H locs ls xa hR hU hP hD hS dX10_unlike_40
  have b106 : ∀ (k79 : XS → Int32 → Int32 → Int32 → Int32 → Option (Int64 × XS)) (hk79 : ∀ (xs : XS) (v1 : Int32) (v3 : Int32) (v4 : Int32) (v5 : Int32) (xa : XA) (H : Heap) (locs : List Loc) (ls : Array Slot), xRel b xa xs → xSub xa0 xa → va_P D vwCl (xW b T xa xs) H → va_D A (xW b T xa xs) → va_S A s.heap H locs → lv_has ls 6 [(0, .ref (b 0)), (1, .int v1), (3, .int v3), (4, .int v4), (5, .int v5)] → k79 xs v1 v3 v4 v5 = some (r, xs') → W p l e rmX10_unlike s m args below meth c H locs 0 0 Q (F0 m 79 ls [])), ∀ (xs : XS) (v1 : Int32) (v3 : Int32) (v4 : Int32) (v5 : Int32) (xa : XA) (H : Heap) (locs : List Loc) (ls : Array Slot), xRel b xa xs → xSub xa0 xa → va_P D vwCl (xW b T xa xs) H → va_D A (xW b T xa xs) → va_S A s.heap H locs → lv_has ls 6 [(0, .ref (b 0)), (1, .int v1), (3, .int v3), (4, .int v4), (5, .int v5)] → X10_unlike_p106 k79 xs v1 v3 v4 v5 = some (r, xs') → W p l e rmX10_unlike s m args below meth c H locs 0 0 Q (F0 m 106 ls []) := by
    intro k79 hk79 xs v1 v3 v4 v5 xa H locs ls hR hU hP hD hS hl heq
    unfold X10_unlike_p106 at heq
    obtain ⟨x_1, ex_1⟩ : ∃ y : Int32, y = v5 + (1 : Int32) := ⟨_, rfl⟩
    have heq := nm_h ex_1 heq
    refine lv_iinc (v := x_1) (lv' := [(5, .int x_1), (0, .ref (b 0)), (1, .int v1), (3, .int v3), (4, .int v4)]) hx hb dX10_unlike_106 hl (k := 4) rfl (by rw [ex_1]; rfl) (by decide) rfl (fun ls hl => ?_)
    refine lv_goto (tgt := 79) hx hb dX10_unlike_109 (by decide) ?_
    exact hk79 xs v1 v3 v4 x_1 xa H locs ls hR hU hP hD hS (lv_sub hl [1, 2, 3, 4, 0] rfl) heq
  have b112 : ∀ (xs : XS) (v1 : Int32) (v3 : Int32) (v4 : Int32) (xa : XA) (H : Heap) (locs : List Loc) (ls : Array Slot), xRel b xa xs → xSub xa0 xa → va_P D vwCl (xW b T xa xs) H → va_D A (xW b T xa xs) → va_S A s.heap H locs → lv_has ls 6 [(1, .int v1), (3, .int v3), (4, .int v4)] → X10_unlike_p112 xs v1 v3 v4 = some (r, xs') → W p l e rmX10_unlike s m args below meth c H locs 0 0 Q (F0 m 112 ls []) := by
    intro xs v1 v3 v4 xa H locs ls hR hU hP hD hS hl heq
    unfold X10_unlike_p112 at heq
    refine lv_iload hx hb dX10_unlike_112 (lv_at hl 2 rfl) ?_
    refine lv_iload_n hx hb dX10_unlike_114 rfl (lv_at hl 1 rfl) ?_
    refine lv_iload_n hx hb dX10_unlike_115 rfl (lv_at hl 0 rfl) ?_
    obtain ⟨y_2, h_3, heq⟩ := bd1_h heq
    refine h_sl (own := RX10) (As := [.int v4, .int v3, .int v1]) (rest := []) (w0 := []) (w1 := []) (wr := xW b T xa xs) hx hb hml hown hts (okX10_partOf z l D h_3) (va_cwS 3 hts gX10_unlike_X10_partOf rfl rfl rfl (hdX10_partOf).2 ⟨Nat.le_of_ble_eq_true rfl, Nat.le_of_ble_eq_true rfl⟩) (hK.sub [] rfl) hA hX hP hD hS (List.Perm.refl _) (List.Perm.refl _) rfl hl.1 rfl (Nat.le_of_ble_eq_true rfl) dX10_unlike_116 ⟨Nat.le_of_ble_eq_true rfl, Nat.le_of_ble_eq_true rfl⟩ (fun H locs hP hD hS => ?_)
    obtain ⟨heq, heq2⟩ := ret_h heq
    subst heq
    subst heq2
    exact hret 119 H locs ls xa hR hU hP hD hS dX10_unlike_119
  have b79 : ∀ (n : Nat), ∀ (xs : XS) (v1 : Int32) (v3 : Int32) (v4 : Int32) (v5 : Int32) (xa : XA) (H : Heap) (locs : List Loc) (ls : Array Slot), xRel b xa xs → xSub xa0 xa → va_P D vwCl (xW b T xa xs) H → va_D A (xW b T xa xs) → va_S A s.heap H locs → lv_has ls 6 [(0, .ref (b 0)), (1, .int v1), (3, .int v3), (4, .int v4), (5, .int v5)] → X10_unlike_p79 n xs v1 v3 v4 v5 = some (r, xs') → W p l e rmX10_unlike s m args below meth c H locs 0 0 Q (F0 m 79 ls []) := by
    intro n
    induction n with
    | zero => intro xs v1 v3 v4 v5 xa H locs ls hR hU hP hD hS hl heq; cases heq
    | succ n ih =>
      intro xs v1 v3 v4 v5 xa H locs ls hR hU hP hD hS hl heq
      rw [X10_unlike_p79_s] at heq
      refine lv_iload hx hb dX10_unlike_79 (lv_at hl 4 rfl) ?_
      refine lv_iload_n hx hb dX10_unlike_81 rfl (lv_at hl 2 rfl) ?_
      refine lv_icmp_ge (tgt := 112) hx hb dX10_unlike_82 (by decide) (fun c_4 => ?_) (fun c_4 => ?_)
      · have heq := it_t c_4 heq
        exact b112 xs v1 v3 v4 xa H locs ls hR hU hP hD hS (lv_sub hl [1, 2, 3] rfl) heq
      have heq := it_f c_4 heq
      refine lv_aload_n hx hb dX10_unlike_85 rfl (lv_at hl 0 rfl) ?_
      refine lv_iload hx hb dX10_unlike_86 (lv_at hl 4 rfl) ?_
      obtain ⟨⟨⟩, xs_5, h_6, heq⟩ := bnd_h heq
      refine x_vv (own := RX10) (As := [.int v5]) (rest := []) hx hb hml hown hts (okX10_burnUnlike z l D T b hR h_6) (cwV 1 hts gX10_unlike_X10_burnUnlike rfl rfl rfl hdX10_burnUnlike ⟨Nat.le_of_ble_eq_true rfl, Nat.le_of_ble_eq_true rfl⟩) hK hA hX hP hD hS (ci := 10) (q0 := 0) rfl rfl rfl hl.1 rfl (Nat.le_of_ble_eq_true rfl) dX10_unlike_88 ⟨Nat.le_of_ble_eq_true rfl, Nat.le_of_ble_eq_true rfl⟩ (fun xa_7 H locs hR hsxa_7 hP hD hS => ?_)
      have hU := xSub.tr hU hsxa_7
      refine lv_aload_n hx hb dX10_unlike_91 rfl (lv_at hl 0 rfl) ?_
      refine va_get (D := D) (ci := 10) (v := .ref (b 10)) (C := RX10) (T := TX10) (N := 7) hx hb hts hin10 hown hK hP 0 rfl rfl 1 (by decide) f16 (fun _ h9 => h9) rfl dX10_unlike_92 ?_
      obtain ⟨y_9, st_10, h_11, heq⟩ := bnd_h heq
      refine h_vi (own := RX10) (As := []) (rest := []) (wr := xWr1 b T xa_7 xs_5) hx hb hml hown hts (okX8_fallToLaneAfter z l D (fun j => b (10 + j)) T (fun j => some (xFo xa_7 1 j)) h_11) (cwV 0 hts gX10_unlike_X8_fallToLaneAfter rfl rfl rfl hdX8_fallToLaneAfter ⟨Nat.le_of_ble_eq_true rfl, Nat.le_of_ble_eq_true rfl⟩) hK hA hX hP hD hS (xp1 b T xa_7 xs_5) (xq1 b T xa_7 xs_5 _) (ci := 8) (q0 := 0) rfl rfl rfl hl.1 rfl (Nat.le_of_ble_eq_true rfl) dX10_unlike_95 ⟨Nat.le_of_ble_eq_true rfl, Nat.le_of_ble_eq_true rfl⟩ (fun H locs hP hD hS => ?_)
      obtain ⟨xs_12, exs_12⟩ : ∃ z, z = uT xs_5 1 st_10 := ⟨_, rfl⟩
      have hR : xRel b xa_7 (uT xs_5 1 st_10) := hR.uT _ _
      rw [← exs_12] at hP hD hR
      have heq := nm_h exs_12 heq
      refine lv_bipush (v := (-4 : Int32)) hx hb dX10_unlike_98 (by decide) ?_
      refine lv_icmp_eq (tgt := 106) hx hb dX10_unlike_100 (by decide) (fun c_13 => ?_) (fun c_13 => ?_)
      · have heq := it_t c_13 heq
        exact b106 (fun xs v1 v3 v4 v5 => X10_unlike_p79 n xs v1 v3 v4 v5) ih xs_12 v1 v3 v4 v5 xa_7 H locs ls hR hU hP hD hS (lv_sub hl [0, 1, 2, 3, 4] rfl) heq
      have heq := it_f c_13 heq
      obtain ⟨x_14, ex_14⟩ : ∃ y : Int32, y = v4 + (1 : Int32) := ⟨_, rfl⟩
      have heq := nm_h ex_14 heq
      refine lv_iinc (v := x_14) (lv' := [(4, .int x_14), (0, .ref (b 0)), (1, .int v1), (3, .int v3), (5, .int v5)]) hx hb dX10_unlike_103 hl (k := 3) rfl (by rw [ex_14]; rfl) (by decide) rfl (fun ls hl => ?_)
      exact b106 (fun xs v1 v3 v4 v5 => X10_unlike_p79 n xs v1 v3 v4 v5) ih xs_12 v1 v3 x_14 v5 xa_7 H locs ls hR hU hP hD hS (lv_sub hl [1, 2, 3, 0, 4] rfl) heq
  have b73 : ∀ (xs : XS) (v1 : Int32) (v3 : Int32) (xa : XA) (H : Heap) (locs : List Loc) (ls : Array Slot), xRel b xa xs → xSub xa0 xa → va_P D vwCl (xW b T xa xs) H → va_D A (xW b T xa xs) → va_S A s.heap H locs → lv_has ls 6 [(0, .ref (b 0)), (1, .int v1), (3, .int v3)] → X10_unlike_p73 xs v1 v3 = some (r, xs') → W p l e rmX10_unlike s m args below meth c H locs 0 0 Q (F0 m 73 ls []) := by
    intro xs v1 v3 xa H locs ls hR hU hP hD hS hl heq
    unfold X10_unlike_p73 at heq
    refine lv_iconst (v := (0 : Int32)) hx hb dX10_unlike_73 (by decide) ?_
    refine lv_istore (lv' := [(4, .int (0 : Int32)), (0, .ref (b 0)), (1, .int v1), (3, .int v3)]) hx hb dX10_unlike_74 hl (by decide) rfl (fun ls hl => ?_)
    refine lv_iconst (v := (0 : Int32)) hx hb dX10_unlike_76 (by decide) ?_
    refine lv_istore (lv' := [(5, .int (0 : Int32)), (4, .int (0 : Int32)), (0, .ref (b 0)), (1, .int v1), (3, .int v3)]) hx hb dX10_unlike_77 hl (by decide) rfl (fun ls hl => ?_)
    exact b79 5000 xs v1 v3 (0 : Int32) (0 : Int32) xa H locs ls hR hU hP hD hS (lv_sub hl [2, 3, 4, 1, 0] rfl) heq
  have b57 : ∀ (n : Nat), ∀ (xs : XS) (v1 : Int32) (v2 : Int32) (v3 : Int32) (v4 : Int32) (xa : XA) (H : Heap) (locs : List Loc) (ls : Array Slot), xRel b xa xs → xSub xa0 xa → va_P D vwCl (xW b T xa xs) H → va_D A (xW b T xa xs) → va_S A s.heap H locs → lv_has ls 6 [(0, .ref (b 0)), (1, .int v1), (2, .int v2), (3, .int v3), (4, .int v4)] → X10_unlike_p57 n xs v1 v2 v3 v4 = some (r, xs') → W p l e rmX10_unlike s m args below meth c H locs 0 0 Q (F0 m 57 ls []) := by
    intro n
    induction n with
    | zero => intro xs v1 v2 v3 v4 xa H locs ls hR hU hP hD hS hl heq; cases heq
    | succ n ih =>
      intro xs v1 v2 v3 v4 xa H locs ls hR hU hP hD hS hl heq
      rw [X10_unlike_p57_s] at heq
      refine lv_iload hx hb dX10_unlike_57 (lv_at hl 4 rfl) ?_
      refine lv_iload_n hx hb dX10_unlike_59 rfl (lv_at hl 2 rfl) ?_
      refine lv_icmp_ge (tgt := 73) hx hb dX10_unlike_60 (by decide) (fun c_15 => ?_) (fun c_15 => ?_)
      · have heq := it_t c_15 heq
        exact b73 xs v1 v3 xa H locs ls hR hU hP hD hS (lv_sub hl [0, 1, 3] rfl) heq
      have heq := it_f c_15 heq
      refine lv_iload_n hx hb dX10_unlike_63 rfl (lv_at hl 3 rfl) ?_
      refine lv_iconst (v := (3 : Int32)) hx hb dX10_unlike_64 (by decide) ?_
      refine lv_imul hx hb dX10_unlike_65 ?_
      refine lv_topi (fun x_16 ex_16 => ?_)
      have heq := nm_h ex_16 heq
      refine lv_istore_n (lv' := [(3, .int x_16), (0, .ref (b 0)), (1, .int v1), (2, .int v2), (4, .int v4)]) hx hb dX10_unlike_66 rfl hl (by decide) rfl (fun ls hl => ?_)
      obtain ⟨x_17, ex_17⟩ : ∃ y : Int32, y = v4 + (1 : Int32) := ⟨_, rfl⟩
      have heq := nm_h ex_17 heq
      refine lv_iinc (v := x_17) (lv' := [(4, .int x_17), (3, .int x_16), (0, .ref (b 0)), (1, .int v1), (2, .int v2)]) hx hb dX10_unlike_67 hl (k := 4) rfl (by rw [ex_17]; rfl) (by decide) rfl (fun ls hl => ?_)
      refine lv_goto (tgt := 57) hx hb dX10_unlike_70 (by decide) ?_
      exact ih xs v1 v2 x_16 x_17 xa H locs ls hR hU hP hD hS (lv_sub hl [2, 3, 4, 1, 0] rfl) heq
  obtain ⟨H, hH⟩ : ∃ H, H = s.heap := ⟨_, rfl⟩
  obtain ⟨locs, hlocs⟩ : ∃ z : List Loc, z = [] := ⟨_, rfl⟩
  have hS : va_S A s.heap H locs := by rw [hH, hlocs]; exact hS
  have hP : va_P D vwCl (xW b T xa xs) H := by rw [hH]; exact hP
  suffices h9 : W p l e rmX10_unlike s m args below meth c H locs 0 0 Q (F0 m 0 ls []) by rw [hH, hlocs] at h9; exact h9
  clear hH hlocs
  unfold X10_unlike at heq
  refine lv_iload_n hx hb dX10_unlike_0 rfl (lv_at hl 1 rfl) ?_
  refine lv_if_lt (tgt := 9) hx hb dX10_unlike_1 (by decide) (fun c_18 => ?_) (fun c_18 => ?_)
  · have heq := it_t c_18 heq
    exact b9 xs xa H locs ls hR hU hP hD hS (lv_sub hl [] rfl) heq
  have heq := it_f c_18 heq
  refine lv_iload_n hx hb dX10_unlike_4 rfl (lv_at hl 1 rfl) ?_
  refine lv_iconst (v := (1 : Int32)) hx hb dX10_unlike_5 (by decide) ?_
  refine lv_icmp_le (tgt := 13) hx hb dX10_unlike_6 (by decide) (fun c_19 => ?_) (fun c_19 => ?_)
  · have heq := it_t c_19 heq
    refine lv_aload_n hx hb dX10_unlike_13 rfl (lv_at hl 0 rfl) ?_
    refine va_get (D := D) (ci := 10) (v := .ref (b 3)) (C := RX10) (T := TX10) (N := 7) hx hb hts hin10 hown hK hP 0 rfl rfl 0 (by decide) f10 (fun _ h9 => h9) rfl dX10_unlike_14 ?_
    obtain ⟨y_20, st_21, h_22, heq⟩ := bnd_h heq
    refine h_vi (own := RX10) (As := []) (rest := []) (wr := xWr0 b T xa xs) hx hb hml hown hts (okX8_countBurning z l D (fun j => b (3 + j)) T (fun j => some (xFo xa 0 j)) h_22) (cwV 0 hts gX10_unlike_X8_countBurning rfl rfl rfl hdX8_countBurning ⟨Nat.le_of_ble_eq_true rfl, Nat.le_of_ble_eq_true rfl⟩) hK hA hX hP hD hS (xp0 b T xa xs) (xq0 b T xa xs _) (ci := 8) (q0 := 0) rfl rfl rfl hl.1 rfl (Nat.le_of_ble_eq_true rfl) dX10_unlike_17 ⟨Nat.le_of_ble_eq_true rfl, Nat.le_of_ble_eq_true rfl⟩ (fun H locs hP hD hS => ?_)
    obtain ⟨xs_23, exs_23⟩ : ∃ z, z = uT xs 0 st_21 := ⟨_, rfl⟩
    have hR : xRel b xa (uT xs 0 st_21) := hR.uT _ _
    rw [← exs_23] at hP hD hR
    have heq := nm_h exs_23 heq
    refine lv_istore_n (lv' := [(2, .int y_20), (0, .ref (b 0)), (1, .int v1)]) hx hb dX10_unlike_20 rfl hl (by decide) rfl (fun ls hl => ?_)
    refine lv_aload_n hx hb dX10_unlike_21 rfl (lv_at hl 1 rfl) ?_
    refine va_get (D := D) (ci := 10) (v := .ref (b 3)) (C := RX10) (T := TX10) (N := 7) hx hb hts hin10 hown hK hP 0 rfl rfl 0 (by decide) f10 (fun _ h9 => h9) rfl dX10_unlike_22 ?_
    obtain ⟨y_24, st_25, h_26, heq⟩ := bnd_h heq
    refine h_vi (own := RX10) (As := []) (rest := []) (wr := xWr0 b T xa xs_23) hx hb hml hown hts (okX8_isDown z l D (fun j => b (3 + j)) T (fun j => some (xFo xa 0 j)) h_26) (cwV 0 hts gX10_unlike_X8_isDown rfl rfl rfl hdX8_isDown ⟨Nat.le_of_ble_eq_true rfl, Nat.le_of_ble_eq_true rfl⟩) hK hA hX hP hD hS (xp0 b T xa xs_23) (xq0 b T xa xs_23 _) (ci := 8) (q0 := 0) rfl rfl rfl hl.1 rfl (Nat.le_of_ble_eq_true rfl) dX10_unlike_25 ⟨Nat.le_of_ble_eq_true rfl, Nat.le_of_ble_eq_true rfl⟩ (fun H locs hP hD hS => ?_)
    obtain ⟨xs_27, exs_27⟩ : ∃ z, z = uT xs_23 0 st_25 := ⟨_, rfl⟩
    have hR : xRel b xa (uT xs_23 0 st_25) := hR.uT _ _
    rw [← exs_27] at hP hD hR
    have heq := nm_h exs_27 heq
    refine lv_if_ne (tgt := 37) hx hb dX10_unlike_28 (by decide) (fun c_28 => ?_) (fun c_28 => ?_)
    · have heq := it_f c_28 heq
      exact b37 xs_27 xa H locs ls hR hU hP hD hS (lv_sub hl [] rfl) heq
    have heq := it_t c_28 heq
    refine lv_iload_n hx hb dX10_unlike_31 rfl (lv_at hl 0 rfl) ?_
    refine lv_bipush (v := (6 : Int32)) hx hb dX10_unlike_32 (by decide) ?_
    refine lv_icmp_le (tgt := 41) hx hb dX10_unlike_34 (by decide) (fun c_29 => ?_) (fun c_29 => ?_)
    · have heq := it_t c_29 heq
      refine lv_aload_n hx hb dX10_unlike_41 rfl (lv_at hl 1 rfl) ?_
      refine va_get (D := D) (ci := 10) (v := .ref (b 10)) (C := RX10) (T := TX10) (N := 7) hx hb hts hin10 hown hK hP 0 rfl rfl 1 (by decide) f16 (fun _ h9 => h9) rfl dX10_unlike_42 ?_
      refine lv_aload_n hx hb dX10_unlike_45 rfl (lv_at hl 1 rfl) ?_
      refine va_get (D := D) (ci := 10) (v := .ref (b 3)) (C := RX10) (T := TX10) (N := 7) hx hb hts hin10 hown hK hP 0 rfl rfl 0 (by decide) f10 (fun _ h9 => h9) rfl dX10_unlike_46 ?_
      obtain ⟨⟨⟩, xs_30, h_31, heq⟩ := bnd_h heq
      refine x_vv (own := RX10) (As := [.ref (b 3)]) (rest := []) hx hb hml hown hts (okX8_takeFrom_1_0 z l D T b hR h_31) (cwV 1 hts gX10_unlike_X8_takeFrom rfl rfl rfl hdX8_takeFrom ⟨Nat.le_of_ble_eq_true rfl, Nat.le_of_ble_eq_true rfl⟩) hK hA hX hP hD hS (ci := 8) (q0 := 10) rfl rfl rfl hl.1 rfl (Nat.le_of_ble_eq_true rfl) dX10_unlike_49 ⟨Nat.le_of_ble_eq_true rfl, Nat.le_of_ble_eq_true rfl⟩ (fun xa_32 H locs hR hsxa_32 hP hD hS => ?_)
      have hU := xSub.tr hU hsxa_32
      refine lv_iconst (v := (1 : Int32)) hx hb dX10_unlike_52 (by decide) ?_
      refine lv_istore_n (lv' := [(3, .int (1 : Int32)), (2, .int y_20), (0, .ref (b 0)), (1, .int v1)]) hx hb dX10_unlike_53 rfl hl (by decide) rfl (fun ls hl => ?_)
      refine lv_iconst (v := (0 : Int32)) hx hb dX10_unlike_54 (by decide) ?_
      refine lv_istore (lv' := [(4, .int (0 : Int32)), (3, .int (1 : Int32)), (2, .int y_20), (0, .ref (b 0)), (1, .int v1)]) hx hb dX10_unlike_55 hl (by decide) rfl (fun ls hl => ?_)
      exact b57 5000 xs_30 v1 y_20 (1 : Int32) (0 : Int32) xa_32 H locs ls hR hU hP hD hS (lv_sub hl [3, 4, 2, 1, 0] rfl) heq
    have heq := it_f c_29 heq
    exact b37 xs_27 xa H locs ls hR hU hP hD hS (lv_sub hl [] rfl) heq
  have heq := it_f c_19 heq
  exact b9 xs xa H locs ls hR hU hP hD hS (lv_sub hl [] rfl) heq
set_option maxRecDepth 20000 in
theorem ggX10_wedge_X8_isDown : GoodIn wsX10_wedge wsX8_isDown := goodIn_r _ [11, 12, 145, 146, 147, 148, 149, 150, 151, 152, 153, 154] (by decide +kernel) (by decide +kernel)
set_option maxRecDepth 20000 in
theorem gX10_wedge_X8_isDown : GoodIn wsX10_wedge (wsV RX10 116 RX8 yX8_isDown wsX8_isDown) := goodIn_app (goodIn_of _ (by decide +kernel)) ggX10_wedge_X8_isDown
set_option maxRecDepth 20000 in
theorem ggX10_wedge_X8_takeFrom : GoodIn wsX10_wedge wsX8_takeFrom := goodIn_r _ [16, 17, 18, 19, 20, 21, 22, 23, 24, 25, 12, 145, 146, 147, 148, 149, 150, 151, 152, 153, 154] (by decide +kernel) (by decide +kernel)
set_option maxRecDepth 20000 in
theorem gX10_wedge_X8_takeFrom : GoodIn wsX10_wedge (wsV RX10 59 RX8 yX8_takeFrom wsX8_takeFrom) := goodIn_app (goodIn_of _ (by decide +kernel)) ggX10_wedge_X8_takeFrom
set_option maxRecDepth 20000 in
theorem ggX10_wedge_X9_init : GoodIn wsX10_wedge wsX9_init := goodIn_r _ [28, 29, 30, 31, 32, 33, 34, 35, 36, 155, 156, 157, 158, 159, 160, 161, 144] (by decide +kernel) (by decide +kernel)
set_option maxRecDepth 20000 in
theorem gX10_wedge_X9_init : GoodIn wsX10_wedge (wsX9_init) := ggX10_wedge_X9_init
set_option maxRecDepth 20000 in
theorem ggX10_wedge_X8_greatestLack : GoodIn wsX10_wedge wsX8_greatestLack := goodIn_r _ [40, 25, 41, 42, 43, 10, 44, 45, 46, 47, 48, 49, 50, 51, 52, 20, 53, 54, 55, 56, 57, 58, 59, 60, 61, 62, 63, 19, 18, 145, 146, 147, 148, 149, 150, 151, 152, 153, 154] (by decide +kernel) (by decide +kernel)
set_option maxRecDepth 20000 in
theorem gX10_wedge_X8_greatestLack : GoodIn wsX10_wedge (wsV RX10 213 RX8 yX8_greatestLack wsX8_greatestLack) := goodIn_app (goodIn_of _ (by decide +kernel)) ggX10_wedge_X8_greatestLack
set_option maxRecDepth 20000 in
theorem ggX10_wedge_X8_replace : GoodIn wsX10_wedge wsX8_replace := goodIn_r _ [67, 17, 18, 19, 68, 69, 70, 31, 71, 72, 73, 74, 75, 76, 77, 78, 79, 80, 81, 82, 83, 84, 85, 86, 87, 88, 89, 90, 91, 92, 93, 94, 95, 96, 97, 98, 99, 100, 101, 102, 103, 104, 105, 106, 107, 108, 5, 109, 110, 111, 112, 113, 114, 115, 116, 117, 118, 119, 120, 121, 122, 123, 124, 125, 126, 127, 128, 129, 130, 131, 132, 133, 134, 135, 136, 145, 146, 147, 148, 149, 150, 151, 152, 153, 154, 155, 156, 157, 158, 159, 160, 161, 144] (by decide +kernel) (by decide +kernel)
set_option maxRecDepth 20000 in
theorem gX10_wedge_X8_replace : GoodIn wsX10_wedge (wsV RX10 180 RX8 yX8_replace wsX8_replace) := goodIn_app (goodIn_of _ (by decide +kernel)) ggX10_wedge_X8_replace
theorem dX10_wedge_0 : decode cX10_wedge 0 = .ok (.aload_n 0, 1) := by decide +kernel
theorem dX10_wedge_1 : decode cX10_wedge 1 = .ok (.getfield 10, 3) := by decide +kernel
theorem dX10_wedge_4 : decode cX10_wedge 4 = .ok (.invokevirtual 116, 3) := by decide +kernel
theorem dX10_wedge_7 : decode cX10_wedge 7 = .ok (.ifCond .eq 6, 3) := by decide +kernel
theorem dX10_wedge_10 : decode cX10_wedge 10 = .ok (.bipush (-3), 2) := by decide +kernel
theorem dX10_wedge_12 : decode cX10_wedge 12 = .ok (.ireturn, 1) := by decide +kernel
theorem dX10_wedge_13 : decode cX10_wedge 13 = .ok (.aload_n 0, 1) := by decide +kernel
theorem dX10_wedge_14 : decode cX10_wedge 14 = .ok (.getfield 16, 3) := by decide +kernel
theorem dX10_wedge_17 : decode cX10_wedge 17 = .ok (.aload_n 0, 1) := by decide +kernel
theorem dX10_wedge_18 : decode cX10_wedge 18 = .ok (.getfield 10, 3) := by decide +kernel
theorem dX10_wedge_21 : decode cX10_wedge 21 = .ok (.invokevirtual 59, 3) := by decide +kernel
theorem dX10_wedge_24 : decode cX10_wedge 24 = .ok (.new 210, 3) := by decide +kernel
theorem dX10_wedge_27 : decode cX10_wedge 27 = .ok (.dup, 1) := by decide +kernel
theorem dX10_wedge_28 : decode cX10_wedge 28 = .ok (.iconst 0, 1) := by decide +kernel
theorem dX10_wedge_29 : decode cX10_wedge 29 = .ok (.invokespecial 212, 3) := by decide +kernel
theorem dX10_wedge_32 : decode cX10_wedge 32 = .ok (.astore_n 1, 1) := by decide +kernel
theorem dX10_wedge_33 : decode cX10_wedge 33 = .ok (.aload_n 0, 1) := by decide +kernel
theorem dX10_wedge_34 : decode cX10_wedge 34 = .ok (.getfield 10, 3) := by decide +kernel
theorem dX10_wedge_37 : decode cX10_wedge 37 = .ok (.invokevirtual 213, 3) := by decide +kernel
theorem dX10_wedge_40 : decode cX10_wedge 40 = .ok (.istore_n 2, 1) := by decide +kernel
theorem dX10_wedge_41 : decode cX10_wedge 41 = .ok (.bipush (-4), 2) := by decide +kernel
theorem dX10_wedge_43 : decode cX10_wedge 43 = .ok (.istore_n 3, 1) := by decide +kernel
theorem dX10_wedge_44 : decode cX10_wedge 44 = .ok (.iconst 0, 1) := by decide +kernel
theorem dX10_wedge_45 : decode cX10_wedge 45 = .ok (.istore 4, 2) := by decide +kernel
theorem dX10_wedge_47 : decode cX10_wedge 47 = .ok (.iload 4, 2) := by decide +kernel
theorem dX10_wedge_49 : decode cX10_wedge 49 = .ok (.bipush 12, 2) := by decide +kernel
theorem dX10_wedge_51 : decode cX10_wedge 51 = .ok (.if_icmp .ge 59, 3) := by decide +kernel
theorem dX10_wedge_54 : decode cX10_wedge 54 = .ok (.aload_n 0, 1) := by decide +kernel
theorem dX10_wedge_55 : decode cX10_wedge 55 = .ok (.getfield 16, 3) := by decide +kernel
theorem dX10_wedge_58 : decode cX10_wedge 58 = .ok (.iload 4, 2) := by decide +kernel
theorem dX10_wedge_60 : decode cX10_wedge 60 = .ok (.aload_n 1, 1) := by decide +kernel
theorem dX10_wedge_61 : decode cX10_wedge 61 = .ok (.invokevirtual 180, 3) := by decide +kernel
theorem dX10_wedge_64 : decode cX10_wedge 64 = .ok (.aload_n 0, 1) := by decide +kernel
theorem dX10_wedge_65 : decode cX10_wedge 65 = .ok (.getfield 16, 3) := by decide +kernel
theorem dX10_wedge_68 : decode cX10_wedge 68 = .ok (.invokevirtual 213, 3) := by decide +kernel
theorem dX10_wedge_71 : decode cX10_wedge 71 = .ok (.istore 5, 2) := by decide +kernel
theorem dX10_wedge_73 : decode cX10_wedge 73 = .ok (.aload_n 0, 1) := by decide +kernel
theorem dX10_wedge_74 : decode cX10_wedge 74 = .ok (.getfield 16, 3) := by decide +kernel
theorem dX10_wedge_77 : decode cX10_wedge 77 = .ok (.iload 4, 2) := by decide +kernel
theorem dX10_wedge_79 : decode cX10_wedge 79 = .ok (.aload_n 0, 1) := by decide +kernel
theorem dX10_wedge_80 : decode cX10_wedge 80 = .ok (.getfield 10, 3) := by decide +kernel
theorem dX10_wedge_83 : decode cX10_wedge 83 = .ok (.getfield 84, 3) := by decide +kernel
theorem dX10_wedge_86 : decode cX10_wedge 86 = .ok (.iload 4, 2) := by decide +kernel
theorem dX10_wedge_88 : decode cX10_wedge 88 = .ok (.aaload, 1) := by decide +kernel
theorem dX10_wedge_89 : decode cX10_wedge 89 = .ok (.invokevirtual 180, 3) := by decide +kernel
theorem dX10_wedge_92 : decode cX10_wedge 92 = .ok (.iload 5, 2) := by decide +kernel
theorem dX10_wedge_94 : decode cX10_wedge 94 = .ok (.iload_n 2, 1) := by decide +kernel
theorem dX10_wedge_95 : decode cX10_wedge 95 = .ok (.if_icmp .ge 9, 3) := by decide +kernel
theorem dX10_wedge_98 : decode cX10_wedge 98 = .ok (.iload 5, 2) := by decide +kernel
theorem dX10_wedge_100 : decode cX10_wedge 100 = .ok (.istore_n 2, 1) := by decide +kernel
theorem dX10_wedge_101 : decode cX10_wedge 101 = .ok (.iload 4, 2) := by decide +kernel
theorem dX10_wedge_103 : decode cX10_wedge 103 = .ok (.istore_n 3, 1) := by decide +kernel
theorem dX10_wedge_104 : decode cX10_wedge 104 = .ok (.iinc 4 1, 3) := by decide +kernel
theorem dX10_wedge_107 : decode cX10_wedge 107 = .ok (.goto (-60), 3) := by decide +kernel
theorem dX10_wedge_110 : decode cX10_wedge 110 = .ok (.iload_n 3, 1) := by decide +kernel
theorem dX10_wedge_111 : decode cX10_wedge 111 = .ok (.ireturn, 1) := by decide +kernel
/-! X10 wedge -/
def X10_wedge_p104 (k47 : XS → BK → Int32 → Int32 → Int32 → Option (Int32 × XS)) (xs : XS) (v1 : BK) (v2 : Int32) (v3 : Int32) (v4 : Int32) : Option (Int32 × XS) :=
    nm (v4 + (1 : Int32)) fun x_1 =>
    k47 xs v1 v2 v3 x_1
def X10_wedge_p110 (xs : XS) (v3 : Int32) : Option (Int32 × XS) :=
    some (v3, xs)
def X10_wedge_p47 : Nat → XS → BK → Int32 → Int32 → Int32 → Option (Int32 × XS)
  | 0, _, _, _, _, _ => none
  | n + 1, xs, v1, v2, v3, v4 =>
    if (12 : Int32) ≤ v4 then
      (X10_wedge_p110 xs v3)
    else
    bnd (X8_replace_1 xs v4 v1) fun _ xs_3 =>
    bnd (X8_greatestLack (xT xs_3 1)) fun y_7 st_8 =>
    nm (uT xs_3 1 st_8) fun xs_10 =>
    inr v4 12 <|
    bnd (X8_replace_1 xs_10 v4 (xB xs_10 0 v4.toNatClampNeg)) fun _ xs_13 =>
    if v2 ≤ y_7 then
      (X10_wedge_p104 (fun xs v1 v2 v3 v4 => X10_wedge_p47 n xs v1 v2 v3 v4) xs_13 v1 v2 v3 v4)
    else
    X10_wedge_p104 (fun xs v1 v2 v3 v4 => X10_wedge_p47 n xs v1 v2 v3 v4) xs_13 v1 y_7 v4 v4
theorem X10_wedge_p47_s (n : Nat) (xs : XS) (v1 : BK) (v2 : Int32) (v3 : Int32) (v4 : Int32) : X10_wedge_p47 (n + 1) xs v1 v2 v3 v4 =
    (if (12 : Int32) ≤ v4 then
      (X10_wedge_p110 xs v3)
    else
    bnd (X8_replace_1 xs v4 v1) fun _ xs_3 =>
    bnd (X8_greatestLack (xT xs_3 1)) fun y_7 st_8 =>
    nm (uT xs_3 1 st_8) fun xs_10 =>
    inr v4 12 <|
    bnd (X8_replace_1 xs_10 v4 (xB xs_10 0 v4.toNatClampNeg)) fun _ xs_13 =>
    if v2 ≤ y_7 then
      (X10_wedge_p104 (fun xs v1 v2 v3 v4 => X10_wedge_p47 n xs v1 v2 v3 v4) xs_13 v1 v2 v3 v4)
    else
    X10_wedge_p104 (fun xs v1 v2 v3 v4 => X10_wedge_p47 n xs v1 v2 v3 v4) xs_13 v1 y_7 v4 v4) := rfl
def X10_wedge (xs : XS) : Option (Int32 × XS) :=
    bnd (X8_isDown (xT xs 0)) fun y_18 st_19 =>
    nm (uT xs 0 st_19) fun xs_21 =>
    if y_18 = 0 then
      (bnd (X8_takeFrom_1_0 xs_21) fun _ xs_23 =>
      bnd (X8_greatestLack (xT xs_23 0)) fun y_30 st_31 =>
      nm (uT xs_23 0 st_31) fun xs_33 =>
      X10_wedge_p47 13 xs_33 ((7, (0 : Int32)) : BK) y_30 (-4 : Int32) (0 : Int32))
    else
    some ((-3 : Int32), xs_21)
abbrev rmX10_wedge : Room := { frames := 5, cells := 1, slots := 1, locals := 113 }
theorem hdX10_wedge : yX10_wedge.cls = RX10 ∧ yX10_wedge.cls ≠ "java/lang/invoke/MethodHandle" ∧ yX10_wedge.cls ≠ "java/lang/invoke/VarHandle" ∧ (parseMethodDescriptor yX10_wedge.desc).map (fun d => d.parameters.length) = some 0 := by decide +kernel
set_option maxRecDepth 100000 in
set_option maxHeartbeats 8000000 in
theorem okX10_wedge (z : Nat → Nat) (l : Launch) (D : va_G) (T : mT3) (b : Nat → Nat) {xa : XA} {xs : XS} {r : Int32} {xs' : XS} (hR : xRel b xa xs) (heq : X10_wedge xs = some (r, xs')) : hXi xSub z l D T b yX10_wedge wsX10_wedge rmX10_wedge [.ref (b 0)] xa xs r xs' := by
  refine xbody_i (plainFor_of_name (by decide)) rfl (Nat.le_of_ble_eq_true rfl) (fun p e s m args below meth c A Q hx hb hml hown hts hK hA hX hret ls hP hD hS hl => ?_)
  have hl : lv_has ls 6 [(0, .ref (b 0))] := hl
  have hin10 : ∀ w ∈ wsX100, w ∈ wsX10_wedge := by decide +kernel
  have hin8 : ∀ w ∈ wsX80, w ∈ wsX10_wedge := by decide +kernel
  have hin9 : ∀ w ∈ wsX90, w ∈ wsX10_wedge := by decide +kernel
  have f10 : (Cond.fieldLink RX10 10 RX10 (TX10 0).2.1 (TX10 0).2.2.1).before args s = true := hts (.fieldLink RX10 10 RX10 "now" "LLaidDownTheLane$Town;") (by decide +kernel)
  have f16 : (Cond.fieldLink RX10 16 RX10 (TX10 1).2.1 (TX10 1).2.2.1).before args s = true := hts (.fieldLink RX10 16 RX10 "trial" "LLaidDownTheLane$Town;") (by decide +kernel)
  have f84 : (Cond.fieldLink RX10 84 RX8 (TX8 0).2.1 (TX8 0).2.2.1).before args s = true := hts (.fieldLink RX10 84 RX8 "foot" "[LLaidDownTheLane$Brick;") (by decide +kernel)
  have hw0 := hts (.classLink RX10 210 RX9) (by decide +kernel)
  have hw1 := hts (.instantiable RX9 1) (by decide +kernel)
  have hw2 := hts (.initialized RX9) (by decide +kernel)
  have hw3 := hts (.methodLink RX10 212 yX9_init) (by decide +kernel)
  have hw4 := hts (.instanceMethod yX9_init) (by decide +kernel)
  obtain ⟨xa0, hxa0⟩ : ∃ z : XA, z = xa := ⟨_, rfl⟩
  rw [← hxa0] at hret
  have hU : xSub xa0 xa := by rw [hxa0]; exact xSub.rf
  clear hxa0
  have b104 : ∀ (k47 : XS → BK → Int32 → Int32 → Int32 → Option (Int32 × XS)) (hk47 : ∀ (xs : XS) (v1 : BK) (v2 : Int32) (v3 : Int32) (v4 : Int32) (xa : XA) (v1q : Nat) (v1h : (v1q, v1) ∈ xPl xa) (H : Heap) (locs : List Loc) (ls : Array Slot), xRel b xa xs → xSub xa0 xa → va_P D vwCl (xW b T xa xs) H → va_D A (xW b T xa xs) → va_S A s.heap H locs → lv_has ls 6 [(0, .ref (b 0)), (1, .ref v1q), (2, .int v2), (3, .int v3), (4, .int v4)] → k47 xs v1 v2 v3 v4 = some (r, xs') → W p l e rmX10_wedge s m args below meth c H locs 1 1 Q (F0 m 47 ls [])), ∀ (xs : XS) (v1 : BK) (v2 : Int32) (v3 : Int32) (v4 : Int32) (xa : XA) (v1q : Nat) (v1h : (v1q, v1) ∈ xPl xa) (H : Heap) (locs : List Loc) (ls : Array Slot), xRel b xa xs → xSub xa0 xa → va_P D vwCl (xW b T xa xs) H → va_D A (xW b T xa xs) → va_S A s.heap H locs → lv_has ls 6 [(0, .ref (b 0)), (1, .ref v1q), (2, .int v2), (3, .int v3), (4, .int v4)] → X10_wedge_p104 k47 xs v1 v2 v3 v4 = some (r, xs') → W p l e rmX10_wedge s m args below meth c H locs 1 1 Q (F0 m 104 ls []) := by
    intro k47 hk47 xs v1 v2 v3 v4 xa v1q v1h H locs ls hR hU hP hD hS hl heq
    unfold X10_wedge_p104 at heq
    obtain ⟨x_1, ex_1⟩ : ∃ y : Int32, y = v4 + (1 : Int32) := ⟨_, rfl⟩
    have heq := nm_h ex_1 heq
    refine lv_iinc (v := x_1) (lv' := [(4, .int x_1), (0, .ref (b 0)), (1, .ref v1q), (2, .int v2), (3, .int v3)]) hx hb dX10_wedge_104 hl (k := 4) rfl (by rw [ex_1]; rfl) (by decide) rfl (fun ls hl => ?_)
    refine lv_goto (tgt := 47) hx hb dX10_wedge_107 (by decide) ?_
    refine W.widen (k := 1) (n := 1) (by first | decide | omega) (by first | decide | omega) ?_
    exact hk47 xs v1 v2 v3 x_1 xa v1q v1h H locs ls hR hU hP hD hS (lv_sub hl [1, 2, 3, 4, 0] rfl) heq
  have b110 : ∀ (xs : XS) (v3 : Int32) (xa : XA) (H : Heap) (locs : List Loc) (ls : Array Slot), xRel b xa xs → xSub xa0 xa → va_P D vwCl (xW b T xa xs) H → va_D A (xW b T xa xs) → va_S A s.heap H locs → lv_has ls 6 [(3, .int v3)] → X10_wedge_p110 xs v3 = some (r, xs') → W p l e rmX10_wedge s m args below meth c H locs 1 1 Q (F0 m 110 ls []) := by
    intro xs v3 xa H locs ls hR hU hP hD hS hl heq
    unfold X10_wedge_p110 at heq
    refine lv_iload_n hx hb dX10_wedge_110 rfl (lv_at hl 0 rfl) ?_
    obtain ⟨heq, heq2⟩ := ret_h heq
    subst heq
    subst heq2
    refine W.widen (k := 1) (n := 1) (by first | decide | omega) (by first | decide | omega) ?_
    exact hret 111 H locs ls xa hR hU hP hD hS rfl dX10_wedge_111
  have b47 : ∀ (n : Nat), ∀ (xs : XS) (v1 : BK) (v2 : Int32) (v3 : Int32) (v4 : Int32) (xa : XA) (v1q : Nat) (v1h : (v1q, v1) ∈ xPl xa) (H : Heap) (locs : List Loc) (ls : Array Slot), xRel b xa xs → xSub xa0 xa → va_P D vwCl (xW b T xa xs) H → va_D A (xW b T xa xs) → va_S A s.heap H locs → lv_has ls 6 [(0, .ref (b 0)), (1, .ref v1q), (2, .int v2), (3, .int v3), (4, .int v4)] → X10_wedge_p47 n xs v1 v2 v3 v4 = some (r, xs') → W p l e rmX10_wedge s m args below meth c H locs 1 1 Q (F0 m 47 ls []) := by
    intro n
    induction n with
    | zero => intro xs v1 v2 v3 v4 xa v1q v1h H locs ls hR hU hP hD hS hl heq; cases heq
    | succ n ih =>
      intro xs v1 v2 v3 v4 xa v1q v1h H locs ls hR hU hP hD hS hl heq
      rw [X10_wedge_p47_s] at heq
      refine lv_iload hx hb dX10_wedge_47 (lv_at hl 4 rfl) ?_
      refine lv_bipush (v := (12 : Int32)) hx hb dX10_wedge_49 (by decide) ?_
      refine lv_icmp_ge (tgt := 110) hx hb dX10_wedge_51 (by decide) (fun c_2 => ?_) (fun c_2 => ?_)
      · have heq := it_t c_2 heq
        refine W.widen (k := 1) (n := 1) (by first | decide | omega) (by first | decide | omega) ?_
        exact b110 xs v3 xa H locs ls hR hU hP hD hS (lv_sub hl [3] rfl) heq
      have heq := it_f c_2 heq
      refine lv_aload_n hx hb dX10_wedge_54 rfl (lv_at hl 0 rfl) ?_
      refine va_get (D := D) (ci := 10) (v := .ref (b 10)) (C := RX10) (T := TX10) (N := 7) hx hb hts hin10 hown hK hP 0 rfl rfl 1 (by decide) f16 (fun _ h9 => h9) rfl dX10_wedge_55 ?_
      refine lv_iload hx hb dX10_wedge_58 (lv_at hl 4 rfl) ?_
      refine lv_aload_n hx hb dX10_wedge_60 rfl (lv_at hl 1 rfl) ?_
      obtain ⟨⟨⟩, xs_3, h_4, heq⟩ := bnd_h heq
      refine x_vv (own := RX10) (As := [.int v4, .ref v1q]) (rest := []) hx hb hml hown hts (okX8_replace_1 z l D T b hR v1h h_4) (cwV 2 hts gX10_wedge_X8_replace rfl rfl rfl hdX8_replace ⟨Nat.le_of_ble_eq_true rfl, Nat.le_of_ble_eq_true rfl⟩) hK hA hX hP hD hS (ci := 8) (q0 := 10) rfl rfl rfl hl.1 rfl (Nat.le_of_ble_eq_true rfl) dX10_wedge_61 ⟨by show 1 + 0 ≤ 1; omega, by show 1 + 0 ≤ 1; omega⟩ (fun xa_5 H locs hR hsxa_5 hP hD hS => ?_)
      refine W.widen (k := 1) (n := 1) (Nat.le_refl _) (Nat.le_refl _) ?_
      have hU := xSub.tr hU hsxa_5
      refine lv_aload_n hx hb dX10_wedge_64 rfl (lv_at hl 0 rfl) ?_
      refine va_get (D := D) (ci := 10) (v := .ref (b 10)) (C := RX10) (T := TX10) (N := 7) hx hb hts hin10 hown hK hP 0 rfl rfl 1 (by decide) f16 (fun _ h9 => h9) rfl dX10_wedge_65 ?_
      obtain ⟨y_7, st_8, h_9, heq⟩ := bnd_h heq
      refine h_vi (own := RX10) (As := []) (rest := []) (wr := xWr1 b T xa_5 xs_3) hx hb hml hown hts (okX8_greatestLack z l D (fun j => b (10 + j)) T (fun j => some (xFo xa_5 1 j)) h_9) (cwV 0 hts gX10_wedge_X8_greatestLack rfl rfl rfl hdX8_greatestLack ⟨Nat.le_of_ble_eq_true rfl, Nat.le_of_ble_eq_true rfl⟩) hK hA hX hP hD hS (xp1 b T xa_5 xs_3) (xq1 b T xa_5 xs_3 _) (ci := 8) (q0 := 0) rfl rfl rfl hl.1 rfl (Nat.le_of_ble_eq_true rfl) dX10_wedge_68 ⟨by show 1 + 0 ≤ 1; omega, by show 1 + 0 ≤ 1; omega⟩ (fun H locs hP hD hS => ?_)
      obtain ⟨xs_10, exs_10⟩ : ∃ z, z = uT xs_3 1 st_8 := ⟨_, rfl⟩
      refine W.widen (k := 1) (n := 1) (Nat.le_refl _) (Nat.le_refl _) ?_
      have hR : xRel b xa_5 (uT xs_3 1 st_8) := hR.uT _ _
      rw [← exs_10] at hP hD hR
      have heq := nm_h exs_10 heq
      refine lv_istore (lv' := [(5, .int y_7), (0, .ref (b 0)), (1, .ref v1q), (2, .int v2), (3, .int v3), (4, .int v4)]) hx hb dX10_wedge_71 hl (by decide) rfl (fun ls hl => ?_)
      refine lv_aload_n hx hb dX10_wedge_73 rfl (lv_at hl 1 rfl) ?_
      refine va_get (D := D) (ci := 10) (v := .ref (b 10)) (C := RX10) (T := TX10) (N := 7) hx hb hts hin10 hown hK hP 0 rfl rfl 1 (by decide) f16 (fun _ h9 => h9) rfl dX10_wedge_74 ?_
      refine lv_iload hx hb dX10_wedge_77 (lv_at hl 5 rfl) ?_
      refine lv_aload_n hx hb dX10_wedge_79 rfl (lv_at hl 1 rfl) ?_
      refine va_get (D := D) (ci := 10) (v := .ref (b 3)) (C := RX10) (T := TX10) (N := 7) hx hb hts hin10 hown hK hP 0 rfl rfl 0 (by decide) f10 (fun _ h9 => h9) rfl dX10_wedge_80 ?_
      refine va_get (D := D) (ci := 8) (v := .ref (b 4)) (C := RX8) (T := TX8) (N := 10) hx hb hts hin8 hown hK hP 3 rfl rfl 0 (by decide) f84 (fun _ h9 => h9) rfl dX10_wedge_83 ?_
      refine lv_iload hx hb dX10_wedge_86 (lv_at hl 5 rfl) ?_
      obtain ⟨n_11, heq⟩ := inr_h heq
      have hb_12 := hR.1 0 (by decide) v4.toNatClampNeg (in_lt n_11)
      refine va_aldq (C := RX0) (n := 12) (f := fun j => some (xFo xa_5 0 j)) hx hb hK hP 4 1 rfl rfl n_11 dX10_wedge_88 ?_
      refine W.eq (g2 := F0 m 89 ls [.ref (xFo xa_5 0 v4.toNatClampNeg), .int v4, .ref (b 10)]) rfl ?_
      obtain ⟨⟨⟩, xs_13, h_14, heq⟩ := bnd_h heq
      refine x_vv (own := RX10) (As := [.int v4, .ref (xFo xa_5 0 v4.toNatClampNeg)]) (rest := []) hx hb hml hown hts (okX8_replace_1 z l D T b hR hb_12 h_14) (cwV 2 hts gX10_wedge_X8_replace rfl rfl rfl hdX8_replace ⟨Nat.le_of_ble_eq_true rfl, Nat.le_of_ble_eq_true rfl⟩) hK hA hX hP hD hS (ci := 8) (q0 := 10) rfl rfl rfl hl.1 rfl (Nat.le_of_ble_eq_true rfl) dX10_wedge_89 ⟨by show 1 + 0 ≤ 1; omega, by show 1 + 0 ≤ 1; omega⟩ (fun xa_15 H locs hR hsxa_15 hP hD hS => ?_)
      refine W.widen (k := 1) (n := 1) (Nat.le_refl _) (Nat.le_refl _) ?_
      have hU := xSub.tr hU hsxa_15
      refine lv_iload hx hb dX10_wedge_92 (lv_at hl 0 rfl) ?_
      refine lv_iload_n hx hb dX10_wedge_94 rfl (lv_at hl 3 rfl) ?_
      refine lv_icmp_ge (tgt := 104) hx hb dX10_wedge_95 (by decide) (fun c_17 => ?_) (fun c_17 => ?_)
      · have heq := it_t c_17 heq
        refine W.widen (k := 1) (n := 1) (by first | decide | omega) (by first | decide | omega) ?_
        exact b104 (fun xs v1 v2 v3 v4 => X10_wedge_p47 n xs v1 v2 v3 v4) ih xs_13 v1 v2 v3 v4 xa_15 v1q (hsxa_15.1 _ (hsxa_5.1 _ v1h)) H locs ls hR hU hP hD hS (lv_sub hl [1, 2, 3, 4, 5] rfl) heq
      have heq := it_f c_17 heq
      refine lv_iload hx hb dX10_wedge_98 (lv_at hl 0 rfl) ?_
      refine lv_istore_n (lv' := [(2, .int y_7), (5, .int y_7), (0, .ref (b 0)), (1, .ref v1q), (3, .int v3), (4, .int v4)]) hx hb dX10_wedge_100 rfl hl (by decide) rfl (fun ls hl => ?_)
      refine lv_iload hx hb dX10_wedge_101 (lv_at hl 5 rfl) ?_
      refine lv_istore_n (lv' := [(3, .int v4), (2, .int y_7), (5, .int y_7), (0, .ref (b 0)), (1, .ref v1q), (4, .int v4)]) hx hb dX10_wedge_103 rfl hl (by decide) rfl (fun ls hl => ?_)
      refine W.widen (k := 1) (n := 1) (by first | decide | omega) (by first | decide | omega) ?_
      exact b104 (fun xs v1 v2 v3 v4 => X10_wedge_p47 n xs v1 v2 v3 v4) ih xs_13 v1 y_7 v4 v4 xa_15 v1q (hsxa_15.1 _ (hsxa_5.1 _ v1h)) H locs ls hR hU hP hD hS (lv_sub hl [3, 4, 1, 0, 5] rfl) heq
  obtain ⟨H, hH⟩ : ∃ H, H = s.heap := ⟨_, rfl⟩
  obtain ⟨locs, hlocs⟩ : ∃ z : List Loc, z = [] := ⟨_, rfl⟩
  have hS : va_S A s.heap H locs := by rw [hH, hlocs]; exact hS
  have hP : va_P D vwCl (xW b T xa xs) H := by rw [hH]; exact hP
  suffices h9 : W p l e rmX10_wedge s m args below meth c H locs 0 0 Q (F0 m 0 ls []) by rw [hH, hlocs] at h9; exact h9
  clear hH hlocs
  unfold X10_wedge at heq
  refine lv_aload_n hx hb dX10_wedge_0 rfl (lv_at hl 0 rfl) ?_
  refine va_get (D := D) (ci := 10) (v := .ref (b 3)) (C := RX10) (T := TX10) (N := 7) hx hb hts hin10 hown hK hP 0 rfl rfl 0 (by decide) f10 (fun _ h9 => h9) rfl dX10_wedge_1 ?_
  obtain ⟨y_18, st_19, h_20, heq⟩ := bnd_h heq
  refine h_vi (own := RX10) (As := []) (rest := []) (wr := xWr0 b T xa xs) hx hb hml hown hts (okX8_isDown z l D (fun j => b (3 + j)) T (fun j => some (xFo xa 0 j)) h_20) (cwV 0 hts gX10_wedge_X8_isDown rfl rfl rfl hdX8_isDown ⟨Nat.le_of_ble_eq_true rfl, Nat.le_of_ble_eq_true rfl⟩) hK hA hX hP hD hS (xp0 b T xa xs) (xq0 b T xa xs _) (ci := 8) (q0 := 0) rfl rfl rfl hl.1 rfl (Nat.le_of_ble_eq_true rfl) dX10_wedge_4 ⟨by show 0 + 0 ≤ 1; omega, by show 0 + 0 ≤ 1; omega⟩ (fun H locs hP hD hS => ?_)
  obtain ⟨xs_21, exs_21⟩ : ∃ z, z = uT xs 0 st_19 := ⟨_, rfl⟩
  refine W.widen (k := 0) (n := 0) (Nat.le_refl _) (Nat.le_refl _) ?_
  have hR : xRel b xa (uT xs 0 st_19) := hR.uT _ _
  rw [← exs_21] at hP hD hR
  have heq := nm_h exs_21 heq
  refine lv_if_eq (tgt := 13) hx hb dX10_wedge_7 (by decide) (fun c_22 => ?_) (fun c_22 => ?_)
  · have heq := it_t c_22 heq
    refine lv_aload_n hx hb dX10_wedge_13 rfl (lv_at hl 0 rfl) ?_
    refine va_get (D := D) (ci := 10) (v := .ref (b 10)) (C := RX10) (T := TX10) (N := 7) hx hb hts hin10 hown hK hP 0 rfl rfl 1 (by decide) f16 (fun _ h9 => h9) rfl dX10_wedge_14 ?_
    refine lv_aload_n hx hb dX10_wedge_17 rfl (lv_at hl 0 rfl) ?_
    refine va_get (D := D) (ci := 10) (v := .ref (b 3)) (C := RX10) (T := TX10) (N := 7) hx hb hts hin10 hown hK hP 0 rfl rfl 0 (by decide) f10 (fun _ h9 => h9) rfl dX10_wedge_18 ?_
    obtain ⟨⟨⟩, xs_23, h_24, heq⟩ := bnd_h heq
    refine x_vv (own := RX10) (As := [.ref (b 3)]) (rest := []) hx hb hml hown hts (okX8_takeFrom_1_0 z l D T b hR h_24) (cwV 1 hts gX10_wedge_X8_takeFrom rfl rfl rfl hdX8_takeFrom ⟨Nat.le_of_ble_eq_true rfl, Nat.le_of_ble_eq_true rfl⟩) hK hA hX hP hD hS (ci := 8) (q0 := 10) rfl rfl rfl hl.1 rfl (Nat.le_of_ble_eq_true rfl) dX10_wedge_21 ⟨by show 0 + 0 ≤ 1; omega, by show 0 + 0 ≤ 1; omega⟩ (fun xa_25 H locs hR hsxa_25 hP hD hS => ?_)
    refine W.widen (k := 0) (n := 0) (Nat.le_refl _) (Nat.le_refl _) ?_
    have hU := xSub.tr hU hsxa_25
    refine va_new (ci := 9) (fs := [.int 0]) (C := RX9) (T := TX9) (N := 1) hx hb hts hin9 tyX9 tyX9_ok hown hw0 hw1 hw2 hK hP hD hS hA rfl (fun j hj => by rcases (show j = 0 by omega) with rfl <;> rfl) (by show 0 + 1 ≤ 1; omega) (by show 0 + 1 ≤ 1; omega) dX10_wedge_24 (fun q_27 H hP hD hS => ?_)
    refine lv_dup hx hb dX10_wedge_27 rfl ?_
    refine lv_iconst (v := (0 : Int32)) hx hb dX10_wedge_28 (by decide) ?_
    refine x_init (own := RX10) (k := 7) (rest := [.ref q_27]) hx hb hml hown hts (okX9_init_9 z l D T q_27 0 (0 : Int32)) (cwI 1 hts gX10_wedge_X9_init rfl rfl rfl hw2 hw3 hw4 rfl (by decide +kernel) ⟨Nat.le_of_ble_eq_true rfl, Nat.le_of_ble_eq_true rfl⟩) hK hA hX hP hD hS hl.1 (Nat.le_of_ble_eq_true rfl) dX10_wedge_29 ⟨by show (0 + 1) + 0 ≤ 1; omega, by show (0 + 1) + 0 ≤ 1; omega⟩ (fun H locs hP hD hS => ?_)
    refine W.widen (k := (0 + 1)) (n := (0 + 1)) (Nat.le_refl _) (Nat.le_refl _) ?_
    obtain ⟨xa_28, exa_28⟩ : ∃ z, z = xGrow xa_25 q_27 ((7, (0 : Int32)) : BK) := ⟨_, rfl⟩
    have hR : xRel b (xGrow xa_25 q_27 ((7, (0 : Int32)) : BK)) xs_23 := hR.grow (Nat.le_of_ble_eq_true rfl)
    have hm_29 : (q_27, ((7, (0 : Int32)) : BK)) ∈ xPl (xGrow xa_25 q_27 ((7, (0 : Int32)) : BK)) := xGrow.mem
    have hsxa_28 : xSub xa_25 xa_28 := by rw [exa_28]; exact xSub.grow
    rw [← exa_28] at hP hD hR hm_29
    have hU := xSub.tr hU hsxa_28
    refine lv_astore_n (lv' := [(1, .ref q_27), (0, .ref (b 0))]) hx hb dX10_wedge_32 rfl hl (by decide) rfl (fun ls hl => ?_)
    refine lv_aload_n hx hb dX10_wedge_33 rfl (lv_at hl 1 rfl) ?_
    refine va_get (D := D) (ci := 10) (v := .ref (b 3)) (C := RX10) (T := TX10) (N := 7) hx hb hts hin10 hown hK hP 0 rfl rfl 0 (by decide) f10 (fun _ h9 => h9) rfl dX10_wedge_34 ?_
    obtain ⟨y_30, st_31, h_32, heq⟩ := bnd_h heq
    refine h_vi (own := RX10) (As := []) (rest := []) (wr := xWr0 b T xa_28 xs_23) hx hb hml hown hts (okX8_greatestLack z l D (fun j => b (3 + j)) T (fun j => some (xFo xa_28 0 j)) h_32) (cwV 0 hts gX10_wedge_X8_greatestLack rfl rfl rfl hdX8_greatestLack ⟨Nat.le_of_ble_eq_true rfl, Nat.le_of_ble_eq_true rfl⟩) hK hA hX hP hD hS (xp0 b T xa_28 xs_23) (xq0 b T xa_28 xs_23 _) (ci := 8) (q0 := 0) rfl rfl rfl hl.1 rfl (Nat.le_of_ble_eq_true rfl) dX10_wedge_37 ⟨by show (0 + 1) + 0 ≤ 1; omega, by show (0 + 1) + 0 ≤ 1; omega⟩ (fun H locs hP hD hS => ?_)
    obtain ⟨xs_33, exs_33⟩ : ∃ z, z = uT xs_23 0 st_31 := ⟨_, rfl⟩
    refine W.widen (k := (0 + 1)) (n := (0 + 1)) (Nat.le_refl _) (Nat.le_refl _) ?_
    have hR : xRel b xa_28 (uT xs_23 0 st_31) := hR.uT _ _
    rw [← exs_33] at hP hD hR
    have heq := nm_h exs_33 heq
    refine lv_istore_n (lv' := [(2, .int y_30), (1, .ref q_27), (0, .ref (b 0))]) hx hb dX10_wedge_40 rfl hl (by decide) rfl (fun ls hl => ?_)
    refine lv_bipush (v := (-4 : Int32)) hx hb dX10_wedge_41 (by decide) ?_
    refine lv_istore_n (lv' := [(3, .int (-4 : Int32)), (2, .int y_30), (1, .ref q_27), (0, .ref (b 0))]) hx hb dX10_wedge_43 rfl hl (by decide) rfl (fun ls hl => ?_)
    refine lv_iconst (v := (0 : Int32)) hx hb dX10_wedge_44 (by decide) ?_
    refine lv_istore (lv' := [(4, .int (0 : Int32)), (3, .int (-4 : Int32)), (2, .int y_30), (1, .ref q_27), (0, .ref (b 0))]) hx hb dX10_wedge_45 hl (by decide) rfl (fun ls hl => ?_)
    refine W.widen (k := 1) (n := 1) (by first | decide | omega) (by first | decide | omega) ?_
    exact b47 13 xs_33 ((7, (0 : Int32)) : BK) y_30 (-4 : Int32) (0 : Int32) xa_28 q_27 hm_29 H locs ls hR hU hP hD hS (lv_sub hl [4, 3, 2, 1, 0] rfl) heq
  have heq := it_f c_22 heq
  refine lv_bipush (v := (-3 : Int32)) hx hb dX10_wedge_10 (by decide) ?_
  obtain ⟨heq, heq2⟩ := ret_h heq
  subst heq
  subst heq2
  refine W.widen (k := 1) (n := 1) (by first | decide | omega) (by first | decide | omega) ?_
  exact hret 12 H locs ls xa hR hU hP hD hS rfl dX10_wedge_12
