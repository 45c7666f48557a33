set_option maxRecDepth 20000 in
theorem ggX11_round_X11_open : GoodIn wsX11_round wsX11_open := goodIn_r _ [8, 9, 10, 11, 12, 7, 13, 14, 15, 16, 17, 18, 2, 19, 3, 20, 21, 22, 23, 24, 25, 26, 27, 79, 80, 81, 82, 83, 84, 85, 86, 87, 88, 89, 90, 91, 92, 93, 94, 95, 96, 97, 98, 99, 100, 101, 102, 103, 104, 105, 106, 107, 108, 109, 110, 111, 112, 113, 114, 115] (by decide +kernel) (by decide +kernel)
set_option maxRecDepth 20000 in
theorem gX11_round_X11_open : GoodIn wsX11_round (wsV RX11 238 RX11 yX11_open wsX11_open) := goodIn_app (goodIn_of _ (by decide +kernel)) ggX11_round_X11_open
set_option maxRecDepth 20000 in
theorem ggX11_round_X11_cut : GoodIn wsX11_round wsX11_cut := goodIn_r _ [31, 20, 21, 79, 80, 81, 82, 83, 84, 85, 86, 87, 88, 89, 90, 91, 92, 93, 94, 95, 96, 97, 98, 99, 100, 101, 102, 103, 104, 105, 106, 107, 108, 109, 110, 111, 112, 113, 114, 115] (by decide +kernel) (by decide +kernel)
set_option maxRecDepth 20000 in
theorem gX11_round_X11_cut : GoodIn wsX11_round (wsV RX11 225 RX11 yX11_cut wsX11_cut) := goodIn_app (goodIn_of _ (by decide +kernel)) ggX11_round_X11_cut
set_option maxRecDepth 20000 in
theorem ggX11_round_X11_stands : GoodIn wsX11_round wsX11_stands := goodIn_r _ [35, 36, 37, 38, 7, 39, 40, 41, 42, 43, 44, 45, 46, 47, 48, 49, 50, 51, 3, 52, 53, 54, 55, 56, 57, 58, 59, 60, 61, 62, 63, 64, 65, 17, 18, 66, 67, 68, 69, 70, 21, 20, 71, 72, 73, 74, 79, 80, 81, 82, 83, 84, 85, 86, 87, 88, 89, 90, 91, 92, 93, 94, 95, 96, 97, 98, 99, 100, 101, 102, 103, 104, 105, 106, 107, 108, 109, 110, 111, 112, 113, 114, 115] (by decide +kernel) (by decide +kernel)
set_option maxRecDepth 20000 in
theorem gX11_round_X11_stands : GoodIn wsX11_round (wsV RX11 125 RX11 yX11_stands wsX11_stands) := goodIn_app (goodIn_of _ (by decide +kernel)) ggX11_round_X11_stands
set_option maxRecDepth 20000 in
theorem ggX11_round_X11_fallSide : GoodIn wsX11_round wsX11_fallSide := goodIn_r _ [39, 40, 41, 42, 7, 43, 44, 45, 46, 47, 48, 49, 50, 51, 3, 52, 53, 54, 55, 56, 57, 58, 59, 60, 61, 62, 63, 64, 65, 17, 18, 66, 67, 68, 69, 70, 21, 20, 71, 72, 73, 74, 79, 80, 81, 82, 83, 84, 85, 86, 87, 88, 89, 90, 91, 92, 93, 94, 95, 96, 97, 98, 99, 100, 101, 102, 103, 104, 105, 106, 107, 108, 109, 110, 111, 112, 113, 114, 115] (by decide +kernel) (by decide +kernel)
set_option maxRecDepth 20000 in
theorem gX11_round_X11_fallSide : GoodIn wsX11_round (wsV RX11 119 RX11 yX11_fallSide wsX11_fallSide) := goodIn_app (goodIn_of _ (by decide +kernel)) ggX11_round_X11_fallSide
set_option maxRecDepth 20000 in
theorem ggX11_round_X11_close : GoodIn wsX11_round wsX11_close := goodIn_r _ [78, 9, 10, 11, 12, 7, 13, 14, 15, 16, 17, 18, 2, 19, 3, 20, 21, 22, 23, 24, 25, 26, 27, 79, 80, 81, 82, 83, 84, 85, 86, 87, 88, 89, 90, 91, 92, 93, 94, 95, 96, 97, 98, 99, 100, 101, 102, 103, 104, 105, 106, 107, 108, 109, 110, 111, 112, 113, 114, 115] (by decide +kernel) (by decide +kernel)
set_option maxRecDepth 20000 in
theorem gX11_round_X11_close : GoodIn wsX11_round (wsV RX11 241 RX11 yX11_close wsX11_close) := goodIn_app (goodIn_of _ (by decide +kernel)) ggX11_round_X11_close
theorem dX11_round_0 : decode cX11_round 0 = .ok (.aload_n 0, 1) := by decide +kernel
theorem dX11_round_1 : decode cX11_round 1 = .ok (.iconst 0, 1) := by decide +kernel
theorem dX11_round_2 : decode cX11_round 2 = .ok (.putfield 75, 3) := by decide +kernel
theorem dX11_round_5 : decode cX11_round 5 = .ok (.aload_n 0, 1) := by decide +kernel
theorem dX11_round_6 : decode cX11_round 6 = .ok (.getfield 122, 3) := by decide +kernel
theorem dX11_round_9 : decode cX11_round 9 = .ok (.ifCond .eq 6, 3) := by decide +kernel
theorem dX11_round_12 : decode cX11_round 12 = .ok (.bipush (-3), 2) := by decide +kernel
theorem dX11_round_14 : decode cX11_round 14 = .ok (.ireturn, 1) := by decide +kernel
theorem dX11_round_15 : decode cX11_round 15 = .ok (.bipush (-4), 2) := by decide +kernel
theorem dX11_round_17 : decode cX11_round 17 = .ok (.istore_n 1, 1) := by decide +kernel
theorem dX11_round_18 : decode cX11_round 18 = .ok (.aload_n 0, 1) := by decide +kernel
theorem dX11_round_19 : decode cX11_round 19 = .ok (.getfield 22, 3) := by decide +kernel
theorem dX11_round_22 : decode cX11_round 22 = .ok (.bipush 6, 2) := by decide +kernel
theorem dX11_round_24 : decode cX11_round 24 = .ok (.iaload, 1) := by decide +kernel
theorem dX11_round_25 : decode cX11_round 25 = .ok (.istore_n 2, 1) := by decide +kernel
theorem dX11_round_26 : decode cX11_round 26 = .ok (.aload_n 0, 1) := by decide +kernel
theorem dX11_round_27 : decode cX11_round 27 = .ok (.invokevirtual 238, 3) := by decide +kernel
theorem dX11_round_30 : decode cX11_round 30 = .ok (.iconst 0, 1) := by decide +kernel
theorem dX11_round_31 : decode cX11_round 31 = .ok (.istore_n 3, 1) := by decide +kernel
theorem dX11_round_32 : decode cX11_round 32 = .ok (.iload_n 3, 1) := by decide +kernel
theorem dX11_round_33 : decode cX11_round 33 = .ok (.bipush 6, 2) := by decide +kernel
theorem dX11_round_35 : decode cX11_round 35 = .ok (.if_icmp .ge 64, 3) := by decide +kernel
theorem dX11_round_38 : decode cX11_round 38 = .ok (.iload_n 1, 1) := by decide +kernel
theorem dX11_round_39 : decode cX11_round 39 = .ok (.bipush (-4), 2) := by decide +kernel
theorem dX11_round_41 : decode cX11_round 41 = .ok (.if_icmp .ne 58, 3) := by decide +kernel
theorem dX11_round_44 : decode cX11_round 44 = .ok (.aload_n 0, 1) := by decide +kernel
theorem dX11_round_45 : decode cX11_round 45 = .ok (.iload_n 2, 1) := by decide +kernel
theorem dX11_round_46 : decode cX11_round 46 = .ok (.iload_n 3, 1) := by decide +kernel
theorem dX11_round_47 : decode cX11_round 47 = .ok (.iadd, 1) := by decide +kernel
theorem dX11_round_48 : decode cX11_round 48 = .ok (.bipush 12, 2) := by decide +kernel
theorem dX11_round_50 : decode cX11_round 50 = .ok (.irem, 1) := by decide +kernel
theorem dX11_round_51 : decode cX11_round 51 = .ok (.invokevirtual 225, 3) := by decide +kernel
theorem dX11_round_54 : decode cX11_round 54 = .ok (.aload_n 0, 1) := by decide +kernel
theorem dX11_round_55 : decode cX11_round 55 = .ok (.iload_n 2, 1) := by decide +kernel
theorem dX11_round_56 : decode cX11_round 56 = .ok (.bipush 12, 2) := by decide +kernel
theorem dX11_round_58 : decode cX11_round 58 = .ok (.iadd, 1) := by decide +kernel
theorem dX11_round_59 : decode cX11_round 59 = .ok (.iload_n 3, 1) := by decide +kernel
theorem dX11_round_60 : decode cX11_round 60 = .ok (.isub, 1) := by decide +kernel
theorem dX11_round_61 : decode cX11_round 61 = .ok (.bipush 12, 2) := by decide +kernel
theorem dX11_round_63 : decode cX11_round 63 = .ok (.irem, 1) := by decide +kernel
theorem dX11_round_64 : decode cX11_round 64 = .ok (.invokevirtual 225, 3) := by decide +kernel
theorem dX11_round_67 : decode cX11_round 67 = .ok (.aload_n 0, 1) := by decide +kernel
theorem dX11_round_68 : decode cX11_round 68 = .ok (.invokevirtual 125, 3) := by decide +kernel
theorem dX11_round_71 : decode cX11_round 71 = .ok (.ifCond .ne 22, 3) := by decide +kernel
theorem dX11_round_74 : decode cX11_round 74 = .ok (.aload_n 0, 1) := by decide +kernel
theorem dX11_round_75 : decode cX11_round 75 = .ok (.invokevirtual 119, 3) := by decide +kernel
theorem dX11_round_78 : decode cX11_round 78 = .ok (.iload_n 2, 1) := by decide +kernel
theorem dX11_round_79 : decode cX11_round 79 = .ok (.if_icmp .ne 11, 3) := by decide +kernel
theorem dX11_round_82 : decode cX11_round 82 = .ok (.iconst 2, 1) := by decide +kernel
theorem dX11_round_83 : decode cX11_round 83 = .ok (.iload_n 3, 1) := by decide +kernel
theorem dX11_round_84 : decode cX11_round 84 = .ok (.imul, 1) := by decide +kernel
theorem dX11_round_85 : decode cX11_round 85 = .ok (.iconst 1, 1) := by decide +kernel
theorem dX11_round_86 : decode cX11_round 86 = .ok (.iadd, 1) := by decide +kernel
theorem dX11_round_87 : decode cX11_round 87 = .ok (.goto 5, 3) := by decide +kernel
theorem dX11_round_90 : decode cX11_round 90 = .ok (.bipush (-5), 2) := by decide +kernel
theorem dX11_round_92 : decode cX11_round 92 = .ok (.istore_n 1, 1) := by decide +kernel
theorem dX11_round_93 : decode cX11_round 93 = .ok (.iinc 3 1, 3) := by decide +kernel
theorem dX11_round_96 : decode cX11_round 96 = .ok (.goto (-64), 3) := by decide +kernel
theorem dX11_round_99 : decode cX11_round 99 = .ok (.aload_n 0, 1) := by decide +kernel
theorem dX11_round_100 : decode cX11_round 100 = .ok (.invokevirtual 241, 3) := by decide +kernel
theorem dX11_round_103 : decode cX11_round 103 = .ok (.iload_n 1, 1) := by decide +kernel
theorem dX11_round_104 : decode cX11_round 104 = .ok (.ifCond .ge 8, 3) := by decide +kernel
theorem dX11_round_107 : decode cX11_round 107 = .ok (.bipush (-4), 2) := by decide +kernel
theorem dX11_round_109 : decode cX11_round 109 = .ok (.goto 4, 3) := by decide +kernel
theorem dX11_round_112 : decode cX11_round 112 = .ok (.iload_n 1, 1) := by decide +kernel
theorem dX11_round_113 : decode cX11_round 113 = .ok (.ireturn, 1) := by decide +kernel
/-! round -/
def X11_round_p93 (k32 : MS → Int32 → Int32 → Int32 → Option (Int32 × MS)) (st : MS) (v1 : Int32) (v2 : Int32) (v3 : Int32) : Option (Int32 × MS) :=
    nm (v3 + (1 : Int32)) fun x_1 =>
    k32 st v1 v2 x_1
def X11_round_p92 (k32 : MS → Int32 → Int32 → Int32 → Option (Int32 × MS)) (st : MS) (v2 : Int32) (v3 : Int32) (t0 : Int32) : Option (Int32 × MS) :=
    X11_round_p93 k32 st t0 v2 v3
def X11_round_p113 (st : MS) (t0 : Int32) : Option (Int32 × MS) :=
    some (t0, st)
def X11_round_p99 (st : MS) (v1 : Int32) : Option (Int32 × MS) :=
    bnd (X11_close st) fun _ st_2 =>
    if 0 ≤ v1 then
      (X11_round_p113 st_2 v1)
    else
    X11_round_p113 st_2 (-4 : Int32)
def X11_round_p32 : Nat → MS → Int32 → Int32 → Int32 → Option (Int32 × MS)
  | 0, _, _, _, _ => none
  | n + 1, st, v1, v2, v3 =>
    if (6 : Int32) ≤ v3 then
      (X11_round_p99 st v1)
    else
    if v1 = (-4 : Int32) then
      (dvi (12 : Int32) <|
      bnd (X11_cut st ((v2 + v3) - (v2 + v3) / (12 : Int32) * (12 : Int32))) fun _ st_8 =>
      dvi (12 : Int32) <|
      bnd (X11_cut st_8 (((v2 + (12 : Int32)) - v3) - ((v2 + (12 : Int32)) - v3) / (12 : Int32) * (12 : Int32))) fun _ st_11 =>
      bnd (X11_stands st_11) fun y_14 st_13 =>
      if y_14 = 0 then
        (bnd (X11_fallSide st_13) fun y_18 st_17 =>
        if y_18 = v2 then
          (X11_round_p92 (fun st v1 v2 v3 => X11_round_p32  n st v1 v2 v3) st_17 v2 v3 (((2 : Int32) * v3) + (1 : Int32)))
        else
        X11_round_p92 (fun st v1 v2 v3 => X11_round_p32  n st v1 v2 v3) st_17 v2 v3 (-5 : Int32))
      else
      X11_round_p93 (fun st v1 v2 v3 => X11_round_p32  n st v1 v2 v3) st_13 v1 v2 v3)
    else
    X11_round_p99 st v1
theorem X11_round_p32_s (n : Nat) (st : MS) (v1 : Int32) (v2 : Int32) (v3 : Int32) : X11_round_p32  (n + 1) st v1 v2 v3 =
    (if (6 : Int32) ≤ v3 then
      (X11_round_p99 st v1)
    else
    if v1 = (-4 : Int32) then
      (dvi (12 : Int32) <|
      bnd (X11_cut st ((v2 + v3) - (v2 + v3) / (12 : Int32) * (12 : Int32))) fun _ st_8 =>
      dvi (12 : Int32) <|
      bnd (X11_cut st_8 (((v2 + (12 : Int32)) - v3) - ((v2 + (12 : Int32)) - v3) / (12 : Int32) * (12 : Int32))) fun _ st_11 =>
      bnd (X11_stands st_11) fun y_14 st_13 =>
      if y_14 = 0 then
        (bnd (X11_fallSide st_13) fun y_18 st_17 =>
        if y_18 = v2 then
          (X11_round_p92 (fun st v1 v2 v3 => X11_round_p32  n st v1 v2 v3) st_17 v2 v3 (((2 : Int32) * v3) + (1 : Int32)))
        else
        X11_round_p92 (fun st v1 v2 v3 => X11_round_p32  n st v1 v2 v3) st_17 v2 v3 (-5 : Int32))
      else
      X11_round_p93 (fun st v1 v2 v3 => X11_round_p32  n st v1 v2 v3) st_13 v1 v2 v3)
    else
    X11_round_p99 st v1) := rfl
def X11_round (st : MS) : Option (Int32 × MS) :=
    nm (sF st 17 (0 : Int32)) fun st_21 =>
    if (gF st_21 7) = 0 then
      (inr (6 : Int32) 7 <|
      nm ((gA st_21 4 (6 : Int32).toNatClampNeg)) fun x_24 =>
      bnd (X11_open st_21) fun _ st_25 =>
      X11_round_p32 7 st_25 (-4 : Int32) x_24 (0 : Int32))
    else
    some ((-3 : Int32), st_21)
abbrev rmX11_round : Room := { frames := 7, cells := 0, slots := 0, locals := 151 }
theorem hdX11_round : yX11_round.cls = RX11 ∧ yX11_round.cls ≠ "java/lang/invoke/MethodHandle" ∧ yX11_round.cls ≠ "java/lang/invoke/VarHandle" ∧ (parseMethodDescriptor yX11_round.desc).map (fun d => d.parameters.length) = some 0 := by decide +kernel
set_option maxRecDepth 100000 in
set_option maxHeartbeats 4000000 in
theorem okX11_round (l : Launch) (D : va_G) (a : Nat → Nat) (T : mT3) {st : MS} {r : Int32} {st' : MS} (heq : X11_round st = some (r, st')) : gCi l D (mT T) yX11_round wsX11_round rmX11_round [.ref (a 0)] (mW a T st) r (mW a T st') := by
  refine g_body_i (by decide) rfl (Nat.le_of_ble_eq_true rfl) (fun p e s m args below meth c A Q hx hb hml hown hts hK hA hret ls hP hD hS hl => ?_)
  have hl : lv_has ls 4 [(0, .ref (a 0))] := hl
  have hin : ∀ w ∈ wsX110, w ∈ wsX11_round := fun w h => List.mem_cons_of_mem _ (List.mem_append_right _ h)
  have f22 : (Cond.fieldLink RX11 22 RX11 (TX11 4).2.1 (TX11 4).2.2.1).before args s = true := hts (.fieldLink RX11 22 "LaidDownTheLaneModel" "settings" "[I") (by decide +kernel)
  have f75 : (Cond.fieldLink RX11 75 RX11 (TX11 17).2.1 (TX11 17).2.2.1).before args s = true := hts (.fieldLink RX11 75 "LaidDownTheLaneModel" "thrown" "I") (by decide +kernel)
  have f122 : (Cond.fieldLink RX11 122 RX11 (TX11 7).2.1 (TX11 7).2.2.1).before args s = true := hts (.fieldLink RX11 122 "LaidDownTheLaneModel" "isDown" "Z") (by decide +kernel)
  have b93 : ∀ (k32 : MS → Int32 → Int32 → Int32 → Option (Int32 × MS)) (hk32 : ∀ (st : MS) (v1 : Int32) (v2 : Int32) (v3 : Int32) (H : Heap) (locs : List Loc) (ls : Array Slot), va_P D vwCl (mW a T st) H → va_D A (mW a T st) → va_S A s.heap H locs → lv_has ls 4 [(0, .ref (a 0)), (1, .int v1), (2, .int v2), (3, .int v3)] → k32 st v1 v2 v3 = some (r, st') → W p l e rmX11_round s m args below meth c H locs 0 0 Q (F0 m 32 ls [])), ∀ (st : MS) (v1 : Int32) (v2 : Int32) (v3 : Int32) (H : Heap) (locs : List Loc) (ls : Array Slot), va_P D vwCl (mW a T st) H → va_D A (mW a T st) → va_S A s.heap H locs → lv_has ls 4 [(0, .ref (a 0)), (1, .int v1), (2, .int v2), (3, .int v3)] → X11_round_p93 k32 st v1 v2 v3 = some (r, st') → W p l e rmX11_round s m args below meth c H locs 0 0 Q (F0 m 93 ls []) := by
    intro k32 hk32 st v1 v2 v3 H locs ls hP hD hS hl heq
    unfold X11_round_p93 at heq
    obtain ⟨x_1, ex_1⟩ : ∃ y : Int32, y = v3 + (1 : Int32) := ⟨_, rfl⟩
    have heq := nm_h ex_1 heq
    refine lv_iinc (v := x_1) (lv' := [(3, .int x_1), (0, .ref (a 0)), (1, .int v1), (2, .int v2)]) hx hb dX11_round_93 hl (k := 3) rfl (by rw [ex_1]; rfl) (by decide) rfl (fun ls hl => ?_)
    refine lv_goto (tgt := 32) hx hb dX11_round_96 (by decide) ?_
    exact hk32 st v1 v2 x_1 H locs ls hP hD hS (lv_sub hl [1, 2, 3, 0] rfl) heq
  have b92 : ∀ (k32 : MS → Int32 → Int32 → Int32 → Option (Int32 × MS)) (hk32 : ∀ (st : MS) (v1 : Int32) (v2 : Int32) (v3 : Int32) (H : Heap) (locs : List Loc) (ls : Array Slot), va_P D vwCl (mW a T st) H → va_D A (mW a T st) → va_S A s.heap H locs → lv_has ls 4 [(0, .ref (a 0)), (1, .int v1), (2, .int v2), (3, .int v3)] → k32 st v1 v2 v3 = some (r, st') → W p l e rmX11_round s m args below meth c H locs 0 0 Q (F0 m 32 ls [])), ∀ (st : MS) (v2 : Int32) (v3 : Int32) (t0 : Int32) (H : Heap) (locs : List Loc) (ls : Array Slot), va_P D vwCl (mW a T st) H → va_D A (mW a T st) → va_S A s.heap H locs → lv_has ls 4 [(0, .ref (a 0)), (2, .int v2), (3, .int v3)] → X11_round_p92 k32 st v2 v3 t0 = some (r, st') → W p l e rmX11_round s m args below meth c H locs 0 0 Q (F0 m 92 ls [.int t0]) := by
    intro k32 hk32 st v2 v3 t0 H locs ls hP hD hS hl heq
    unfold X11_round_p92 at heq
    refine lv_istore_n (lv' := [(1, .int t0), (0, .ref (a 0)), (2, .int v2), (3, .int v3)]) hx hb dX11_round_92 rfl hl (by decide) rfl (fun ls hl => ?_)
    exact b93 k32 hk32 st t0 v2 v3 H locs ls hP hD hS (lv_sub hl [1, 0, 2, 3] rfl) heq
  have b113 : ∀ (st : MS) (t0 : Int32) (H : Heap) (locs : List Loc) (ls : Array Slot), va_P D vwCl (mW a T st) H → va_D A (mW a T st) → va_S A s.heap H locs → lv_has ls 4 [] → X11_round_p113  st t0 = some (r, st') → W p l e rmX11_round s m args below meth c H locs 0 0 Q (F0 m 113 ls [.int t0]) := by
    intro st t0 H locs ls hP hD hS hl heq
    unfold X11_round_p113 at heq
    obtain ⟨heq, heq2⟩ := ret_h heq
    subst heq
    subst heq2
    exact hret 113 H locs ls hP hD hS rfl dX11_round_113
  have b99 : ∀ (st : MS) (v1 : Int32) (H : Heap) (locs : List Loc) (ls : Array Slot), va_P D vwCl (mW a T st) H → va_D A (mW a T st) → va_S A s.heap H locs → lv_has ls 4 [(0, .ref (a 0)), (1, .int v1)] → X11_round_p99  st v1 = some (r, st') → W p l e rmX11_round s m args below meth c H locs 0 0 Q (F0 m 99 ls []) := by
    intro st v1 H locs ls hP hD hS hl heq
    unfold X11_round_p99 at heq
    refine lv_aload_n hx hb dX11_round_99 rfl (lv_at hl 0 rfl) ?_
    obtain ⟨⟨⟩, st_2, h_3, heq⟩ := bnd_h heq
    refine g_vv (own := RX11) (As := []) (rest := []) hx hb hml hown hts (okX11_close l D a T h_3) (cwV 0 hts gX11_round_X11_close rfl rfl rfl hdX11_close ⟨Nat.le_of_ble_eq_true rfl, Nat.le_of_ble_eq_true rfl⟩) hK hA hP hD hS (ci := 11) (q0 := 0) rfl rfl rfl hl.1 rfl (Nat.le_of_ble_eq_true rfl) dX11_round_100 ⟨Nat.le_of_ble_eq_true rfl, Nat.le_of_ble_eq_true rfl⟩ (fun H locs hP hD hS => ?_)
    refine lv_iload_n hx hb dX11_round_103 rfl (lv_at hl 1 rfl) ?_
    refine lv_if_ge (tgt := 112) hx hb dX11_round_104 (by decide) (fun c_4 => ?_) (fun c_4 => ?_)
    · have heq := it_t c_4 heq
      refine lv_iload_n hx hb dX11_round_112 rfl (lv_at hl 1 rfl) ?_
      exact b113 st_2 v1 H locs ls hP hD hS (lv_sub hl [] rfl) heq
    have heq := it_f c_4 heq
    refine lv_bipush (v := (-4 : Int32)) hx hb dX11_round_107 (by decide) ?_
    refine lv_goto (tgt := 113) hx hb dX11_round_109 (by decide) ?_
    exact b113 st_2 (-4 : Int32) H locs ls hP hD hS (lv_sub hl [] rfl) heq
  have b32 : ∀ (n : Nat), ∀ (st : MS) (v1 : Int32) (v2 : Int32) (v3 : Int32) (H : Heap) (locs : List Loc) (ls : Array Slot), va_P D vwCl (mW a T st) H → va_D A (mW a T st) → va_S A s.heap H locs → lv_has ls 4 [(0, .ref (a 0)), (1, .int v1), (2, .int v2), (3, .int v3)] → X11_round_p32  n st v1 v2 v3 = some (r, st') → W p l e rmX11_round s m args below meth c H locs 0 0 Q (F0 m 32 ls []) := by
    intro n
    induction n with
    | zero => intro st v1 v2 v3 H locs ls hP hD hS hl heq; cases heq
    | succ n ih =>
      intro st v1 v2 v3 H locs ls hP hD hS hl heq
      rw [X11_round_p32_s] at heq
      refine lv_iload_n hx hb dX11_round_32 rfl (lv_at hl 3 rfl) ?_
      refine lv_bipush (v := (6 : Int32)) hx hb dX11_round_33 (by decide) ?_
      refine lv_icmp_ge (tgt := 99) hx hb dX11_round_35 (by decide) (fun c_5 => ?_) (fun c_5 => ?_)
      · have heq := it_t c_5 heq
        exact b99 st v1 H locs ls hP hD hS (lv_sub hl [0, 1] rfl) heq
      have heq := it_f c_5 heq
      refine lv_iload_n hx hb dX11_round_38 rfl (lv_at hl 1 rfl) ?_
      refine lv_bipush (v := (-4 : Int32)) hx hb dX11_round_39 (by decide) ?_
      refine lv_icmp_ne (tgt := 99) hx hb dX11_round_41 (by decide) (fun c_6 => ?_) (fun c_6 => ?_)
      · have heq := it_f c_6 heq
        exact b99 st v1 H locs ls hP hD hS (lv_sub hl [0, 1] rfl) heq
      have heq := it_t c_6 heq
      refine lv_aload_n hx hb dX11_round_44 rfl (lv_at hl 0 rfl) ?_
      refine lv_iload_n hx hb dX11_round_45 rfl (lv_at hl 2 rfl) ?_
      refine lv_iload_n hx hb dX11_round_46 rfl (lv_at hl 3 rfl) ?_
      refine lv_iadd hx hb dX11_round_47 ?_
      refine lv_bipush (v := (12 : Int32)) hx hb dX11_round_48 (by decide) ?_
      obtain ⟨n_7, heq⟩ := dvi_h heq
      refine lv_irem hx hb dX11_round_50 n_7 ?_
      obtain ⟨⟨⟩, st_8, h_9, heq⟩ := bnd_h heq
      refine g_vv (own := RX11) (As := [.int ((v2 + v3) - (v2 + v3) / (12 : Int32) * (12 : Int32))]) (rest := []) hx hb hml hown hts (okX11_cut l D a T h_9) (cwV 1 hts gX11_round_X11_cut rfl rfl rfl hdX11_cut ⟨Nat.le_of_ble_eq_true rfl, Nat.le_of_ble_eq_true rfl⟩) hK hA hP hD hS (ci := 11) (q0 := 0) rfl rfl rfl hl.1 rfl (Nat.le_of_ble_eq_true rfl) dX11_round_51 ⟨Nat.le_of_ble_eq_true rfl, Nat.le_of_ble_eq_true rfl⟩ (fun H locs hP hD hS => ?_)
      refine lv_aload_n hx hb dX11_round_54 rfl (lv_at hl 0 rfl) ?_
      refine lv_iload_n hx hb dX11_round_55 rfl (lv_at hl 2 rfl) ?_
      refine lv_bipush (v := (12 : Int32)) hx hb dX11_round_56 (by decide) ?_
      refine lv_iadd hx hb dX11_round_58 ?_
      refine lv_iload_n hx hb dX11_round_59 rfl (lv_at hl 3 rfl) ?_
      refine lv_isub hx hb dX11_round_60 ?_
      refine lv_bipush (v := (12 : Int32)) hx hb dX11_round_61 (by decide) ?_
      obtain ⟨n_10, heq⟩ := dvi_h heq
      refine lv_irem hx hb dX11_round_63 n_10 ?_
      obtain ⟨⟨⟩, st_11, h_12, heq⟩ := bnd_h heq
      refine g_vv (own := RX11) (As := [.int (((v2 + (12 : Int32)) - v3) - ((v2 + (12 : Int32)) - v3) / (12 : Int32) * (12 : Int32))]) (rest := []) hx hb hml hown hts (okX11_cut l D a T h_12) (cwV 1 hts gX11_round_X11_cut rfl rfl rfl hdX11_cut ⟨Nat.le_of_ble_eq_true rfl, Nat.le_of_ble_eq_true rfl⟩) hK hA hP hD hS (ci := 11) (q0 := 0) rfl rfl rfl hl.1 rfl (Nat.le_of_ble_eq_true rfl) dX11_round_64 ⟨Nat.le_of_ble_eq_true rfl, Nat.le_of_ble_eq_true rfl⟩ (fun H locs hP hD hS => ?_)
      refine lv_aload_n hx hb dX11_round_67 rfl (lv_at hl 0 rfl) ?_
      obtain ⟨y_14, st_13, h_15, heq⟩ := bnd_h heq
      refine g_vi (own := RX11) (As := []) (rest := []) hx hb hml hown hts (okX11_stands l D a T h_15) (cwV 0 hts gX11_round_X11_stands rfl rfl rfl hdX11_stands ⟨Nat.le_of_ble_eq_true rfl, Nat.le_of_ble_eq_true rfl⟩) hK hA hP hD hS (ci := 11) (q0 := 0) rfl rfl rfl hl.1 rfl (Nat.le_of_ble_eq_true rfl) dX11_round_68 ⟨Nat.le_of_ble_eq_true rfl, Nat.le_of_ble_eq_true rfl⟩ (fun H locs hP hD hS => ?_)
      refine lv_if_ne (tgt := 93) hx hb dX11_round_71 (by decide) (fun c_16 => ?_) (fun c_16 => ?_)
      · have heq := it_f c_16 heq
        exact b93 (fun st v1 v2 v3 => X11_round_p32  n st v1 v2 v3) ih st_13 v1 v2 v3 H locs ls hP hD hS (lv_sub hl [0, 1, 2, 3] rfl) heq
      have heq := it_t c_16 heq
      refine lv_aload_n hx hb dX11_round_74 rfl (lv_at hl 0 rfl) ?_
      obtain ⟨y_18, st_17, h_19, heq⟩ := bnd_h heq
      refine g_vi (own := RX11) (As := []) (rest := []) hx hb hml hown hts (okX11_fallSide l D a T h_19) (cwV 0 hts gX11_round_X11_fallSide rfl rfl rfl hdX11_fallSide ⟨Nat.le_of_ble_eq_true rfl, Nat.le_of_ble_eq_true rfl⟩) hK hA hP hD hS (ci := 11) (q0 := 0) rfl rfl rfl hl.1 rfl (Nat.le_of_ble_eq_true rfl) dX11_round_75 ⟨Nat.le_of_ble_eq_true rfl, Nat.le_of_ble_eq_true rfl⟩ (fun H locs hP hD hS => ?_)
      refine lv_iload_n hx hb dX11_round_78 rfl (lv_at hl 2 rfl) ?_
      refine lv_icmp_ne (tgt := 90) hx hb dX11_round_79 (by decide) (fun c_20 => ?_) (fun c_20 => ?_)
      · have heq := it_f c_20 heq
        refine lv_bipush (v := (-5 : Int32)) hx hb dX11_round_90 (by decide) ?_
        exact b92 (fun st v1 v2 v3 => X11_round_p32  n st v1 v2 v3) ih st_17 v2 v3 (-5 : Int32) H locs ls hP hD hS (lv_sub hl [0, 2, 3] rfl) heq
      have heq := it_t c_20 heq
      refine lv_iconst (v := (2 : Int32)) hx hb dX11_round_82 (by decide) ?_
      refine lv_iload_n hx hb dX11_round_83 rfl (lv_at hl 3 rfl) ?_
      refine lv_imul hx hb dX11_round_84 ?_
      refine lv_iconst (v := (1 : Int32)) hx hb dX11_round_85 (by decide) ?_
      refine lv_iadd hx hb dX11_round_86 ?_
      refine lv_goto (tgt := 92) hx hb dX11_round_87 (by decide) ?_
      exact b92 (fun st v1 v2 v3 => X11_round_p32  n st v1 v2 v3) ih st_17 v2 v3 (((2 : Int32) * v3) + (1 : Int32)) H locs ls hP hD hS (lv_sub hl [0, 2, 3] rfl) heq
  obtain ⟨H, hH⟩ : ∃ H, H = s.heap := ⟨_, rfl⟩
  obtain ⟨locs, hlocs⟩ : ∃ z : List Loc, z = [] := ⟨_, rfl⟩
  have hS : va_S A s.heap H locs := by rw [hH, hlocs]; exact hS
  have hP : va_P D vwCl (mW a T st) H := by rw [hH]; exact hP
  suffices h9 : W p l e rmX11_round s m args below meth c H locs 0 0 Q (F0 m 0 ls []) by rw [hH, hlocs] at h9; exact h9
  clear hH hlocs
  unfold X11_round at heq
  refine lv_aload_n hx hb dX11_round_0 rfl (lv_at hl 0 rfl) ?_
  refine lv_iconst (v := (0 : Int32)) hx hb dX11_round_1 (by decide) ?_
  refine mp (k := 17) hx hb hts hin hown hK hP hD hS (by decide) f75 dX11_round_2 rfl rfl rfl rfl (mset_17 ..) (fun H locs hP hD hS => ?_)
  obtain ⟨st_21, est_21⟩ : ∃ z, z = sF st 17 (0 : Int32) := ⟨_, rfl⟩
  rw [← est_21] at hP hD
  have heq := nm_h est_21 heq
  refine lv_aload_n hx hb dX11_round_5 rfl (lv_at hl 0 rfl) ?_
  refine mg (k := 7) (v := .int (gF st_21 7)) hx hb hts hin hown hK hP (by decide) f122 rfl dX11_round_6 rfl ?_
  refine lv_if_eq (tgt := 15) hx hb dX11_round_9 (by decide) (fun c_22 => ?_) (fun c_22 => ?_)
  · have heq := it_t c_22 heq
    refine lv_bipush (v := (-4 : Int32)) hx hb dX11_round_15 (by decide) ?_
    refine lv_istore_n (lv' := [(1, .int (-4 : Int32)), (0, .ref (a 0))]) hx hb dX11_round_17 rfl hl (by decide) rfl (fun ls hl => ?_)
    refine lv_aload_n hx hb dX11_round_18 rfl (lv_at hl 1 rfl) ?_
    refine mg (k := 4) (v := .ref (a 5)) hx hb hts hin hown hK hP (by decide) f22 rfl dX11_round_19 rfl ?_
    refine lv_bipush (v := (6 : Int32)) hx hb dX11_round_22 (by decide) ?_
    obtain ⟨n_23, heq⟩ := inr_h heq
    refine mal (k := 4) (q := 5) (n := 7) hx hb hK hP rfl n_23 dX11_round_24 ?_
    refine lv_topi (fun x_24 ex_24 => ?_)
    have heq := nm_h ex_24 heq
    refine lv_istore_n (lv' := [(2, .int x_24), (1, .int (-4 : Int32)), (0, .ref (a 0))]) hx hb dX11_round_25 rfl hl (by decide) rfl (fun ls hl => ?_)
    refine lv_aload_n hx hb dX11_round_26 rfl (lv_at hl 2 rfl) ?_
    obtain ⟨⟨⟩, st_25, h_26, heq⟩ := bnd_h heq
    refine g_vv (own := RX11) (As := []) (rest := []) hx hb hml hown hts (okX11_open l D a T h_26) (cwV 0 hts gX11_round_X11_open rfl rfl rfl hdX11_open ⟨Nat.le_of_ble_eq_true rfl, Nat.le_of_ble_eq_true rfl⟩) hK hA hP hD hS (ci := 11) (q0 := 0) rfl rfl rfl hl.1 rfl (Nat.le_of_ble_eq_true rfl) dX11_round_27 ⟨Nat.le_of_ble_eq_true rfl, Nat.le_of_ble_eq_true rfl⟩ (fun H locs hP hD hS => ?_)
    refine lv_iconst (v := (0 : Int32)) hx hb dX11_round_30 (by decide) ?_
    refine lv_istore_n (lv' := [(3, .int (0 : Int32)), (2, .int x_24), (1, .int (-4 : Int32)), (0, .ref (a 0))]) hx hb dX11_round_31 rfl hl (by decide) rfl (fun ls hl => ?_)
    exact b32 7 st_25 (-4 : Int32) x_24 (0 : Int32) H locs ls hP hD hS (lv_sub hl [3, 2, 1, 0] rfl) heq
  have heq := it_f c_22 heq
  refine lv_bipush (v := (-3 : Int32)) hx hb dX11_round_12 (by decide) ?_
  obtain ⟨heq, heq2⟩ := ret_h heq
  subst heq
  subst heq2
  exact hret 14 H locs ls hP hD hS rfl dX11_round_14
set_option maxRecDepth 20000 in
theorem ggX11_moreOn_X11_open : GoodIn wsX11_moreOn wsX11_open := goodIn_r _ [8, 9, 10, 11, 12, 7, 13, 14, 15, 16, 17, 18, 2, 19, 3, 20, 21, 22, 23, 24, 25, 26, 27, 70, 71, 72, 73, 74, 75, 76, 77, 78, 79, 80, 81, 82, 83, 84, 85, 86, 87, 88, 89, 90, 91, 92, 93, 94, 95, 96, 97, 98, 99, 100, 101, 102, 103, 104, 105, 106] (by decide +kernel) (by decide +kernel)
set_option maxRecDepth 20000 in
theorem gX11_moreOn_X11_open : GoodIn wsX11_moreOn (wsV RX11 238 RX11 yX11_open wsX11_open) := goodIn_app (goodIn_of _ (by decide +kernel)) ggX11_moreOn_X11_open
set_option maxRecDepth 20000 in
theorem ggX11_moreOn_X11_cut : GoodIn wsX11_moreOn wsX11_cut := goodIn_r _ [31, 20, 21, 70, 71, 72, 73, 74, 75, 76, 77, 78, 79, 80, 81, 82, 83, 84, 85, 86, 87, 88, 89, 90, 91, 92, 93, 94, 95, 96, 97, 98, 99, 100, 101, 102, 103, 104, 105, 106] (by decide +kernel) (by decide +kernel)
set_option maxRecDepth 20000 in
theorem gX11_moreOn_X11_cut : GoodIn wsX11_moreOn (wsV RX11 225 RX11 yX11_cut wsX11_cut) := goodIn_app (goodIn_of _ (by decide +kernel)) ggX11_moreOn_X11_cut
set_option maxRecDepth 20000 in
theorem ggX11_moreOn_X11_lacksOn : GoodIn wsX11_moreOn wsX11_lacksOn := goodIn_r _ [35, 36, 37, 38, 7, 39, 3, 40, 41, 42, 43, 44, 45, 46, 47, 48, 49, 50, 51, 52, 53, 17, 18, 54, 55, 56, 57, 58, 21, 20, 59, 60, 61, 62, 70, 71, 72, 73, 74, 75, 76, 77, 78, 79, 80, 81, 82, 83, 84, 85, 86, 87, 88, 89, 90, 91, 92, 93, 94, 95, 96, 97, 98, 99, 100, 101, 102, 103, 104, 105, 106] (by decide +kernel) (by decide +kernel)
set_option maxRecDepth 20000 in
theorem gX11_moreOn_X11_lacksOn : GoodIn wsX11_moreOn (wsV RX11 112 RX11 yX11_lacksOn wsX11_lacksOn) := goodIn_app (goodIn_of _ (by decide +kernel)) ggX11_moreOn_X11_lacksOn
set_option maxRecDepth 20000 in
theorem ggX11_moreOn_X11_greater : GoodIn wsX11_moreOn wsX11_greater := goodIn_r _ [65] (by decide +kernel) (by decide +kernel)
set_option maxRecDepth 20000 in
theorem gX11_moreOn_X11_greater : GoodIn wsX11_moreOn (va_wsS RX11 252 yX11_greater wsX11_greater) := goodIn_app (goodIn_of _ (by decide +kernel)) ggX11_moreOn_X11_greater
set_option maxRecDepth 20000 in
theorem ggX11_moreOn_X11_close : GoodIn wsX11_moreOn wsX11_close := goodIn_r _ [69, 9, 10, 11, 12, 7, 13, 14, 15, 16, 17, 18, 2, 19, 3, 20, 21, 22, 23, 24, 25, 26, 27, 70, 71, 72, 73, 74, 75, 76, 77, 78, 79, 80, 81, 82, 83, 84, 85, 86, 87, 88, 89, 90, 91, 92, 93, 94, 95, 96, 97, 98, 99, 100, 101, 102, 103, 104, 105, 106] (by decide +kernel) (by decide +kernel)
set_option maxRecDepth 20000 in
theorem gX11_moreOn_X11_close : GoodIn wsX11_moreOn (wsV RX11 241 RX11 yX11_close wsX11_close) := goodIn_app (goodIn_of _ (by decide +kernel)) ggX11_moreOn_X11_close
theorem dX11_moreOn_0 : decode cX11_moreOn 0 = .ok (.aload_n 0, 1) := by decide +kernel
theorem dX11_moreOn_1 : decode cX11_moreOn 1 = .ok (.iconst 0, 1) := by decide +kernel
theorem dX11_moreOn_2 : decode cX11_moreOn 2 = .ok (.putfield 75, 3) := by decide +kernel
theorem dX11_moreOn_5 : decode cX11_moreOn 5 = .ok (.aload_n 0, 1) := by decide +kernel
theorem dX11_moreOn_6 : decode cX11_moreOn 6 = .ok (.getfield 122, 3) := by decide +kernel
theorem dX11_moreOn_9 : decode cX11_moreOn 9 = .ok (.ifCond .eq 6, 3) := by decide +kernel
theorem dX11_moreOn_12 : decode cX11_moreOn 12 = .ok (.bipush (-3), 2) := by decide +kernel
theorem dX11_moreOn_14 : decode cX11_moreOn 14 = .ok (.ireturn, 1) := by decide +kernel
theorem dX11_moreOn_15 : decode cX11_moreOn 15 = .ok (.aload_n 0, 1) := by decide +kernel
theorem dX11_moreOn_16 : decode cX11_moreOn 16 = .ok (.getfield 22, 3) := by decide +kernel
theorem dX11_moreOn_19 : decode cX11_moreOn 19 = .ok (.bipush 6, 2) := by decide +kernel
theorem dX11_moreOn_21 : decode cX11_moreOn 21 = .ok (.iaload, 1) := by decide +kernel
theorem dX11_moreOn_22 : decode cX11_moreOn 22 = .ok (.istore_n 1, 1) := by decide +kernel
theorem dX11_moreOn_23 : decode cX11_moreOn 23 = .ok (.iload_n 1, 1) := by decide +kernel
theorem dX11_moreOn_24 : decode cX11_moreOn 24 = .ok (.iconst 1, 1) := by decide +kernel
theorem dX11_moreOn_25 : decode cX11_moreOn 25 = .ok (.iadd, 1) := by decide +kernel
theorem dX11_moreOn_26 : decode cX11_moreOn 26 = .ok (.bipush 12, 2) := by decide +kernel
theorem dX11_moreOn_28 : decode cX11_moreOn 28 = .ok (.irem, 1) := by decide +kernel
theorem dX11_moreOn_29 : decode cX11_moreOn 29 = .ok (.istore_n 2, 1) := by decide +kernel
theorem dX11_moreOn_30 : decode cX11_moreOn 30 = .ok (.iload_n 1, 1) := by decide +kernel
theorem dX11_moreOn_31 : decode cX11_moreOn 31 = .ok (.bipush 11, 2) := by decide +kernel
theorem dX11_moreOn_33 : decode cX11_moreOn 33 = .ok (.iadd, 1) := by decide +kernel
theorem dX11_moreOn_34 : decode cX11_moreOn 34 = .ok (.bipush 12, 2) := by decide +kernel
theorem dX11_moreOn_36 : decode cX11_moreOn 36 = .ok (.irem, 1) := by decide +kernel
theorem dX11_moreOn_37 : decode cX11_moreOn 37 = .ok (.istore_n 3, 1) := by decide +kernel
theorem dX11_moreOn_38 : decode cX11_moreOn 38 = .ok (.iconst 0, 1) := by decide +kernel
theorem dX11_moreOn_39 : decode cX11_moreOn 39 = .ok (.istore 4, 2) := by decide +kernel
theorem dX11_moreOn_41 : decode cX11_moreOn 41 = .ok (.iconst 0, 1) := by decide +kernel
theorem dX11_moreOn_42 : decode cX11_moreOn 42 = .ok (.istore 5, 2) := by decide +kernel
theorem dX11_moreOn_44 : decode cX11_moreOn 44 = .ok (.aload_n 0, 1) := by decide +kernel
theorem dX11_moreOn_45 : decode cX11_moreOn 45 = .ok (.invokevirtual 238, 3) := by decide +kernel
theorem dX11_moreOn_48 : decode cX11_moreOn 48 = .ok (.iconst 0, 1) := by decide +kernel
theorem dX11_moreOn_49 : decode cX11_moreOn 49 = .ok (.istore 6, 2) := by decide +kernel
theorem dX11_moreOn_51 : decode cX11_moreOn 51 = .ok (.iload 6, 2) := by decide +kernel
theorem dX11_moreOn_53 : decode cX11_moreOn 53 = .ok (.iconst 3, 1) := by decide +kernel
theorem dX11_moreOn_54 : decode cX11_moreOn 54 = .ok (.if_icmp .ge 101, 3) := by decide +kernel
theorem dX11_moreOn_57 : decode cX11_moreOn 57 = .ok (.aload_n 0, 1) := by decide +kernel
theorem dX11_moreOn_58 : decode cX11_moreOn 58 = .ok (.iload_n 1, 1) := by decide +kernel
theorem dX11_moreOn_59 : decode cX11_moreOn 59 = .ok (.invokevirtual 225, 3) := by decide +kernel
theorem dX11_moreOn_62 : decode cX11_moreOn 62 = .ok (.iload 6, 2) := by decide +kernel
theorem dX11_moreOn_64 : decode cX11_moreOn 64 = .ok (.ifCond .le 18, 3) := by decide +kernel
theorem dX11_moreOn_67 : decode cX11_moreOn 67 = .ok (.aload_n 0, 1) := by decide +kernel
theorem dX11_moreOn_68 : decode cX11_moreOn 68 = .ok (.iload 6, 2) := by decide +kernel
theorem dX11_moreOn_70 : decode cX11_moreOn 70 = .ok (.iconst 1, 1) := by decide +kernel
theorem dX11_moreOn_71 : decode cX11_moreOn 71 = .ok (.if_icmp .ne 7, 3) := by decide +kernel
theorem dX11_moreOn_74 : decode cX11_moreOn 74 = .ok (.iload_n 2, 1) := by decide +kernel
theorem dX11_moreOn_75 : decode cX11_moreOn 75 = .ok (.goto 4, 3) := by decide +kernel
theorem dX11_moreOn_78 : decode cX11_moreOn 78 = .ok (.iload_n 3, 1) := by decide +kernel
theorem dX11_moreOn_79 : decode cX11_moreOn 79 = .ok (.invokevirtual 225, 3) := by decide +kernel
theorem dX11_moreOn_82 : decode cX11_moreOn 82 = .ok (.aload_n 0, 1) := by decide +kernel
theorem dX11_moreOn_83 : decode cX11_moreOn 83 = .ok (.iload_n 1, 1) := by decide +kernel
theorem dX11_moreOn_84 : decode cX11_moreOn 84 = .ok (.invokevirtual 112, 3) := by decide +kernel
theorem dX11_moreOn_87 : decode cX11_moreOn 87 = .ok (.aload_n 0, 1) := by decide +kernel
theorem dX11_moreOn_88 : decode cX11_moreOn 88 = .ok (.iload_n 2, 1) := by decide +kernel
theorem dX11_moreOn_89 : decode cX11_moreOn 89 = .ok (.invokevirtual 112, 3) := by decide +kernel
theorem dX11_moreOn_92 : decode cX11_moreOn 92 = .ok (.aload_n 0, 1) := by decide +kernel
theorem dX11_moreOn_93 : decode cX11_moreOn 93 = .ok (.iload_n 3, 1) := by decide +kernel
theorem dX11_moreOn_94 : decode cX11_moreOn 94 = .ok (.invokevirtual 112, 3) := by decide +kernel
theorem dX11_moreOn_97 : decode cX11_moreOn 97 = .ok (.invokestatic 252, 3) := by decide +kernel
theorem dX11_moreOn_100 : decode cX11_moreOn 100 = .ok (.isub, 1) := by decide +kernel
theorem dX11_moreOn_101 : decode cX11_moreOn 101 = .ok (.istore 7, 2) := by decide +kernel
theorem dX11_moreOn_103 : decode cX11_moreOn 103 = .ok (.aload_n 0, 1) := by decide +kernel
theorem dX11_moreOn_104 : decode cX11_moreOn 104 = .ok (.invokevirtual 241, 3) := by decide +kernel
theorem dX11_moreOn_107 : decode cX11_moreOn 107 = .ok (.iload 6, 2) := by decide +kernel
theorem dX11_moreOn_109 : decode cX11_moreOn 109 = .ok (.ifCond .eq 10, 3) := by decide +kernel
theorem dX11_moreOn_112 : decode cX11_moreOn 112 = .ok (.iload 7, 2) := by decide +kernel
theorem dX11_moreOn_114 : decode cX11_moreOn 114 = .ok (.iload 5, 2) := by decide +kernel
theorem dX11_moreOn_116 : decode cX11_moreOn 116 = .ok (.if_icmp .le 8, 3) := by decide +kernel
theorem dX11_moreOn_119 : decode cX11_moreOn 119 = .ok (.iload 6, 2) := by decide +kernel
theorem dX11_moreOn_121 : decode cX11_moreOn 121 = .ok (.goto 5, 3) := by decide +kernel
theorem dX11_moreOn_124 : decode cX11_moreOn 124 = .ok (.iload 4, 2) := by decide +kernel
theorem dX11_moreOn_126 : decode cX11_moreOn 126 = .ok (.istore 4, 2) := by decide +kernel
theorem dX11_moreOn_128 : decode cX11_moreOn 128 = .ok (.iload 6, 2) := by decide +kernel
theorem dX11_moreOn_130 : decode cX11_moreOn 130 = .ok (.ifCond .eq 10, 3) := by decide +kernel
theorem dX11_moreOn_133 : decode cX11_moreOn 133 = .ok (.iload 7, 2) := by decide +kernel
theorem dX11_moreOn_135 : decode cX11_moreOn 135 = .ok (.iload 5, 2) := by decide +kernel
theorem dX11_moreOn_137 : decode cX11_moreOn 137 = .ok (.if_icmp .le 8, 3) := by decide +kernel
theorem dX11_moreOn_140 : decode cX11_moreOn 140 = .ok (.iload 7, 2) := by decide +kernel
theorem dX11_moreOn_142 : decode cX11_moreOn 142 = .ok (.goto 5, 3) := by decide +kernel
theorem dX11_moreOn_145 : decode cX11_moreOn 145 = .ok (.iload 5, 2) := by decide +kernel
theorem dX11_moreOn_147 : decode cX11_moreOn 147 = .ok (.istore 5, 2) := by decide +kernel
theorem dX11_moreOn_149 : decode cX11_moreOn 149 = .ok (.iinc 6 1, 3) := by decide +kernel
theorem dX11_moreOn_152 : decode cX11_moreOn 152 = .ok (.goto (-101), 3) := by decide +kernel
theorem dX11_moreOn_155 : decode cX11_moreOn 155 = .ok (.iload 4, 2) := by decide +kernel
theorem dX11_moreOn_157 : decode cX11_moreOn 157 = .ok (.ireturn, 1) := by decide +kernel
/-! moreOn -/
def X11_moreOn_p147 (k51 : MS → Int32 → Int32 → Int32 → Int32 → Int32 → Int32 → Option (Int32 × MS)) (st : MS) (v1 : Int32) (v2 : Int32) (v3 : Int32) (v4 : Int32) (v6 : Int32) (t0 : Int32) : Option (Int32 × MS) :=
    nm (v6 + (1 : Int32)) fun x_1 =>
    k51 st v1 v2 v3 v4 t0 x_1
def X11_moreOn_p140 (k51 : MS → Int32 → Int32 → Int32 → Int32 → Int32 → Int32 → Option (Int32 × MS)) (st : MS) (v1 : Int32) (v2 : Int32) (v3 : Int32) (v4 : Int32) (v6 : Int32) (v7 : Int32) : Option (Int32 × MS) :=
    X11_moreOn_p147 k51 st v1 v2 v3 v4 v6 v7
def X11_moreOn_p126 (k51 : MS → Int32 → Int32 → Int32 → Int32 → Int32 → Int32 → Option (Int32 × MS)) (st : MS) (v1 : Int32) (v2 : Int32) (v3 : Int32) (v5 : Int32) (v6 : Int32) (v7 : Int32) (t0 : Int32) : Option (Int32 × MS) :=
    if v6 = 0 then
      (X11_moreOn_p140 k51 st v1 v2 v3 t0 v6 v7)
    else
    if v7 ≤ v5 then
      (X11_moreOn_p147 k51 st v1 v2 v3 t0 v6 v5)
    else
    X11_moreOn_p140 k51 st v1 v2 v3 t0 v6 v7
def X11_moreOn_p119 (k51 : MS → Int32 → Int32 → Int32 → Int32 → Int32 → Int32 → Option (Int32 × MS)) (st : MS) (v1 : Int32) (v2 : Int32) (v3 : Int32) (v5 : Int32) (v6 : Int32) (v7 : Int32) : Option (Int32 × MS) :=
    X11_moreOn_p126 k51 st v1 v2 v3 v5 v6 v7 v6
def X11_moreOn_p82 (k51 : MS → Int32 → Int32 → Int32 → Int32 → Int32 → Int32 → Option (Int32 × MS)) (st : MS) (v1 : Int32) (v2 : Int32) (v3 : Int32) (v4 : Int32) (v5 : Int32) (v6 : Int32) : Option (Int32 × MS) :=
    bnd (X11_lacksOn st v1) fun y_5 st_4 =>
    bnd (X11_lacksOn st_4 v2) fun y_8 st_7 =>
    bnd (X11_lacksOn st_7 v3) fun y_11 st_10 =>
    bd1 (X11_greater y_8 y_11) fun y_13 =>
    nm ((y_5 - y_13)) fun x_15 =>
    bnd (X11_close st_10) fun _ st_16 =>
    if v6 = 0 then
      (X11_moreOn_p119 k51 st_16 v1 v2 v3 v5 v6 x_15)
    else
    if x_15 ≤ v5 then
      (X11_moreOn_p126 k51 st_16 v1 v2 v3 v5 v6 x_15 v4)
    else
    X11_moreOn_p119 k51 st_16 v1 v2 v3 v5 v6 x_15
def X11_moreOn_p79 (k51 : MS → Int32 → Int32 → Int32 → Int32 → Int32 → Int32 → Option (Int32 × MS)) (st : MS) (v1 : Int32) (v2 : Int32) (v3 : Int32) (v4 : Int32) (v5 : Int32) (v6 : Int32) (t1 : Int32) : Option (Int32 × MS) :=
    bnd (X11_cut st t1) fun _ st_20 =>
    X11_moreOn_p82 k51 st_20 v1 v2 v3 v4 v5 v6
def X11_moreOn_p155 (st : MS) (v4 : Int32) : Option (Int32 × MS) :=
    some (v4, st)
def X11_moreOn_p51 : Nat → MS → Int32 → Int32 → Int32 → Int32 → Int32 → Int32 → Option (Int32 × MS)
  | 0, _, _, _, _, _, _, _ => none
  | n + 1, st, v1, v2, v3, v4, v5, v6 =>
    if (3 : Int32) ≤ v6 then
      (X11_moreOn_p155 st v4)
    else
    bnd (X11_cut st v1) fun _ st_23 =>
    if v6 ≤ 0 then
      (X11_moreOn_p82 (fun st v1 v2 v3 v4 v5 v6 => X11_moreOn_p51  n st v1 v2 v3 v4 v5 v6) st_23 v1 v2 v3 v4 v5 v6)
    else
    if v6 = (1 : Int32) then
      (X11_moreOn_p79 (fun st v1 v2 v3 v4 v5 v6 => X11_moreOn_p51  n st v1 v2 v3 v4 v5 v6) st_23 v1 v2 v3 v4 v5 v6 v2)
    else
    X11_moreOn_p79 (fun st v1 v2 v3 v4 v5 v6 => X11_moreOn_p51  n st v1 v2 v3 v4 v5 v6) st_23 v1 v2 v3 v4 v5 v6 v3
theorem X11_moreOn_p51_s (n : Nat) (st : MS) (v1 : Int32) (v2 : Int32) (v3 : Int32) (v4 : Int32) (v5 : Int32) (v6 : Int32) : X11_moreOn_p51  (n + 1) st v1 v2 v3 v4 v5 v6 =
    (if (3 : Int32) ≤ v6 then
      (X11_moreOn_p155 st v4)
    else
    bnd (X11_cut st v1) fun _ st_23 =>
    if v6 ≤ 0 then
      (X11_moreOn_p82 (fun st v1 v2 v3 v4 v5 v6 => X11_moreOn_p51  n st v1 v2 v3 v4 v5 v6) st_23 v1 v2 v3 v4 v5 v6)
    else
    if v6 = (1 : Int32) then
      (X11_moreOn_p79 (fun st v1 v2 v3 v4 v5 v6 => X11_moreOn_p51  n st v1 v2 v3 v4 v5 v6) st_23 v1 v2 v3 v4 v5 v6 v2)
    else
    X11_moreOn_p79 (fun st v1 v2 v3 v4 v5 v6 => X11_moreOn_p51  n st v1 v2 v3 v4 v5 v6) st_23 v1 v2 v3 v4 v5 v6 v3) := rfl
def X11_moreOn (st : MS) : Option (Int32 × MS) :=
    nm (sF st 17 (0 : Int32)) fun st_27 =>
    if (gF st_27 7) = 0 then
      (inr (6 : Int32) 7 <|
      nm ((gA st_27 4 (6 : Int32).toNatClampNeg)) fun x_30 =>
      dvi (12 : Int32) <|
      nm (((x_30 + (1 : Int32)) - (x_30 + (1 : Int32)) / (12 : Int32) * (12 : Int32))) fun x_32 =>
      dvi (12 : Int32) <|
      nm (((x_30 + (11 : Int32)) - (x_30 + (11 : Int32)) / (12 : Int32) * (12 : Int32))) fun x_34 =>
      bnd (X11_open st_27) fun _ st_35 =>
      X11_moreOn_p51 4 st_35 x_30 x_32 x_34 (0 : Int32) (0 : Int32) (0 : Int32))
    else
    some ((-3 : Int32), st_27)
abbrev rmX11_moreOn : Room := { frames := 4, cells := 0, slots := 0, locals := 88 }
theorem hdX11_moreOn : yX11_moreOn.cls = RX11 ∧ yX11_moreOn.cls ≠ "java/lang/invoke/MethodHandle" ∧ yX11_moreOn.cls ≠ "java/lang/invoke/VarHandle" ∧ (parseMethodDescriptor yX11_moreOn.desc).map (fun d => d.parameters.length) = some 0 := by decide +kernel
set_option maxRecDepth 100000 in
set_option maxHeartbeats 4000000 in
theorem okX11_moreOn (l : Launch) (D : va_G) (a : Nat → Nat) (T : mT3) {st : MS} {r : Int32} {st' : MS} (heq : X11_moreOn st = some (r, st')) : gCi l D (mT T) yX11_moreOn wsX11_moreOn rmX11_moreOn [.ref (a 0)] (mW a T st) r (mW a T st') := by
  refine g_body_i (by decide) rfl (Nat.le_of_ble_eq_true rfl) (fun p e s m args below meth c A Q hx hb hml hown hts hK hA hret ls hP hD hS hl => ?_)
  have hl : lv_has ls 8 [(0, .ref (a 0))] := hl
  have hin : ∀ w ∈ wsX110, w ∈ wsX11_moreOn := fun w h => List.mem_cons_of_mem _ (List.mem_append_right _ h)
  have f22 : (Cond.fieldLink RX11 22 RX11 (TX11 4).2.1 (TX11 4).2.2.1).before args s = true := hts (.fieldLink RX11 22 "LaidDownTheLaneModel" "settings" "[I") (by decide +kernel)
  have f75 : (Cond.fieldLink RX11 75 RX11 (TX11 17).2.1 (TX11 17).2.2.1).before args s = true := hts (.fieldLink RX11 75 "LaidDownTheLaneModel" "thrown" "I") (by decide +kernel)
  have f122 : (Cond.fieldLink RX11 122 RX11 (TX11 7).2.1 (TX11 7).2.2.1).before args s = true := hts (.fieldLink RX11 122 "LaidDownTheLaneModel" "isDown" "Z") (by decide +kernel)
  have b147 : ∀ (k51 : MS → Int32 → Int32 → Int32 → Int32 → Int32 → Int32 → Option (Int32 × MS)) (hk51 : ∀ (st : MS) (v1 : Int32) (v2 : Int32) (v3 : Int32) (v4 : Int32) (v5 : Int32) (v6 : Int32) (H : Heap) (locs : List Loc) (ls : Array Slot), va_P D vwCl (mW a T st) H → va_D A (mW a T st) → va_S A s.heap H locs → lv_has ls 8 [(0, .ref (a 0)), (1, .int v1), (2, .int v2), (3, .int v3), (4, .int v4), (5, .int v5), (6, .int v6)] → k51 st v1 v2 v3 v4 v5 v6 = some (r, st') → W p l e rmX11_moreOn s m args below meth c H locs 0 0 Q (F0 m 51 ls [])), ∀ (st : MS) (v1 : Int32) (v2 : Int32) (v3 : Int32) (v4 : Int32) (v6 : Int32) (t0 : Int32) (H : Heap) (locs : List Loc) (ls : Array Slot), va_P D vwCl (mW a T st) H → va_D A (mW a T st) → va_S A s.heap H locs → lv_has ls 8 [(0, .ref (a 0)), (1, .int v1), (2, .int v2), (3, .int v3), (4, .int v4), (6, .int v6)] → X11_moreOn_p147 k51 st v1 v2 v3 v4 v6 t0 = some (r, st') → W p l e rmX11_moreOn s m args below meth c H locs 0 0 Q (F0 m 147 ls [.int t0]) := by
    intro k51 hk51 st v1 v2 v3 v4 v6 t0 H locs ls hP hD hS hl heq
    unfold X11_moreOn_p147 at heq
    refine lv_istore (lv' := [(5, .int t0), (0, .ref (a 0)), (1, .int v1), (2, .int v2), (3, .int v3), (4, .int v4), (6, .int v6)]) hx hb dX11_moreOn_147 hl (by decide) rfl (fun ls hl => ?_)
    obtain ⟨x_1, ex_1⟩ : ∃ y : Int32, y = v6 + (1 : Int32) := ⟨_, rfl⟩
    have heq := nm_h ex_1 heq
    refine lv_iinc (v := x_1) (lv' := [(6, .int x_1), (5, .int t0), (0, .ref (a 0)), (1, .int v1), (2, .int v2), (3, .int v3), (4, .int v4)]) hx hb dX11_moreOn_149 hl (k := 6) rfl (by rw [ex_1]; rfl) (by decide) rfl (fun ls hl => ?_)
    refine lv_goto (tgt := 51) hx hb dX11_moreOn_152 (by decide) ?_
    exact hk51 st v1 v2 v3 v4 t0 x_1 H locs ls hP hD hS (lv_sub hl [2, 3, 4, 5, 6, 1, 0] rfl) heq
  have b140 : ∀ (k51 : MS → Int32 → Int32 → Int32 → Int32 → Int32 → Int32 → Option (Int32 × MS)) (hk51 : ∀ (st : MS) (v1 : Int32) (v2 : Int32) (v3 : Int32) (v4 : Int32) (v5 : Int32) (v6 : Int32) (H : Heap) (locs : List Loc) (ls : Array Slot), va_P D vwCl (mW a T st) H → va_D A (mW a T st) → va_S A s.heap H locs → lv_has ls 8 [(0, .ref (a 0)), (1, .int v1), (2, .int v2), (3, .int v3), (4, .int v4), (5, .int v5), (6, .int v6)] → k51 st v1 v2 v3 v4 v5 v6 = some (r, st') → W p l e rmX11_moreOn s m args below meth c H locs 0 0 Q (F0 m 51 ls [])), ∀ (st : MS) (v1 : Int32) (v2 : Int32) (v3 : Int32) (v4 : Int32) (v6 : Int32) (v7 : Int32) (H : Heap) (locs : List Loc) (ls : Array Slot), va_P D vwCl (mW a T st) H → va_D A (mW a T st) → va_S A s.heap H locs → lv_has ls 8 [(0, .ref (a 0)), (1, .int v1), (2, .int v2), (3, .int v3), (4, .int v4), (6, .int v6), (7, .int v7)] → X11_moreOn_p140 k51 st v1 v2 v3 v4 v6 v7 = some (r, st') → W p l e rmX11_moreOn s m args below meth c H locs 0 0 Q (F0 m 140 ls []) := by
    intro k51 hk51 st v1 v2 v3 v4 v6 v7 H locs ls hP hD hS hl heq
    unfold X11_moreOn_p140 at heq
    refine lv_iload hx hb dX11_moreOn_140 (lv_at hl 6 rfl) ?_
    refine lv_goto (tgt := 147) hx hb dX11_moreOn_142 (by decide) ?_
    exact b147 k51 hk51 st v1 v2 v3 v4 v6 v7 H locs ls hP hD hS (lv_sub hl [0, 1, 2, 3, 4, 5] rfl) heq
  have b126 : ∀ (k51 : MS → Int32 → Int32 → Int32 → Int32 → Int32 → Int32 → Option (Int32 × MS)) (hk51 : ∀ (st : MS) (v1 : Int32) (v2 : Int32) (v3 : Int32) (v4 : Int32) (v5 : Int32) (v6 : Int32) (H : Heap) (locs : List Loc) (ls : Array Slot), va_P D vwCl (mW a T st) H → va_D A (mW a T st) → va_S A s.heap H locs → lv_has ls 8 [(0, .ref (a 0)), (1, .int v1), (2, .int v2), (3, .int v3), (4, .int v4), (5, .int v5), (6, .int v6)] → k51 st v1 v2 v3 v4 v5 v6 = some (r, st') → W p l e rmX11_moreOn s m args below meth c H locs 0 0 Q (F0 m 51 ls [])), ∀ (st : MS) (v1 : Int32) (v2 : Int32) (v3 : Int32) (v5 : Int32) (v6 : Int32) (v7 : Int32) (t0 : Int32) (H : Heap) (locs : List Loc) (ls : Array Slot), va_P D vwCl (mW a T st) H → va_D A (mW a T st) → va_S A s.heap H locs → lv_has ls 8 [(0, .ref (a 0)), (1, .int v1), (2, .int v2), (3, .int v3), (5, .int v5), (6, .int v6), (7, .int v7)] → X11_moreOn_p126 k51 st v1 v2 v3 v5 v6 v7 t0 = some (r, st') → W p l e rmX11_moreOn s m args below meth c H locs 0 0 Q (F0 m 126 ls [.int t0]) := by
    intro k51 hk51 st v1 v2 v3 v5 v6 v7 t0 H locs ls hP hD hS hl heq
    unfold X11_moreOn_p126 at heq
    refine lv_istore (lv' := [(4, .int t0), (0, .ref (a 0)), (1, .int v1), (2, .int v2), (3, .int v3), (5, .int v5), (6, .int v6), (7, .int v7)]) hx hb dX11_moreOn_126 hl (by decide) rfl (fun ls hl => ?_)
    refine lv_iload hx hb dX11_moreOn_128 (lv_at hl 6 rfl) ?_
    refine lv_if_eq (tgt := 140) hx hb dX11_moreOn_130 (by decide) (fun c_2 => ?_) (fun c_2 => ?_)
    · have heq := it_t c_2 heq
      exact b140 k51 hk51 st v1 v2 v3 t0 v6 v7 H locs ls hP hD hS (lv_sub hl [1, 2, 3, 4, 0, 6, 7] rfl) heq
    have heq := it_f c_2 heq
    refine lv_iload hx hb dX11_moreOn_133 (lv_at hl 7 rfl) ?_
    refine lv_iload hx hb dX11_moreOn_135 (lv_at hl 5 rfl) ?_
    refine lv_icmp_le (tgt := 145) hx hb dX11_moreOn_137 (by decide) (fun c_3 => ?_) (fun c_3 => ?_)
    · have heq := it_t c_3 heq
      refine lv_iload hx hb dX11_moreOn_145 (lv_at hl 5 rfl) ?_
      exact b147 k51 hk51 st v1 v2 v3 t0 v6 v5 H locs ls hP hD hS (lv_sub hl [1, 2, 3, 4, 0, 6] rfl) heq
    have heq := it_f c_3 heq
    exact b140 k51 hk51 st v1 v2 v3 t0 v6 v7 H locs ls hP hD hS (lv_sub hl [1, 2, 3, 4, 0, 6, 7] rfl) heq
  have b119 : ∀ (k51 : MS → Int32 → Int32 → Int32 → Int32 → Int32 → Int32 → Option (Int32 × MS)) (hk51 : ∀ (st : MS) (v1 : Int32) (v2 : Int32) (v3 : Int32) (v4 : Int32) (v5 : Int32) (v6 : Int32) (H : Heap) (locs : List Loc) (ls : Array Slot), va_P D vwCl (mW a T st) H → va_D A (mW a T st) → va_S A s.heap H locs → lv_has ls 8 [(0, .ref (a 0)), (1, .int v1), (2, .int v2), (3, .int v3), (4, .int v4), (5, .int v5), (6, .int v6)] → k51 st v1 v2 v3 v4 v5 v6 = some (r, st') → W p l e rmX11_moreOn s m args below meth c H locs 0 0 Q (F0 m 51 ls [])), ∀ (st : MS) (v1 : Int32) (v2 : Int32) (v3 : Int32) (v5 : Int32) (v6 : Int32) (v7 : Int32) (H : Heap) (locs : List Loc) (ls : Array Slot), va_P D vwCl (mW a T st) H → va_D A (mW a T st) → va_S A s.heap H locs → lv_has ls 8 [(0, .ref (a 0)), (1, .int v1), (2, .int v2), (3, .int v3), (5, .int v5), (6, .int v6), (7, .int v7)] → X11_moreOn_p119 k51 st v1 v2 v3 v5 v6 v7 = some (r, st') → W p l e rmX11_moreOn s m args below meth c H locs 0 0 Q (F0 m 119 ls []) := by
    intro k51 hk51 st v1 v2 v3 v5 v6 v7 H locs ls hP hD hS hl heq
    unfold X11_moreOn_p119 at heq
    refine lv_iload hx hb dX11_moreOn_119 (lv_at hl 5 rfl) ?_
    refine lv_goto (tgt := 126) hx hb dX11_moreOn_121 (by decide) ?_
    exact b126 k51 hk51 st v1 v2 v3 v5 v6 v7 v6 H locs ls hP hD hS (lv_sub hl [0, 1, 2, 3, 4, 5, 6] rfl) heq
  have b82 : ∀ (k51 : MS → Int32 → Int32 → Int32 → Int32 → Int32 → Int32 → Option (Int32 × MS)) (hk51 : ∀ (st : MS) (v1 : Int32) (v2 : Int32) (v3 : Int32) (v4 : Int32) (v5 : Int32) (v6 : Int32) (H : Heap) (locs : List Loc) (ls : Array Slot), va_P D vwCl (mW a T st) H → va_D A (mW a T st) → va_S A s.heap H locs → lv_has ls 8 [(0, .ref (a 0)), (1, .int v1), (2, .int v2), (3, .int v3), (4, .int v4), (5, .int v5), (6, .int v6)] → k51 st v1 v2 v3 v4 v5 v6 = some (r, st') → W p l e rmX11_moreOn s m args below meth c H locs 0 0 Q (F0 m 51 ls [])), ∀ (st : MS) (v1 : Int32) (v2 : Int32) (v3 : Int32) (v4 : Int32) (v5 : Int32) (v6 : Int32) (H : Heap) (locs : List Loc) (ls : Array Slot), va_P D vwCl (mW a T st) H → va_D A (mW a T st) → va_S A s.heap H locs → lv_has ls 8 [(0, .ref (a 0)), (1, .int v1), (2, .int v2), (3, .int v3), (4, .int v4), (5, .int v5), (6, .int v6)] → X11_moreOn_p82 k51 st v1 v2 v3 v4 v5 v6 = some (r, st') → W p l e rmX11_moreOn s m args below meth c H locs 0 0 Q (F0 m 82 ls []) := by
    intro k51 hk51 st v1 v2 v3 v4 v5 v6 H locs ls hP hD hS hl heq
    unfold X11_moreOn_p82 at heq
    refine lv_aload_n hx hb dX11_moreOn_82 rfl (lv_at hl 0 rfl) ?_
    refine lv_iload_n hx hb dX11_moreOn_83 rfl (lv_at hl 1 rfl) ?_
    obtain ⟨y_5, st_4, h_6, heq⟩ := bnd_h heq
    refine g_vi (own := RX11) (As := [.int v1]) (rest := []) hx hb hml hown hts (okX11_lacksOn l D a T h_6) (cwV 1 hts gX11_moreOn_X11_lacksOn rfl rfl rfl hdX11_lacksOn ⟨Nat.le_of_ble_eq_true rfl, Nat.le_of_ble_eq_true rfl⟩) hK hA hP hD hS (ci := 11) (q0 := 0) rfl rfl rfl hl.1 rfl (Nat.le_of_ble_eq_true rfl) dX11_moreOn_84 ⟨Nat.le_of_ble_eq_true rfl, Nat.le_of_ble_eq_true rfl⟩ (fun H locs hP hD hS => ?_)
    refine lv_aload_n hx hb dX11_moreOn_87 rfl (lv_at hl 0 rfl) ?_
    refine lv_iload_n hx hb dX11_moreOn_88 rfl (lv_at hl 2 rfl) ?_
    obtain ⟨y_8, st_7, h_9, heq⟩ := bnd_h heq
    refine g_vi (own := RX11) (As := [.int v2]) (rest := [.int y_5]) hx hb hml hown hts (okX11_lacksOn l D a T h_9) (cwV 1 hts gX11_moreOn_X11_lacksOn rfl rfl rfl hdX11_lacksOn ⟨Nat.le_of_ble_eq_true rfl, Nat.le_of_ble_eq_true rfl⟩) hK hA hP hD hS (ci := 11) (q0 := 0) rfl rfl rfl hl.1 rfl (Nat.le_of_ble_eq_true rfl) dX11_moreOn_89 ⟨Nat.le_of_ble_eq_true rfl, Nat.le_of_ble_eq_true rfl⟩ (fun H locs hP hD hS => ?_)
    refine lv_aload_n hx hb dX11_moreOn_92 rfl (lv_at hl 0 rfl) ?_
    refine lv_iload_n hx hb dX11_moreOn_93 rfl (lv_at hl 3 rfl) ?_
    obtain ⟨y_11, st_10, h_12, heq⟩ := bnd_h heq
    refine g_vi (own := RX11) (As := [.int v3]) (rest := [.int y_8, .int y_5]) hx hb hml hown hts (okX11_lacksOn l D a T h_12) (cwV 1 hts gX11_moreOn_X11_lacksOn rfl rfl rfl hdX11_lacksOn ⟨Nat.le_of_ble_eq_true rfl, Nat.le_of_ble_eq_true rfl⟩) hK hA hP hD hS (ci := 11) (q0 := 0) rfl rfl rfl hl.1 rfl (Nat.le_of_ble_eq_true rfl) dX11_moreOn_94 ⟨Nat.le_of_ble_eq_true rfl, Nat.le_of_ble_eq_true rfl⟩ (fun H locs hP hD hS => ?_)
    obtain ⟨y_13, h_14, heq⟩ := bd1_h heq
    refine g_si (own := RX11) (D := D) (As := [.int y_8, .int y_11]) (rest := [.int y_5]) hx hb hml hown hts (okX11_greater l D h_14) (cwS 2 hts gX11_moreOn_X11_greater rfl rfl rfl hdX11_greater ⟨Nat.le_of_ble_eq_true rfl, Nat.le_of_ble_eq_true rfl⟩) hK hA hP hS rfl hl.1 rfl (Nat.le_of_ble_eq_true rfl) dX11_moreOn_97 ⟨Nat.le_of_ble_eq_true rfl, Nat.le_of_ble_eq_true rfl⟩ (fun H locs hP hS => ?_)
    refine lv_isub hx hb dX11_moreOn_100 ?_
    refine lv_topi (fun x_15 ex_15 => ?_)
    have heq := nm_h ex_15 heq
    refine lv_istore (lv' := [(7, .int x_15), (0, .ref (a 0)), (1, .int v1), (2, .int v2), (3, .int v3), (4, .int v4), (5, .int v5), (6, .int v6)]) hx hb dX11_moreOn_101 hl (by decide) rfl (fun ls hl => ?_)
    refine lv_aload_n hx hb dX11_moreOn_103 rfl (lv_at hl 1 rfl) ?_
    obtain ⟨⟨⟩, st_16, h_17, heq⟩ := bnd_h heq
    refine g_vv (own := RX11) (As := []) (rest := []) hx hb hml hown hts (okX11_close l D a T h_17) (cwV 0 hts gX11_moreOn_X11_close rfl rfl rfl hdX11_close ⟨Nat.le_of_ble_eq_true rfl, Nat.le_of_ble_eq_true rfl⟩) hK hA hP hD hS (ci := 11) (q0 := 0) rfl rfl rfl hl.1 rfl (Nat.le_of_ble_eq_true rfl) dX11_moreOn_104 ⟨Nat.le_of_ble_eq_true rfl, Nat.le_of_ble_eq_true rfl⟩ (fun H locs hP hD hS => ?_)
    refine lv_iload hx hb dX11_moreOn_107 (lv_at hl 7 rfl) ?_
    refine lv_if_eq (tgt := 119) hx hb dX11_moreOn_109 (by decide) (fun c_18 => ?_) (fun c_18 => ?_)
    · have heq := it_t c_18 heq
      exact b119 k51 hk51 st_16 v1 v2 v3 v5 v6 x_15 H locs ls hP hD hS (lv_sub hl [1, 2, 3, 4, 6, 7, 0] rfl) heq
    have heq := it_f c_18 heq
    refine lv_iload hx hb dX11_moreOn_112 (lv_at hl 0 rfl) ?_
    refine lv_iload hx hb dX11_moreOn_114 (lv_at hl 6 rfl) ?_
    refine lv_icmp_le (tgt := 124) hx hb dX11_moreOn_116 (by decide) (fun c_19 => ?_) (fun c_19 => ?_)
    · have heq := it_t c_19 heq
      refine lv_iload hx hb dX11_moreOn_124 (lv_at hl 5 rfl) ?_
      exact b126 k51 hk51 st_16 v1 v2 v3 v5 v6 x_15 v4 H locs ls hP hD hS (lv_sub hl [1, 2, 3, 4, 6, 7, 0] rfl) heq
    have heq := it_f c_19 heq
    exact b119 k51 hk51 st_16 v1 v2 v3 v5 v6 x_15 H locs ls hP hD hS (lv_sub hl [1, 2, 3, 4, 6, 7, 0] rfl) heq
  have b79 : ∀ (k51 : MS → Int32 → Int32 → Int32 → Int32 → Int32 → Int32 → Option (Int32 × MS)) (hk51 : ∀ (st : MS) (v1 : Int32) (v2 : Int32) (v3 : Int32) (v4 : Int32) (v5 : Int32) (v6 : Int32) (H : Heap) (locs : List Loc) (ls : Array Slot), va_P D vwCl (mW a T st) H → va_D A (mW a T st) → va_S A s.heap H locs → lv_has ls 8 [(0, .ref (a 0)), (1, .int v1), (2, .int v2), (3, .int v3), (4, .int v4), (5, .int v5), (6, .int v6)] → k51 st v1 v2 v3 v4 v5 v6 = some (r, st') → W p l e rmX11_moreOn s m args below meth c H locs 0 0 Q (F0 m 51 ls [])), ∀ (st : MS) (v1 : Int32) (v2 : Int32) (v3 : Int32) (v4 : Int32) (v5 : Int32) (v6 : Int32) (t1 : Int32) (H : Heap) (locs : List Loc) (ls : Array Slot), va_P D vwCl (mW a T st) H → va_D A (mW a T st) → va_S A s.heap H locs → lv_has ls 8 [(0, .ref (a 0)), (1, .int v1), (2, .int v2), (3, .int v3), (4, .int v4), (5, .int v5), (6, .int v6)] → X11_moreOn_p79 k51 st v1 v2 v3 v4 v5 v6 t1 = some (r, st') → W p l e rmX11_moreOn s m args below meth c H locs 0 0 Q (F0 m 79 ls [.int t1, .ref (a 0)]) := by
    intro k51 hk51 st v1 v2 v3 v4 v5 v6 t1 H locs ls hP hD hS hl heq
    unfold X11_moreOn_p79 at heq
    obtain ⟨⟨⟩, st_20, h_21, heq⟩ := bnd_h heq
    refine g_vv (own := RX11) (As := [.int t1]) (rest := []) hx hb hml hown hts (okX11_cut l D a T h_21) (cwV 1 hts gX11_moreOn_X11_cut rfl rfl rfl hdX11_cut ⟨Nat.le_of_ble_eq_true rfl, Nat.le_of_ble_eq_true rfl⟩) hK hA hP hD hS (ci := 11) (q0 := 0) rfl rfl rfl hl.1 rfl (Nat.le_of_ble_eq_true rfl) dX11_moreOn_79 ⟨Nat.le_of_ble_eq_true rfl, Nat.le_of_ble_eq_true rfl⟩ (fun H locs hP hD hS => ?_)
    exact b82 k51 hk51 st_20 v1 v2 v3 v4 v5 v6 H locs ls hP hD hS (lv_sub hl [0, 1, 2, 3, 4, 5, 6] rfl) heq
  have b155 : ∀ (st : MS) (v4 : Int32) (H : Heap) (locs : List Loc) (ls : Array Slot), va_P D vwCl (mW a T st) H → va_D A (mW a T st) → va_S A s.heap H locs → lv_has ls 8 [(4, .int v4)] → X11_moreOn_p155  st v4 = some (r, st') → W p l e rmX11_moreOn s m args below meth c H locs 0 0 Q (F0 m 155 ls []) := by
    intro st v4 H locs ls hP hD hS hl heq
    unfold X11_moreOn_p155 at heq
    refine lv_iload hx hb dX11_moreOn_155 (lv_at hl 0 rfl) ?_
    obtain ⟨heq, heq2⟩ := ret_h heq
    subst heq
    subst heq2
    exact hret 157 H locs ls hP hD hS rfl dX11_moreOn_157
  have b51 : ∀ (n : Nat), ∀ (st : MS) (v1 : Int32) (v2 : Int32) (v3 : Int32) (v4 : Int32) (v5 : Int32) (v6 : Int32) (H : Heap) (locs : List Loc) (ls : Array Slot), va_P D vwCl (mW a T st) H → va_D A (mW a T st) → va_S A s.heap H locs → lv_has ls 8 [(0, .ref (a 0)), (1, .int v1), (2, .int v2), (3, .int v3), (4, .int v4), (5, .int v5), (6, .int v6)] → X11_moreOn_p51  n st v1 v2 v3 v4 v5 v6 = some (r, st') → W p l e rmX11_moreOn s m args below meth c H locs 0 0 Q (F0 m 51 ls []) := by
    intro n
    induction n with
    | zero => intro st v1 v2 v3 v4 v5 v6 H locs ls hP hD hS hl heq; cases heq
    | succ n ih =>
      intro st v1 v2 v3 v4 v5 v6 H locs ls hP hD hS hl heq
      rw [X11_moreOn_p51_s] at heq
      refine lv_iload hx hb dX11_moreOn_51 (lv_at hl 6 rfl) ?_
      refine lv_iconst (v := (3 : Int32)) hx hb dX11_moreOn_53 (by decide) ?_
      refine lv_icmp_ge (tgt := 155) hx hb dX11_moreOn_54 (by decide) (fun c_22 => ?_) (fun c_22 => ?_)
      · have heq := it_t c_22 heq
        exact b155 st v4 H locs ls hP hD hS (lv_sub hl [4] rfl) heq
      have heq := it_f c_22 heq
      refine lv_aload_n hx hb dX11_moreOn_57 rfl (lv_at hl 0 rfl) ?_
      refine lv_iload_n hx hb dX11_moreOn_58 rfl (lv_at hl 1 rfl) ?_
      obtain ⟨⟨⟩, st_23, h_24, heq⟩ := bnd_h heq
      refine g_vv (own := RX11) (As := [.int v1]) (rest := []) hx hb hml hown hts (okX11_cut l D a T h_24) (cwV 1 hts gX11_moreOn_X11_cut rfl rfl rfl hdX11_cut ⟨Nat.le_of_ble_eq_true rfl, Nat.le_of_ble_eq_true rfl⟩) hK hA hP hD hS (ci := 11) (q0 := 0) rfl rfl rfl hl.1 rfl (Nat.le_of_ble_eq_true rfl) dX11_moreOn_59 ⟨Nat.le_of_ble_eq_true rfl, Nat.le_of_ble_eq_true rfl⟩ (fun H locs hP hD hS => ?_)
      refine lv_iload hx hb dX11_moreOn_62 (lv_at hl 6 rfl) ?_
      refine lv_if_le (tgt := 82) hx hb dX11_moreOn_64 (by decide) (fun c_25 => ?_) (fun c_25 => ?_)
      · have heq := it_t c_25 heq
        exact b82 (fun st v1 v2 v3 v4 v5 v6 => X11_moreOn_p51  n st v1 v2 v3 v4 v5 v6) ih st_23 v1 v2 v3 v4 v5 v6 H locs ls hP hD hS (lv_sub hl [0, 1, 2, 3, 4, 5, 6] rfl) heq
      have heq := it_f c_25 heq
      refine lv_aload_n hx hb dX11_moreOn_67 rfl (lv_at hl 0 rfl) ?_
      refine lv_iload hx hb dX11_moreOn_68 (lv_at hl 6 rfl) ?_
      refine lv_iconst (v := (1 : Int32)) hx hb dX11_moreOn_70 (by decide) ?_
      refine lv_icmp_ne (tgt := 78) hx hb dX11_moreOn_71 (by decide) (fun c_26 => ?_) (fun c_26 => ?_)
      · have heq := it_f c_26 heq
        refine lv_iload_n hx hb dX11_moreOn_78 rfl (lv_at hl 3 rfl) ?_
        exact b79 (fun st v1 v2 v3 v4 v5 v6 => X11_moreOn_p51  n st v1 v2 v3 v4 v5 v6) ih st_23 v1 v2 v3 v4 v5 v6 v3 H locs ls hP hD hS (lv_sub hl [0, 1, 2, 3, 4, 5, 6] rfl) heq
      have heq := it_t c_26 heq
      refine lv_iload_n hx hb dX11_moreOn_74 rfl (lv_at hl 2 rfl) ?_
      refine lv_goto (tgt := 79) hx hb dX11_moreOn_75 (by decide) ?_
      exact b79 (fun st v1 v2 v3 v4 v5 v6 => X11_moreOn_p51  n st v1 v2 v3 v4 v5 v6) ih st_23 v1 v2 v3 v4 v5 v6 v2 H locs ls hP hD hS (lv_sub hl [0, 1, 2, 3, 4, 5, 6] rfl) heq
  obtain ⟨H, hH⟩ : ∃ H, H = s.heap := ⟨_, rfl⟩
  obtain ⟨locs, hlocs⟩ : ∃ z : List Loc, z = [] := ⟨_, rfl⟩
  have hS : va_S A s.heap H locs := by rw [hH, hlocs]; exact hS
  have hP : va_P D vwCl (mW a T st) H := by rw [hH]; exact hP
  suffices h9 : W p l e rmX11_moreOn s m args below meth c H locs 0 0 Q (F0 m 0 ls []) by rw [hH, hlocs] at h9; exact h9
  clear hH hlocs
  unfold X11_moreOn at heq
  refine lv_aload_n hx hb dX11_moreOn_0 rfl (lv_at hl 0 rfl) ?_
  refine lv_iconst (v := (0 : Int32)) hx hb dX11_moreOn_1 (by decide) ?_
  refine mp (k := 17) hx hb hts hin hown hK hP hD hS (by decide) f75 dX11_moreOn_2 rfl rfl rfl rfl (mset_17 ..) (fun H locs hP hD hS => ?_)
  obtain ⟨st_27, est_27⟩ : ∃ z, z = sF st 17 (0 : Int32) := ⟨_, rfl⟩
  rw [← est_27] at hP hD
  have heq := nm_h est_27 heq
  refine lv_aload_n hx hb dX11_moreOn_5 rfl (lv_at hl 0 rfl) ?_
  refine mg (k := 7) (v := .int (gF st_27 7)) hx hb hts hin hown hK hP (by decide) f122 rfl dX11_moreOn_6 rfl ?_
  refine lv_if_eq (tgt := 15) hx hb dX11_moreOn_9 (by decide) (fun c_28 => ?_) (fun c_28 => ?_)
  · have heq := it_t c_28 heq
    refine lv_aload_n hx hb dX11_moreOn_15 rfl (lv_at hl 0 rfl) ?_
    refine mg (k := 4) (v := .ref (a 5)) hx hb hts hin hown hK hP (by decide) f22 rfl dX11_moreOn_16 rfl ?_
    refine lv_bipush (v := (6 : Int32)) hx hb dX11_moreOn_19 (by decide) ?_
    obtain ⟨n_29, heq⟩ := inr_h heq
    refine mal (k := 4) (q := 5) (n := 7) hx hb hK hP rfl n_29 dX11_moreOn_21 ?_
    refine lv_topi (fun x_30 ex_30 => ?_)
    have heq := nm_h ex_30 heq
    refine lv_istore_n (lv' := [(1, .int x_30), (0, .ref (a 0))]) hx hb dX11_moreOn_22 rfl hl (by decide) rfl (fun ls hl => ?_)
    refine lv_iload_n hx hb dX11_moreOn_23 rfl (lv_at hl 0 rfl) ?_
    refine lv_iconst (v := (1 : Int32)) hx hb dX11_moreOn_24 (by decide) ?_
    refine lv_iadd hx hb dX11_moreOn_25 ?_
    refine lv_bipush (v := (12 : Int32)) hx hb dX11_moreOn_26 (by decide) ?_
    obtain ⟨n_31, heq⟩ := dvi_h heq
    refine lv_irem hx hb dX11_moreOn_28 n_31 ?_
    refine lv_topi (fun x_32 ex_32 => ?_)
    have heq := nm_h ex_32 heq
    refine lv_istore_n (lv' := [(2, .int x_32), (1, .int x_30), (0, .ref (a 0))]) hx hb dX11_moreOn_29 rfl hl (by decide) rfl (fun ls hl => ?_)
    refine lv_iload_n hx hb dX11_moreOn_30 rfl (lv_at hl 1 rfl) ?_
    refine lv_bipush (v := (11 : Int32)) hx hb dX11_moreOn_31 (by decide) ?_
    refine lv_iadd hx hb dX11_moreOn_33 ?_
    refine lv_bipush (v := (12 : Int32)) hx hb dX11_moreOn_34 (by decide) ?_
    obtain ⟨n_33, heq⟩ := dvi_h heq
    refine lv_irem hx hb dX11_moreOn_36 n_33 ?_
    refine lv_topi (fun x_34 ex_34 => ?_)
    have heq := nm_h ex_34 heq
    refine lv_istore_n (lv' := [(3, .int x_34), (2, .int x_32), (1, .int x_30), (0, .ref (a 0))]) hx hb dX11_moreOn_37 rfl hl (by decide) rfl (fun ls hl => ?_)
    refine lv_iconst (v := (0 : Int32)) hx hb dX11_moreOn_38 (by decide) ?_
    refine lv_istore (lv' := [(4, .int (0 : Int32)), (3, .int x_34), (2, .int x_32), (1, .int x_30), (0, .ref (a 0))]) hx hb dX11_moreOn_39 hl (by decide) rfl (fun ls hl => ?_)
    refine lv_iconst (v := (0 : Int32)) hx hb dX11_moreOn_41 (by decide) ?_
    refine lv_istore (lv' := [(5, .int (0 : Int32)), (4, .int (0 : Int32)), (3, .int x_34), (2, .int x_32), (1, .int x_30), (0, .ref (a 0))]) hx hb dX11_moreOn_42 hl (by decide) rfl (fun ls hl => ?_)
    refine lv_aload_n hx hb dX11_moreOn_44 rfl (lv_at hl 5 rfl) ?_
    obtain ⟨⟨⟩, st_35, h_36, heq⟩ := bnd_h heq
    refine g_vv (own := RX11) (As := []) (rest := []) hx hb hml hown hts (okX11_open l D a T h_36) (cwV 0 hts gX11_moreOn_X11_open rfl rfl rfl hdX11_open ⟨Nat.le_of_ble_eq_true rfl, Nat.le_of_ble_eq_true rfl⟩) hK hA hP hD hS (ci := 11) (q0 := 0) rfl rfl rfl hl.1 rfl (Nat.le_of_ble_eq_true rfl) dX11_moreOn_45 ⟨Nat.le_of_ble_eq_true rfl, Nat.le_of_ble_eq_true rfl⟩ (fun H locs hP hD hS => ?_)
    refine lv_iconst (v := (0 : Int32)) hx hb dX11_moreOn_48 (by decide) ?_
    refine lv_istore (lv' := [(6, .int (0 : Int32)), (5, .int (0 : Int32)), (4, .int (0 : Int32)), (3, .int x_34), (2, .int x_32), (1, .int x_30), (0, .ref (a 0))]) hx hb dX11_moreOn_49 hl (by decide) rfl (fun ls hl => ?_)
    exact b51 4 st_35 x_30 x_32 x_34 (0 : Int32) (0 : Int32) (0 : Int32) H locs ls hP hD hS (lv_sub hl [6, 5, 4, 3, 2, 1, 0] rfl) heq
  have heq := it_f c_28 heq
  refine lv_bipush (v := (-3 : Int32)) hx hb dX11_moreOn_12 (by decide) ?_
  obtain ⟨heq, heq2⟩ := ret_h heq
  subst heq
  subst heq2
  exact hret 14 H locs ls hP hD hS rfl dX11_moreOn_14
set_option maxRecDepth 20000 in
theorem ggX11_burnOn_X11_fallSide : GoodIn wsX11_burnOn wsX11_fallSide := goodIn_r _ [9, 10, 11, 12, 8, 13, 14, 15, 16, 17, 18, 19, 20, 21, 22, 23, 24, 25, 26, 27, 28, 29, 30, 31, 32, 33, 34, 35, 36, 1, 4, 37, 38, 39, 40, 41, 42, 43, 44, 45, 46, 47, 48, 49, 50, 51, 52, 53, 54, 55, 56, 57, 58, 59, 60, 61, 62, 63, 64, 65, 66, 67, 68, 69, 70, 71, 72, 73, 74, 75, 76, 77, 78, 79, 80, 81, 82, 83, 84] (by decide +kernel) (by decide +kernel)
set_option maxRecDepth 20000 in
theorem gX11_burnOn_X11_fallSide : GoodIn wsX11_burnOn (wsV RX11 119 RX11 yX11_fallSide wsX11_fallSide) := goodIn_app (goodIn_of _ (by decide +kernel)) ggX11_burnOn_X11_fallSide
theorem dX11_burnOn_0 : decode cX11_burnOn 0 = .ok (.aload_n 0, 1) := by decide +kernel
theorem dX11_burnOn_1 : decode cX11_burnOn 1 = .ok (.iconst 1, 1) := by decide +kernel
theorem dX11_burnOn_2 : decode cX11_burnOn 2 = .ok (.putfield 89, 3) := by decide +kernel
theorem dX11_burnOn_5 : decode cX11_burnOn 5 = .ok (.aload_n 0, 1) := by decide +kernel
theorem dX11_burnOn_6 : decode cX11_burnOn 6 = .ok (.bipush (-4), 2) := by decide +kernel
theorem dX11_burnOn_8 : decode cX11_burnOn 8 = .ok (.putfield 255, 3) := by decide +kernel
theorem dX11_burnOn_11 : decode cX11_burnOn 11 = .ok (.aload_n 0, 1) := by decide +kernel
theorem dX11_burnOn_12 : decode cX11_burnOn 12 = .ok (.bipush (-4), 2) := by decide +kernel
theorem dX11_burnOn_14 : decode cX11_burnOn 14 = .ok (.putfield 258, 3) := by decide +kernel
theorem dX11_burnOn_17 : decode cX11_burnOn 17 = .ok (.iconst 0, 1) := by decide +kernel
theorem dX11_burnOn_18 : decode cX11_burnOn 18 = .ok (.istore_n 1, 1) := by decide +kernel
theorem dX11_burnOn_19 : decode cX11_burnOn 19 = .ok (.iload_n 1, 1) := by decide +kernel
theorem dX11_burnOn_20 : decode cX11_burnOn 20 = .ok (.bipush 60, 2) := by decide +kernel
theorem dX11_burnOn_22 : decode cX11_burnOn 22 = .ok (.if_icmp .gt 59, 3) := by decide +kernel
theorem dX11_burnOn_25 : decode cX11_burnOn 25 = .ok (.aload_n 0, 1) := by decide +kernel
theorem dX11_burnOn_26 : decode cX11_burnOn 26 = .ok (.getfield 255, 3) := by decide +kernel
theorem dX11_burnOn_29 : decode cX11_burnOn 29 = .ok (.ifCond .ge 52, 3) := by decide +kernel
theorem dX11_burnOn_32 : decode cX11_burnOn 32 = .ok (.aload_n 0, 1) := by decide +kernel
theorem dX11_burnOn_33 : decode cX11_burnOn 33 = .ok (.dup, 1) := by decide +kernel
theorem dX11_burnOn_34 : decode cX11_burnOn 34 = .ok (.getfield 93, 3) := by decide +kernel
theorem dX11_burnOn_37 : decode cX11_burnOn 37 = .ok (.iload_n 1, 1) := by decide +kernel
theorem dX11_burnOn_38 : decode cX11_burnOn 38 = .ok (.ifCond .le 7, 3) := by decide +kernel
theorem dX11_burnOn_41 : decode cX11_burnOn 41 = .ok (.iconst 1, 1) := by decide +kernel
theorem dX11_burnOn_42 : decode cX11_burnOn 42 = .ok (.goto 4, 3) := by decide +kernel
theorem dX11_burnOn_45 : decode cX11_burnOn 45 = .ok (.iconst 0, 1) := by decide +kernel
theorem dX11_burnOn_46 : decode cX11_burnOn 46 = .ok (.iadd, 1) := by decide +kernel
theorem dX11_burnOn_47 : decode cX11_burnOn 47 = .ok (.putfield 93, 3) := by decide +kernel
theorem dX11_burnOn_50 : decode cX11_burnOn 50 = .ok (.aload_n 0, 1) := by decide +kernel
theorem dX11_burnOn_51 : decode cX11_burnOn 51 = .ok (.aload_n 0, 1) := by decide +kernel
theorem dX11_burnOn_52 : decode cX11_burnOn 52 = .ok (.invokevirtual 119, 3) := by decide +kernel
theorem dX11_burnOn_55 : decode cX11_burnOn 55 = .ok (.putfield 258, 3) := by decide +kernel
theorem dX11_burnOn_58 : decode cX11_burnOn 58 = .ok (.aload_n 0, 1) := by decide +kernel
theorem dX11_burnOn_59 : decode cX11_burnOn 59 = .ok (.aload_n 0, 1) := by decide +kernel
theorem dX11_burnOn_60 : decode cX11_burnOn 60 = .ok (.getfield 258, 3) := by decide +kernel
theorem dX11_burnOn_63 : decode cX11_burnOn 63 = .ok (.ifCond .ge 8, 3) := by decide +kernel
theorem dX11_burnOn_66 : decode cX11_burnOn 66 = .ok (.bipush (-4), 2) := by decide +kernel
theorem dX11_burnOn_68 : decode cX11_burnOn 68 = .ok (.goto 4, 3) := by decide +kernel
theorem dX11_burnOn_71 : decode cX11_burnOn 71 = .ok (.iload_n 1, 1) := by decide +kernel
theorem dX11_burnOn_72 : decode cX11_burnOn 72 = .ok (.putfield 255, 3) := by decide +kernel
theorem dX11_burnOn_75 : decode cX11_burnOn 75 = .ok (.iinc 1 1, 3) := by decide +kernel
theorem dX11_burnOn_78 : decode cX11_burnOn 78 = .ok (.goto (-59), 3) := by decide +kernel
theorem dX11_burnOn_81 : decode cX11_burnOn 81 = .ok (.return_, 1) := by decide +kernel
/-! burnOn -/
def X11_burnOn_p72 (k19 : MS → Int32 → Option (Unit × MS)) (st : MS) (v1 : Int32) (t1 : Int32) : Option (Unit × MS) :=
    nm (sF st 33 t1) fun st_1 =>
    nm (v1 + (1 : Int32)) fun x_2 =>
    k19 st_1 x_2
def X11_burnOn_p46 (k19 : MS → Int32 → Option (Unit × MS)) (st : MS) (v1 : Int32) (t1 : Int32) (t2 : Int32) : Option (Unit × MS) :=
    nm (sF st 6 (t1 + t2)) fun st_3 =>
    bnd (X11_fallSide st_3) fun y_5 st_4 =>
    nm (sF st_4 34 y_5) fun st_7 =>
    if 0 ≤ (gF st_7 34) then
      (X11_burnOn_p72 k19 st_7 v1 v1)
    else
    X11_burnOn_p72 k19 st_7 v1 (-4 : Int32)
def X11_burnOn_p81 (st : MS) : Option (Unit × MS) :=
    some ((), st)
def X11_burnOn_p19 : Nat → MS → Int32 → Option (Unit × MS)
  | 0, _, _ => none
  | n + 1, st, v1 =>
    if (60 : Int32) < v1 then
      (X11_burnOn_p81 st)
    else
    if 0 ≤ (gF st 33) then
      (X11_burnOn_p81 st)
    else
    if v1 ≤ 0 then
      (X11_burnOn_p46 (fun st v1 => X11_burnOn_p19  n st v1) st v1 (gF st 6) (0 : Int32))
    else
    X11_burnOn_p46 (fun st v1 => X11_burnOn_p19  n st v1) st v1 (gF st 6) (1 : Int32)
theorem X11_burnOn_p19_s (n : Nat) (st : MS) (v1 : Int32) : X11_burnOn_p19  (n + 1) st v1 =
    (if (60 : Int32) < v1 then
      (X11_burnOn_p81 st)
    else
    if 0 ≤ (gF st 33) then
      (X11_burnOn_p81 st)
    else
    if v1 ≤ 0 then
      (X11_burnOn_p46 (fun st v1 => X11_burnOn_p19  n st v1) st v1 (gF st 6) (0 : Int32))
    else
    X11_burnOn_p46 (fun st v1 => X11_burnOn_p19  n st v1) st v1 (gF st 6) (1 : Int32)) := rfl
def X11_burnOn (st : MS) : Option (Unit × MS) :=
    gz (1 : Int32) <|
    nm (sF st 5 (1 : Int32)) fun st_12 =>
    nm (sF st_12 33 (-4 : Int32)) fun st_14 =>
    nm (sF st_14 34 (-4 : Int32)) fun st_15 =>
    X11_burnOn_p19 62 st_15 (0 : Int32)
abbrev rmX11_burnOn : Room := { frames := 6, cells := 0, slots := 0, locals := 131 }
theorem hdX11_burnOn : yX11_burnOn.cls = RX11 ∧ yX11_burnOn.cls ≠ "java/lang/invoke/MethodHandle" ∧ yX11_burnOn.cls ≠ "java/lang/invoke/VarHandle" ∧ (parseMethodDescriptor yX11_burnOn.desc).map (fun d => d.parameters.length) = some 0 := by decide +kernel
set_option maxRecDepth 100000 in
set_option maxHeartbeats 4000000 in
theorem okX11_burnOn (l : Launch) (D : va_G) (a : Nat → Nat) (T : mT3) {st : MS} {st' : MS} (heq : X11_burnOn st = some ((), st')) : gCv l D (mT T) yX11_burnOn wsX11_burnOn rmX11_burnOn [.ref (a 0)] (mW a T st) (mW a T st') := by
  refine g_body_v (by decide) rfl (Nat.le_of_ble_eq_true rfl) (fun p e s m args below meth c A Q hx hb hml hown hts hK hA _ hret ls hP hD hS hl => ?_)
  have hl : lv_has ls 2 [(0, .ref (a 0))] := hl
  have hin : ∀ w ∈ wsX110, w ∈ wsX11_burnOn := fun w h => List.mem_cons_of_mem _ (List.mem_append_right _ h)
  have f89 : (Cond.fieldLink RX11 89 RX11 (TX11 5).2.1 (TX11 5).2.2.1).before args s = true := hts (.fieldLink RX11 89 "LaidDownTheLaneModel" "isLit" "Z") (by decide +kernel)
  have f93 : (Cond.fieldLink RX11 93 RX11 (TX11 6).2.1 (TX11 6).2.2.1).before args s = true := hts (.fieldLink RX11 93 "LaidDownTheLaneModel" "minute" "I") (by decide +kernel)
  have f255 : (Cond.fieldLink RX11 255 RX11 (TX11 33).2.1 (TX11 33).2.2.1).before args s = true := hts (.fieldLink RX11 255 "LaidDownTheLaneModel" "willIn" "I") (by decide +kernel)
  have f258 : (Cond.fieldLink RX11 258 RX11 (TX11 34).2.1 (TX11 34).2.2.1).before args s = true := hts (.fieldLink RX11 258 "LaidDownTheLaneModel" "willTo" "I") (by decide +kernel)
  have b72 : ∀ (k19 : MS → Int32 → Option (Unit × MS)) (hk19 : ∀ (st : MS) (v1 : Int32) (H : Heap) (locs : List Loc) (ls : Array Slot), va_P D vwCl (mW a T st) H → va_D A (mW a T st) → va_S A s.heap H locs → lv_has ls 2 [(0, .ref (a 0)), (1, .int v1)] → k19 st v1 = some ((), st') → W p l e rmX11_burnOn s m args below meth c H locs 0 0 Q (F0 m 19 ls [])), ∀ (st : MS) (v1 : Int32) (t1 : Int32) (H : Heap) (locs : List Loc) (ls : Array Slot), va_P D vwCl (mW a T st) H → va_D A (mW a T st) → va_S A s.heap H locs → lv_has ls 2 [(0, .ref (a 0)), (1, .int v1)] → X11_burnOn_p72 k19 st v1 t1 = some ((), st') → W p l e rmX11_burnOn s m args below meth c H locs 0 0 Q (F0 m 72 ls [.int t1, .ref (a 0)]) := by
    intro k19 hk19 st v1 t1 H locs ls hP hD hS hl heq
    unfold X11_burnOn_p72 at heq
    refine mp (k := 33) hx hb hts hin hown hK hP hD hS (by decide) f255 dX11_burnOn_72 rfl rfl rfl rfl (mset_33 ..) (fun H locs hP hD hS => ?_)
    obtain ⟨st_1, est_1⟩ : ∃ z, z = sF st 33 t1 := ⟨_, rfl⟩
    rw [← est_1] at hP hD
    have heq := nm_h est_1 heq
    obtain ⟨x_2, ex_2⟩ : ∃ y : Int32, y = v1 + (1 : Int32) := ⟨_, rfl⟩
    have heq := nm_h ex_2 heq
    refine lv_iinc (v := x_2) (lv' := [(1, .int x_2), (0, .ref (a 0))]) hx hb dX11_burnOn_75 hl (k := 1) rfl (by rw [ex_2]; rfl) (by decide) rfl (fun ls hl => ?_)
    refine lv_goto (tgt := 19) hx hb dX11_burnOn_78 (by decide) ?_
    exact hk19 st_1 x_2 H locs ls hP hD hS (lv_sub hl [1, 0] rfl) heq
  have b46 : ∀ (k19 : MS → Int32 → Option (Unit × MS)) (hk19 : ∀ (st : MS) (v1 : Int32) (H : Heap) (locs : List Loc) (ls : Array Slot), va_P D vwCl (mW a T st) H → va_D A (mW a T st) → va_S A s.heap H locs → lv_has ls 2 [(0, .ref (a 0)), (1, .int v1)] → k19 st v1 = some ((), st') → W p l e rmX11_burnOn s m args below meth c H locs 0 0 Q (F0 m 19 ls [])), ∀ (st : MS) (v1 : Int32) (t1 : Int32) (t2 : Int32) (H : Heap) (locs : List Loc) (ls : Array Slot), va_P D vwCl (mW a T st) H → va_D A (mW a T st) → va_S A s.heap H locs → lv_has ls 2 [(0, .ref (a 0)), (1, .int v1)] → X11_burnOn_p46 k19 st v1 t1 t2 = some ((), st') → W p l e rmX11_burnOn s m args below meth c H locs 0 0 Q (F0 m 46 ls [.int t2, .int t1, .ref (a 0)]) := by
    intro k19 hk19 st v1 t1 t2 H locs ls hP hD hS hl heq
    unfold X11_burnOn_p46 at heq
    refine lv_iadd hx hb dX11_burnOn_46 ?_
    refine mp (k := 6) hx hb hts hin hown hK hP hD hS (by decide) f93 dX11_burnOn_47 rfl rfl rfl rfl (mset_6 ..) (fun H locs hP hD hS => ?_)
    obtain ⟨st_3, est_3⟩ : ∃ z, z = sF st 6 (t1 + t2) := ⟨_, rfl⟩
    rw [← est_3] at hP hD
    have heq := nm_h est_3 heq
    refine lv_aload_n hx hb dX11_burnOn_50 rfl (lv_at hl 0 rfl) ?_
    refine lv_aload_n hx hb dX11_burnOn_51 rfl (lv_at hl 0 rfl) ?_
    obtain ⟨y_5, st_4, h_6, heq⟩ := bnd_h heq
    refine g_vi (own := RX11) (As := []) (rest := [.ref (a 0)]) hx hb hml hown hts (okX11_fallSide l D a T h_6) (cwV 0 hts gX11_burnOn_X11_fallSide rfl rfl rfl hdX11_fallSide ⟨Nat.le_of_ble_eq_true rfl, Nat.le_of_ble_eq_true rfl⟩) hK hA hP hD hS (ci := 11) (q0 := 0) rfl rfl rfl hl.1 rfl (Nat.le_of_ble_eq_true rfl) dX11_burnOn_52 ⟨Nat.le_of_ble_eq_true rfl, Nat.le_of_ble_eq_true rfl⟩ (fun H locs hP hD hS => ?_)
    refine mp (k := 34) hx hb hts hin hown hK hP hD hS (by decide) f258 dX11_burnOn_55 rfl rfl rfl rfl (mset_34 ..) (fun H locs hP hD hS => ?_)
    obtain ⟨st_7, est_7⟩ : ∃ z, z = sF st_4 34 y_5 := ⟨_, rfl⟩
    rw [← est_7] at hP hD
    have heq := nm_h est_7 heq
    refine lv_aload_n hx hb dX11_burnOn_58 rfl (lv_at hl 0 rfl) ?_
    refine lv_aload_n hx hb dX11_burnOn_59 rfl (lv_at hl 0 rfl) ?_
    refine mg (k := 34) (v := .int (gF st_7 34)) hx hb hts hin hown hK hP (by decide) f258 rfl dX11_burnOn_60 rfl ?_
    refine lv_if_ge (tgt := 71) hx hb dX11_burnOn_63 (by decide) (fun c_8 => ?_) (fun c_8 => ?_)
    · have heq := it_t c_8 heq
      refine lv_iload_n hx hb dX11_burnOn_71 rfl (lv_at hl 1 rfl) ?_
      exact b72 k19 hk19 st_7 v1 v1 H locs ls hP hD hS (lv_sub hl [0, 1] rfl) heq
    have heq := it_f c_8 heq
    refine lv_bipush (v := (-4 : Int32)) hx hb dX11_burnOn_66 (by decide) ?_
    refine lv_goto (tgt := 72) hx hb dX11_burnOn_68 (by decide) ?_
    exact b72 k19 hk19 st_7 v1 (-4 : Int32) H locs ls hP hD hS (lv_sub hl [0, 1] rfl) heq
  have b81 : ∀ (st : MS) (H : Heap) (locs : List Loc) (ls : Array Slot), va_P D vwCl (mW a T st) H → va_D A (mW a T st) → va_S A s.heap H locs → lv_has ls 2 [] → X11_burnOn_p81  st = some ((), st') → W p l e rmX11_burnOn s m args below meth c H locs 0 0 Q (F0 m 81 ls []) := by
    intro st H locs ls hP hD hS hl heq
    unfold X11_burnOn_p81 at heq
    obtain ⟨-, heq2⟩ := ret_h heq
    subst heq2
    exact hret 81 H locs ls hP hD hS dX11_burnOn_81
  have b19 : ∀ (n : Nat), ∀ (st : MS) (v1 : Int32) (H : Heap) (locs : List Loc) (ls : Array Slot), va_P D vwCl (mW a T st) H → va_D A (mW a T st) → va_S A s.heap H locs → lv_has ls 2 [(0, .ref (a 0)), (1, .int v1)] → X11_burnOn_p19  n st v1 = some ((), st') → W p l e rmX11_burnOn s m args below meth c H locs 0 0 Q (F0 m 19 ls []) := by
    intro n
    induction n with
    | zero => intro st v1 H locs ls hP hD hS hl heq; cases heq
    | succ n ih =>
      intro st v1 H locs ls hP hD hS hl heq
      rw [X11_burnOn_p19_s] at heq
      refine lv_iload_n hx hb dX11_burnOn_19 rfl (lv_at hl 1 rfl) ?_
      refine lv_bipush (v := (60 : Int32)) hx hb dX11_burnOn_20 (by decide) ?_
      refine lv_icmp_gt (tgt := 81) hx hb dX11_burnOn_22 (by decide) (fun c_9 => ?_) (fun c_9 => ?_)
      · have heq := it_t c_9 heq
        exact b81 st H locs ls hP hD hS (lv_sub hl [] rfl) heq
      have heq := it_f c_9 heq
      refine lv_aload_n hx hb dX11_burnOn_25 rfl (lv_at hl 0 rfl) ?_
      refine mg (k := 33) (v := .int (gF st 33)) hx hb hts hin hown hK hP (by decide) f255 rfl dX11_burnOn_26 rfl ?_
      refine lv_if_ge (tgt := 81) hx hb dX11_burnOn_29 (by decide) (fun c_10 => ?_) (fun c_10 => ?_)
      · have heq := it_t c_10 heq
        exact b81 st H locs ls hP hD hS (lv_sub hl [] rfl) heq
      have heq := it_f c_10 heq
      refine lv_aload_n hx hb dX11_burnOn_32 rfl (lv_at hl 0 rfl) ?_
      refine lv_dup hx hb dX11_burnOn_33 rfl ?_
      refine mg (k := 6) (v := .int (gF st 6)) hx hb hts hin hown hK hP (by decide) f93 rfl dX11_burnOn_34 rfl ?_
      refine lv_iload_n hx hb dX11_burnOn_37 rfl (lv_at hl 1 rfl) ?_
      refine lv_if_le (tgt := 45) hx hb dX11_burnOn_38 (by decide) (fun c_11 => ?_) (fun c_11 => ?_)
      · have heq := it_t c_11 heq
        refine lv_iconst (v := (0 : Int32)) hx hb dX11_burnOn_45 (by decide) ?_
        exact b46 (fun st v1 => X11_burnOn_p19  n st v1) ih st v1 (gF st 6) (0 : Int32) H locs ls hP hD hS (lv_sub hl [0, 1] rfl) heq
      have heq := it_f c_11 heq
      refine lv_iconst (v := (1 : Int32)) hx hb dX11_burnOn_41 (by decide) ?_
      refine lv_goto (tgt := 46) hx hb dX11_burnOn_42 (by decide) ?_
      exact b46 (fun st v1 => X11_burnOn_p19  n st v1) ih st v1 (gF st 6) (1 : Int32) H locs ls hP hD hS (lv_sub hl [0, 1] rfl) heq
  obtain ⟨H, hH⟩ : ∃ H, H = s.heap := ⟨_, rfl⟩
  obtain ⟨locs, hlocs⟩ : ∃ z : List Loc, z = [] := ⟨_, rfl⟩
  have hS : va_S A s.heap H locs := by rw [hH, hlocs]; exact hS
  have hP : va_P D vwCl (mW a T st) H := by rw [hH]; exact hP
  suffices h9 : W p l e rmX11_burnOn s m args below meth c H locs 0 0 Q (F0 m 0 ls []) by rw [hH, hlocs] at h9; exact h9
  clear hH hlocs
  unfold X11_burnOn at heq
  refine lv_aload_n hx hb dX11_burnOn_0 rfl (lv_at hl 0 rfl) ?_
  refine lv_iconst (v := (1 : Int32)) hx hb dX11_burnOn_1 (by decide) ?_
  obtain ⟨n_13, n_13f, heq⟩ := gz_h heq
  refine mp (k := 5) hx hb hts hin hown hK hP hD hS (by decide) f89 dX11_burnOn_2 rfl rfl n_13 n_13f (mset_5 ..) (fun H locs hP hD hS => ?_)
  obtain ⟨st_12, est_12⟩ : ∃ z, z = sF st 5 (1 : Int32) := ⟨_, rfl⟩
  rw [← est_12] at hP hD
  have heq := nm_h est_12 heq
  refine lv_aload_n hx hb dX11_burnOn_5 rfl (lv_at hl 0 rfl) ?_
  refine lv_bipush (v := (-4 : Int32)) hx hb dX11_burnOn_6 (by decide) ?_
  refine mp (k := 33) hx hb hts hin hown hK hP hD hS (by decide) f255 dX11_burnOn_8 rfl rfl rfl rfl (mset_33 ..) (fun H locs hP hD hS => ?_)
  obtain ⟨st_14, est_14⟩ : ∃ z, z = sF st_12 33 (-4 : Int32) := ⟨_, rfl⟩
  rw [← est_14] at hP hD
  have heq := nm_h est_14 heq
  refine lv_aload_n hx hb dX11_burnOn_11 rfl (lv_at hl 0 rfl) ?_
  refine lv_bipush (v := (-4 : Int32)) hx hb dX11_burnOn_12 (by decide) ?_
  refine mp (k := 34) hx hb hts hin hown hK hP hD hS (by decide) f258 dX11_burnOn_14 rfl rfl rfl rfl (mset_34 ..) (fun H locs hP hD hS => ?_)
  obtain ⟨st_15, est_15⟩ : ∃ z, z = sF st_14 34 (-4 : Int32) := ⟨_, rfl⟩
  rw [← est_15] at hP hD
  have heq := nm_h est_15 heq
  refine lv_iconst (v := (0 : Int32)) hx hb dX11_burnOn_17 (by decide) ?_
  refine lv_istore_n (lv' := [(1, .int (0 : Int32)), (0, .ref (a 0))]) hx hb dX11_burnOn_18 rfl hl (by decide) rfl (fun ls hl => ?_)
  exact b19 62 st_15 (0 : Int32) H locs ls hP hD hS (lv_sub hl [1, 0] rfl) heq
set_option maxRecDepth 20000 in
theorem ggX11_will_X11_in : GoodIn wsX11_will wsX11_in := goodIn_r _ [8] (by decide +kernel) (by decide +kernel)
set_option maxRecDepth 20000 in
theorem gX11_will_X11_in : GoodIn wsX11_will (va_wsS RX11 81 yX11_in wsX11_in) := goodIn_app (goodIn_of _ (by decide +kernel)) ggX11_will_X11_in
set_option maxRecDepth 20000 in
theorem ggX11_will_X11_open : GoodIn wsX11_will wsX11_open := goodIn_r _ [12, 13, 14, 15, 16, 7, 17, 18, 19, 20, 21, 22, 2, 23, 24, 25, 26, 27, 28, 29, 30, 31, 32, 80, 81, 82, 83, 84, 85, 86, 87, 88, 89, 90, 91, 92, 93, 94, 95, 96, 97, 98, 99, 100, 101, 102, 103, 104, 105, 106, 107, 108, 109, 110, 111, 112, 113, 114, 115, 116] (by decide +kernel) (by decide +kernel)
set_option maxRecDepth 20000 in
theorem gX11_will_X11_open : GoodIn wsX11_will (wsV RX11 238 RX11 yX11_open wsX11_open) := goodIn_app (goodIn_of _ (by decide +kernel)) ggX11_will_X11_open
set_option maxRecDepth 20000 in
theorem ggX11_will_X11_burnOn : GoodIn wsX11_will wsX11_burnOn := goodIn_r _ [36, 21, 3, 4, 22, 37, 38, 39, 7, 40, 41, 42, 43, 44, 45, 46, 47, 48, 49, 50, 51, 52, 24, 53, 54, 55, 56, 57, 58, 59, 60, 61, 62, 63, 64, 65, 66, 67, 68, 69, 70, 71, 26, 25, 72, 73, 74, 75, 80, 81, 82, 83, 84, 85, 86, 87, 88, 89, 90, 91, 92, 93, 94, 95, 96, 97, 98, 99, 100, 101, 102, 103, 104, 105, 106, 107, 108, 109, 110, 111, 112, 113, 114, 115, 116] (by decide +kernel) (by decide +kernel)
set_option maxRecDepth 20000 in
theorem gX11_will_X11_burnOn : GoodIn wsX11_will (wsV RX11 261 RX11 yX11_burnOn wsX11_burnOn) := goodIn_app (goodIn_of _ (by decide +kernel)) ggX11_will_X11_burnOn
set_option maxRecDepth 20000 in
theorem ggX11_will_X11_close : GoodIn wsX11_will wsX11_close := goodIn_r _ [79, 13, 14, 15, 16, 7, 17, 18, 19, 20, 21, 22, 2, 23, 24, 25, 26, 27, 28, 29, 30, 31, 32, 80, 81, 82, 83, 84, 85, 86, 87, 88, 89, 90, 91, 92, 93, 94, 95, 96, 97, 98, 99, 100, 101, 102, 103, 104, 105, 106, 107, 108, 109, 110, 111, 112, 113, 114, 115, 116] (by decide +kernel) (by decide +kernel)
set_option maxRecDepth 20000 in
theorem gX11_will_X11_close : GoodIn wsX11_will (wsV RX11 241 RX11 yX11_close wsX11_close) := goodIn_app (goodIn_of _ (by decide +kernel)) ggX11_will_X11_close
theorem dX11_will_0 : decode cX11_will 0 = .ok (.aload_n 0, 1) := by decide +kernel
theorem dX11_will_1 : decode cX11_will 1 = .ok (.iconst 0, 1) := by decide +kernel
theorem dX11_will_2 : decode cX11_will 2 = .ok (.putfield 75, 3) := by decide +kernel
theorem dX11_will_5 : decode cX11_will 5 = .ok (.iload_n 1, 1) := by decide +kernel
theorem dX11_will_6 : decode cX11_will 6 = .ok (.i2l, 1) := by decide +kernel
theorem dX11_will_7 : decode cX11_will 7 = .ok (.lconst 0, 1) := by decide +kernel
theorem dX11_will_8 : decode cX11_will 8 = .ok (.lconst 1, 1) := by decide +kernel
theorem dX11_will_9 : decode cX11_will 9 = .ok (.invokestatic 81, 3) := by decide +kernel
theorem dX11_will_12 : decode cX11_will 12 = .ok (.ifCond .ne 5, 3) := by decide +kernel
theorem dX11_will_15 : decode cX11_will 15 = .ok (.iconst (-1), 1) := by decide +kernel
theorem dX11_will_16 : decode cX11_will 16 = .ok (.ireturn, 1) := by decide +kernel
theorem dX11_will_17 : decode cX11_will 17 = .ok (.aload_n 0, 1) := by decide +kernel
theorem dX11_will_18 : decode cX11_will 18 = .ok (.getfield 122, 3) := by decide +kernel
theorem dX11_will_21 : decode cX11_will 21 = .ok (.ifCond .eq 6, 3) := by decide +kernel
theorem dX11_will_24 : decode cX11_will 24 = .ok (.bipush (-3), 2) := by decide +kernel
theorem dX11_will_26 : decode cX11_will 26 = .ok (.ireturn, 1) := by decide +kernel
theorem dX11_will_27 : decode cX11_will 27 = .ok (.aload_n 0, 1) := by decide +kernel
theorem dX11_will_28 : decode cX11_will 28 = .ok (.invokevirtual 238, 3) := by decide +kernel
theorem dX11_will_31 : decode cX11_will 31 = .ok (.aload_n 0, 1) := by decide +kernel
theorem dX11_will_32 : decode cX11_will 32 = .ok (.invokevirtual 261, 3) := by decide +kernel
theorem dX11_will_35 : decode cX11_will 35 = .ok (.aload_n 0, 1) := by decide +kernel
theorem dX11_will_36 : decode cX11_will 36 = .ok (.invokevirtual 241, 3) := by decide +kernel
theorem dX11_will_39 : decode cX11_will 39 = .ok (.iload_n 1, 1) := by decide +kernel
theorem dX11_will_40 : decode cX11_will 40 = .ok (.ifCond .ne 10, 3) := by decide +kernel
theorem dX11_will_43 : decode cX11_will 43 = .ok (.aload_n 0, 1) := by decide +kernel
theorem dX11_will_44 : decode cX11_will 44 = .ok (.getfield 255, 3) := by decide +kernel
theorem dX11_will_47 : decode cX11_will 47 = .ok (.goto 7, 3) := by decide +kernel
theorem dX11_will_50 : decode cX11_will 50 = .ok (.aload_n 0, 1) := by decide +kernel
theorem dX11_will_51 : decode cX11_will 51 = .ok (.getfield 258, 3) := by decide +kernel
theorem dX11_will_54 : decode cX11_will 54 = .ok (.ireturn, 1) := by decide +kernel
/-! will -/
def X11_will_p54 (st : MS) (t0 : Int32) : Option (Int32 × MS) :=
    some (t0, st)
def X11_will (st : MS) (v1 : Int32) : Option (Int32 × MS) :=
    nm (sF st 17 (0 : Int32)) fun st_1 =>
    bd1 (X11_in (v1.toInt64) (0 : Int64) (1 : Int64)) fun y_2 =>
    if y_2 = 0 then
      (some ((-1 : Int32), st_1))
    else
    if (gF st_1 7) = 0 then
      (bnd (X11_open st_1) fun _ st_6 =>
      bnd (X11_burnOn st_6) fun _ st_8 =>
      bnd (X11_close st_8) fun _ st_10 =>
      if v1 = 0 then
        (X11_will_p54 st_10 (gF st_10 33))
      else
      X11_will_p54 st_10 (gF st_10 34))
    else
    some ((-3 : Int32), st_1)
abbrev rmX11_will : Room := { frames := 7, cells := 0, slots := 0, locals := 152 }
theorem hdX11_will : yX11_will.cls = RX11 ∧ yX11_will.cls ≠ "java/lang/invoke/MethodHandle" ∧ yX11_will.cls ≠ "java/lang/invoke/VarHandle" ∧ (parseMethodDescriptor yX11_will.desc).map (fun d => d.parameters.length) = some 1 := by decide +kernel
set_option maxRecDepth 100000 in
set_option maxHeartbeats 4000000 in
theorem okX11_will (l : Launch) (D : va_G) (a : Nat → Nat) (T : mT3) {st : MS} {v1 : Int32} {r : Int32} {st' : MS} (heq : X11_will st v1 = some (r, st')) : gCi l D (mT T) yX11_will wsX11_will rmX11_will [.ref (a 0), .int v1] (mW a T st) r (mW a T st') := by
  refine g_body_i (by decide) rfl (Nat.le_of_ble_eq_true rfl) (fun p e s m args below meth c A Q hx hb hml hown hts hK hA hret ls hP hD hS hl => ?_)
  have hl : lv_has ls 2 [(0, .ref (a 0)), (1, .int v1)] := hl
  have hin : ∀ w ∈ wsX110, w ∈ wsX11_will := fun w h => List.mem_cons_of_mem _ (List.mem_append_right _ h)
  have f75 : (Cond.fieldLink RX11 75 RX11 (TX11 17).2.1 (TX11 17).2.2.1).before args s = true := hts (.fieldLink RX11 75 "LaidDownTheLaneModel" "thrown" "I") (by decide +kernel)
  have f122 : (Cond.fieldLink RX11 122 RX11 (TX11 7).2.1 (TX11 7).2.2.1).before args s = true := hts (.fieldLink RX11 122 "LaidDownTheLaneModel" "isDown" "Z") (by decide +kernel)
  have f255 : (Cond.fieldLink RX11 255 RX11 (TX11 33).2.1 (TX11 33).2.2.1).before args s = true := hts (.fieldLink RX11 255 "LaidDownTheLaneModel" "willIn" "I") (by decide +kernel)
  have f258 : (Cond.fieldLink RX11 258 RX11 (TX11 34).2.1 (TX11 34).2.2.1).before args s = true := hts (.fieldLink RX11 258 "LaidDownTheLaneModel" "willTo" "I") (by decide +kernel)
  have b54 : ∀ (st : MS) (t0 : Int32) (H : Heap) (locs : List Loc) (ls : Array Slot), va_P D vwCl (mW a T st) H → va_D A (mW a T st) → va_S A s.heap H locs → lv_has ls 2 [] → X11_will_p54  st t0 = some (r, st') → W p l e rmX11_will s m args below meth c H locs 0 0 Q (F0 m 54 ls [.int t0]) := by
    intro st t0 H locs ls hP hD hS hl heq
    unfold X11_will_p54 at heq
    obtain ⟨heq, heq2⟩ := ret_h heq
    subst heq
    subst heq2
    exact hret 54 H locs ls hP hD hS rfl dX11_will_54
  obtain ⟨H, hH⟩ : ∃ H, H = s.heap := ⟨_, rfl⟩
  obtain ⟨locs, hlocs⟩ : ∃ z : List Loc, z = [] := ⟨_, rfl⟩
  have hS : va_S A s.heap H locs := by rw [hH, hlocs]; exact hS
  have hP : va_P D vwCl (mW a T st) H := by rw [hH]; exact hP
  suffices h9 : W p l e rmX11_will s m args below meth c H locs 0 0 Q (F0 m 0 ls []) by rw [hH, hlocs] at h9; exact h9
  clear hH hlocs
  unfold X11_will at heq
  refine lv_aload_n hx hb dX11_will_0 rfl (lv_at hl 0 rfl) ?_
  refine lv_iconst (v := (0 : Int32)) hx hb dX11_will_1 (by decide) ?_
  refine mp (k := 17) hx hb hts hin hown hK hP hD hS (by decide) f75 dX11_will_2 rfl rfl rfl rfl (mset_17 ..) (fun H locs hP hD hS => ?_)
  obtain ⟨st_1, est_1⟩ : ∃ z, z = sF st 17 (0 : Int32) := ⟨_, rfl⟩
  rw [← est_1] at hP hD
  have heq := nm_h est_1 heq
  refine lv_iload_n hx hb dX11_will_5 rfl (lv_at hl 1 rfl) ?_
  refine lv_i2l hx hb dX11_will_6 rfl ?_
  refine lv_lconst (v := (0 : Int64)) hx hb dX11_will_7 (by decide) ?_
  refine lv_lconst (v := (1 : Int64)) hx hb dX11_will_8 (by decide) ?_
  obtain ⟨y_2, h_3, heq⟩ := bd1_h heq
  refine g_si (own := RX11) (D := D) (As := [.long (v1.toInt64), .long (0 : Int64), .long (1 : Int64)]) (rest := []) hx hb hml hown hts (okX11_in l D h_3) (cwS 3 hts gX11_will_X11_in rfl rfl rfl hdX11_in ⟨Nat.le_of_ble_eq_true rfl, Nat.le_of_ble_eq_true rfl⟩) hK hA hP hS rfl hl.1 rfl (Nat.le_of_ble_eq_true rfl) dX11_will_9 ⟨Nat.le_of_ble_eq_true rfl, Nat.le_of_ble_eq_true rfl⟩ (fun H locs hP hS => ?_)
  refine lv_if_ne (tgt := 17) hx hb dX11_will_12 (by decide) (fun c_4 => ?_) (fun c_4 => ?_)
  · have heq := it_f c_4 heq
    refine lv_aload_n hx hb dX11_will_17 rfl (lv_at hl 0 rfl) ?_
    refine mg (k := 7) (v := .int (gF st_1 7)) hx hb hts hin hown hK hP (by decide) f122 rfl dX11_will_18 rfl ?_
    refine lv_if_eq (tgt := 27) hx hb dX11_will_21 (by decide) (fun c_5 => ?_) (fun c_5 => ?_)
    · have heq := it_t c_5 heq
      refine lv_aload_n hx hb dX11_will_27 rfl (lv_at hl 0 rfl) ?_
      obtain ⟨⟨⟩, st_6, h_7, heq⟩ := bnd_h heq
      refine g_vv (own := RX11) (As := []) (rest := []) hx hb hml hown hts (okX11_open l D a T h_7) (cwV 0 hts gX11_will_X11_open rfl rfl rfl hdX11_open ⟨Nat.le_of_ble_eq_true rfl, Nat.le_of_ble_eq_true rfl⟩) hK hA hP hD hS (ci := 11) (q0 := 0) rfl rfl rfl hl.1 rfl (Nat.le_of_ble_eq_true rfl) dX11_will_28 ⟨Nat.le_of_ble_eq_true rfl, Nat.le_of_ble_eq_true rfl⟩ (fun H locs hP hD hS => ?_)
      refine lv_aload_n hx hb dX11_will_31 rfl (lv_at hl 0 rfl) ?_
      obtain ⟨⟨⟩, st_8, h_9, heq⟩ := bnd_h heq
      refine g_vv (own := RX11) (As := []) (rest := []) hx hb hml hown hts (okX11_burnOn l D a T h_9) (cwV 0 hts gX11_will_X11_burnOn rfl rfl rfl hdX11_burnOn ⟨Nat.le_of_ble_eq_true rfl, Nat.le_of_ble_eq_true rfl⟩) hK hA hP hD hS (ci := 11) (q0 := 0) rfl rfl rfl hl.1 rfl (Nat.le_of_ble_eq_true rfl) dX11_will_32 ⟨Nat.le_of_ble_eq_true rfl, Nat.le_of_ble_eq_true rfl⟩ (fun H locs hP hD hS => ?_)
      refine lv_aload_n hx hb dX11_will_35 rfl (lv_at hl 0 rfl) ?_
      obtain ⟨⟨⟩, st_10, h_11, heq⟩ := bnd_h heq
      refine g_vv (own := RX11) (As := []) (rest := []) hx hb hml hown hts (okX11_close l D a T h_11) (cwV 0 hts gX11_will_X11_close rfl rfl rfl hdX11_close ⟨Nat.le_of_ble_eq_true rfl, Nat.le_of_ble_eq_true rfl⟩) hK hA hP hD hS (ci := 11) (q0 := 0) rfl rfl rfl hl.1 rfl (Nat.le_of_ble_eq_true rfl) dX11_will_36 ⟨Nat.le_of_ble_eq_true rfl, Nat.le_of_ble_eq_true rfl⟩ (fun H locs hP hD hS => ?_)
      refine lv_iload_n hx hb dX11_will_39 rfl (lv_at hl 1 rfl) ?_
      refine lv_if_ne (tgt := 50) hx hb dX11_will_40 (by decide) (fun c_12 => ?_) (fun c_12 => ?_)
      · have heq := it_f c_12 heq
        refine lv_aload_n hx hb dX11_will_50 rfl (lv_at hl 0 rfl) ?_
        refine mg (k := 34) (v := .int (gF st_10 34)) hx hb hts hin hown hK hP (by decide) f258 rfl dX11_will_51 rfl ?_
        exact b54 st_10 (gF st_10 34) H locs ls hP hD hS (lv_sub hl [] rfl) heq
      have heq := it_t c_12 heq
      refine lv_aload_n hx hb dX11_will_43 rfl (lv_at hl 0 rfl) ?_
      refine mg (k := 33) (v := .int (gF st_10 33)) hx hb hts hin hown hK hP (by decide) f255 rfl dX11_will_44 rfl ?_
      refine lv_goto (tgt := 54) hx hb dX11_will_47 (by decide) ?_
      exact b54 st_10 (gF st_10 33) H locs ls hP hD hS (lv_sub hl [] rfl) heq
    have heq := it_f c_5 heq
    refine lv_bipush (v := (-3 : Int32)) hx hb dX11_will_24 (by decide) ?_
    obtain ⟨heq, heq2⟩ := ret_h heq
    subst heq
    subst heq2
    exact hret 26 H locs ls hP hD hS rfl dX11_will_26
  have heq := it_t c_4 heq
  refine lv_iconst (v := (-1 : Int32)) hx hb dX11_will_15 (by decide) ?_
  obtain ⟨heq, heq2⟩ := ret_h heq
  subst heq
  subst heq2
  exact hret 16 H locs ls hP hD hS rfl dX11_will_16
set_option maxRecDepth 20000 in
theorem ggX11_thick_X11_in : GoodIn wsX11_thick wsX11_in := goodIn_r _ [11] (by decide +kernel) (by decide +kernel)
set_option maxRecDepth 20000 in
theorem gX11_thick_X11_in : GoodIn wsX11_thick (va_wsS RX11 81 yX11_in wsX11_in) := goodIn_app (goodIn_of _ (by decide +kernel)) ggX11_thick_X11_in
set_option maxRecDepth 20000 in
theorem ggX11_thick_X11_open : GoodIn wsX11_thick wsX11_open := goodIn_r _ [15, 16, 17, 18, 19, 10, 20, 21, 22, 23, 24, 25, 2, 26, 6, 4, 3, 27, 28, 29, 30, 31, 32, 84, 85, 86, 87, 88, 89, 90, 91, 92, 93, 94, 95, 96, 97, 98, 99, 100, 101, 102, 103, 104, 105, 106, 107, 108, 109, 110, 111, 112, 113, 114, 115, 116, 117, 118, 119, 120] (by decide +kernel) (by decide +kernel)
set_option maxRecDepth 20000 in
theorem gX11_thick_X11_open : GoodIn wsX11_thick (wsV RX11 238 RX11 yX11_open wsX11_open) := goodIn_app (goodIn_of _ (by decide +kernel)) ggX11_thick_X11_open
set_option maxRecDepth 20000 in
theorem ggX11_thick_X11_stands : GoodIn wsX11_thick wsX11_stands := goodIn_r _ [36, 37, 38, 39, 10, 40, 41, 42, 43, 44, 45, 46, 47, 48, 49, 50, 51, 52, 6, 53, 54, 55, 56, 57, 58, 59, 60, 61, 62, 63, 64, 65, 66, 24, 25, 67, 68, 69, 70, 71, 3, 4, 72, 73, 74, 75, 84, 85, 86, 87, 88, 89, 90, 91, 92, 93, 94, 95, 96, 97, 98, 99, 100, 101, 102, 103, 104, 105, 106, 107, 108, 109, 110, 111, 112, 113, 114, 115, 116, 117, 118, 119, 120] (by decide +kernel) (by decide +kernel)
set_option maxRecDepth 20000 in
theorem gX11_thick_X11_stands : GoodIn wsX11_thick (wsV RX11 125 RX11 yX11_stands wsX11_stands) := goodIn_app (goodIn_of _ (by decide +kernel)) ggX11_thick_X11_stands
set_option maxRecDepth 20000 in
theorem ggX11_thick_X11_burnOn : GoodIn wsX11_thick wsX11_burnOn := goodIn_r _ [79, 24, 7, 5, 25, 37, 38, 39, 10, 40, 41, 42, 43, 44, 45, 46, 47, 48, 49, 50, 51, 52, 6, 53, 54, 55, 56, 57, 58, 59, 60, 61, 62, 63, 64, 65, 66, 67, 68, 69, 70, 71, 3, 4, 72, 73, 74, 75, 84, 85, 86, 87, 88, 89, 90, 91, 92, 93, 94, 95, 96, 97, 98, 99, 100, 101, 102, 103, 104, 105, 106, 107, 108, 109, 110, 111, 112, 113, 114, 115, 116, 117, 118, 119, 120] (by decide +kernel) (by decide +kernel)
set_option maxRecDepth 20000 in
theorem gX11_thick_X11_burnOn : GoodIn wsX11_thick (wsV RX11 261 RX11 yX11_burnOn wsX11_burnOn) := goodIn_app (goodIn_of _ (by decide +kernel)) ggX11_thick_X11_burnOn
set_option maxRecDepth 20000 in
theorem ggX11_thick_X11_close : GoodIn wsX11_thick wsX11_close := goodIn_r _ [83, 16, 17, 18, 19, 10, 20, 21, 22, 23, 24, 25, 2, 26, 6, 4, 3, 27, 28, 29, 30, 31, 32, 84, 85, 86, 87, 88, 89, 90, 91, 92, 93, 94, 95, 96, 97, 98, 99, 100, 101, 102, 103, 104, 105, 106, 107, 108, 109, 110, 111, 112, 113, 114, 115, 116, 117, 118, 119, 120] (by decide +kernel) (by decide +kernel)
set_option maxRecDepth 20000 in
theorem gX11_thick_X11_close : GoodIn wsX11_thick (wsV RX11 241 RX11 yX11_close wsX11_close) := goodIn_app (goodIn_of _ (by decide +kernel)) ggX11_thick_X11_close
theorem dX11_thick_0 : decode cX11_thick 0 = .ok (.aload_n 0, 1) := by decide +kernel
theorem dX11_thick_1 : decode cX11_thick 1 = .ok (.iconst 0, 1) := by decide +kernel
theorem dX11_thick_2 : decode cX11_thick 2 = .ok (.putfield 75, 3) := by decide +kernel
theorem dX11_thick_5 : decode cX11_thick 5 = .ok (.iload_n 1, 1) := by decide +kernel
theorem dX11_thick_6 : decode cX11_thick 6 = .ok (.i2l, 1) := by decide +kernel
theorem dX11_thick_7 : decode cX11_thick 7 = .ok (.lconst 0, 1) := by decide +kernel
theorem dX11_thick_8 : decode cX11_thick 8 = .ok (.lconst 1, 1) := by decide +kernel
theorem dX11_thick_9 : decode cX11_thick 9 = .ok (.invokestatic 81, 3) := by decide +kernel
theorem dX11_thick_12 : decode cX11_thick 12 = .ok (.ifCond .ne 5, 3) := by decide +kernel
theorem dX11_thick_15 : decode cX11_thick 15 = .ok (.iconst (-1), 1) := by decide +kernel
theorem dX11_thick_16 : decode cX11_thick 16 = .ok (.ireturn, 1) := by decide +kernel
theorem dX11_thick_17 : decode cX11_thick 17 = .ok (.aload_n 0, 1) := by decide +kernel
theorem dX11_thick_18 : decode cX11_thick 18 = .ok (.getfield 122, 3) := by decide +kernel
theorem dX11_thick_21 : decode cX11_thick 21 = .ok (.ifCond .eq 6, 3) := by decide +kernel
theorem dX11_thick_24 : decode cX11_thick 24 = .ok (.bipush (-3), 2) := by decide +kernel
theorem dX11_thick_26 : decode cX11_thick 26 = .ok (.ireturn, 1) := by decide +kernel
theorem dX11_thick_27 : decode cX11_thick 27 = .ok (.bipush (-4), 2) := by decide +kernel
theorem dX11_thick_29 : decode cX11_thick 29 = .ok (.istore_n 2, 1) := by decide +kernel
theorem dX11_thick_30 : decode cX11_thick 30 = .ok (.bipush (-4), 2) := by decide +kernel
theorem dX11_thick_32 : decode cX11_thick 32 = .ok (.istore_n 3, 1) := by decide +kernel
theorem dX11_thick_33 : decode cX11_thick 33 = .ok (.bipush (-4), 2) := by decide +kernel
theorem dX11_thick_35 : decode cX11_thick 35 = .ok (.istore 4, 2) := by decide +kernel
theorem dX11_thick_37 : decode cX11_thick 37 = .ok (.aload_n 0, 1) := by decide +kernel
theorem dX11_thick_38 : decode cX11_thick 38 = .ok (.invokevirtual 238, 3) := by decide +kernel
theorem dX11_thick_41 : decode cX11_thick 41 = .ok (.iconst 1, 1) := by decide +kernel
theorem dX11_thick_42 : decode cX11_thick 42 = .ok (.istore 5, 2) := by decide +kernel
theorem dX11_thick_44 : decode cX11_thick 44 = .ok (.iload 5, 2) := by decide +kernel
theorem dX11_thick_46 : decode cX11_thick 46 = .ok (.bipush 9, 2) := by decide +kernel
theorem dX11_thick_48 : decode cX11_thick 48 = .ok (.if_icmp .gt 168, 3) := by decide +kernel
theorem dX11_thick_51 : decode cX11_thick 51 = .ok (.iconst 0, 1) := by decide +kernel
theorem dX11_thick_52 : decode cX11_thick 52 = .ok (.istore 6, 2) := by decide +kernel
theorem dX11_thick_54 : decode cX11_thick 54 = .ok (.iload 6, 2) := by decide +kernel
theorem dX11_thick_56 : decode cX11_thick 56 = .ok (.bipush 12, 2) := by decide +kernel
theorem dX11_thick_58 : decode cX11_thick 58 = .ok (.if_icmp .ge 68, 3) := by decide +kernel
theorem dX11_thick_61 : decode cX11_thick 61 = .ok (.aload_n 0, 1) := by decide +kernel
theorem dX11_thick_62 : decode cX11_thick 62 = .ok (.getfield 19, 3) := by decide +kernel
theorem dX11_thick_65 : decode cX11_thick 65 = .ok (.iload 6, 2) := by decide +kernel
theorem dX11_thick_67 : decode cX11_thick 67 = .ok (.aload_n 0, 1) := by decide +kernel
theorem dX11_thick_68 : decode cX11_thick 68 = .ok (.getfield 16, 3) := by decide +kernel
theorem dX11_thick_71 : decode cX11_thick 71 = .ok (.iload 6, 2) := by decide +kernel
theorem dX11_thick_73 : decode cX11_thick 73 = .ok (.iaload, 1) := by decide +kernel
theorem dX11_thick_74 : decode cX11_thick 74 = .ok (.iconst 1, 1) := by decide +kernel
theorem dX11_thick_75 : decode cX11_thick 75 = .ok (.if_icmp .ne 8, 3) := by decide +kernel
theorem dX11_thick_78 : decode cX11_thick 78 = .ok (.iload 5, 2) := by decide +kernel
theorem dX11_thick_80 : decode cX11_thick 80 = .ok (.goto 10, 3) := by decide +kernel
theorem dX11_thick_83 : decode cX11_thick 83 = .ok (.aload_n 0, 1) := by decide +kernel
theorem dX11_thick_84 : decode cX11_thick 84 = .ok (.getfield 19, 3) := by decide +kernel
theorem dX11_thick_87 : decode cX11_thick 87 = .ok (.iload 6, 2) := by decide +kernel
theorem dX11_thick_89 : decode cX11_thick 89 = .ok (.iaload, 1) := by decide +kernel
theorem dX11_thick_90 : decode cX11_thick 90 = .ok (.iastore, 1) := by decide +kernel
theorem dX11_thick_91 : decode cX11_thick 91 = .ok (.aload_n 0, 1) := by decide +kernel
theorem dX11_thick_92 : decode cX11_thick 92 = .ok (.getfield 16, 3) := by decide +kernel
theorem dX11_thick_95 : decode cX11_thick 95 = .ok (.iload 6, 2) := by decide +kernel
theorem dX11_thick_97 : decode cX11_thick 97 = .ok (.aload_n 0, 1) := by decide +kernel
theorem dX11_thick_98 : decode cX11_thick 98 = .ok (.getfield 16, 3) := by decide +kernel
theorem dX11_thick_101 : decode cX11_thick 101 = .ok (.iload 6, 2) := by decide +kernel
theorem dX11_thick_103 : decode cX11_thick 103 = .ok (.iaload, 1) := by decide +kernel
theorem dX11_thick_104 : decode cX11_thick 104 = .ok (.iconst 1, 1) := by decide +kernel
theorem dX11_thick_105 : decode cX11_thick 105 = .ok (.if_icmp .ne 7, 3) := by decide +kernel
theorem dX11_thick_108 : decode cX11_thick 108 = .ok (.iconst 2, 1) := by decide +kernel
theorem dX11_thick_109 : decode cX11_thick 109 = .ok (.goto 10, 3) := by decide +kernel
theorem dX11_thick_112 : decode cX11_thick 112 = .ok (.aload_n 0, 1) := by decide +kernel
theorem dX11_thick_113 : decode cX11_thick 113 = .ok (.getfield 16, 3) := by decide +kernel
theorem dX11_thick_116 : decode cX11_thick 116 = .ok (.iload 6, 2) := by decide +kernel
theorem dX11_thick_118 : decode cX11_thick 118 = .ok (.iaload, 1) := by decide +kernel
theorem dX11_thick_119 : decode cX11_thick 119 = .ok (.iastore, 1) := by decide +kernel
theorem dX11_thick_120 : decode cX11_thick 120 = .ok (.iinc 6 1, 3) := by decide +kernel
theorem dX11_thick_123 : decode cX11_thick 123 = .ok (.goto (-69), 3) := by decide +kernel
theorem dX11_thick_126 : decode cX11_thick 126 = .ok (.iload_n 2, 1) := by decide +kernel
theorem dX11_thick_127 : decode cX11_thick 127 = .ok (.ifCond .ge 15, 3) := by decide +kernel
theorem dX11_thick_130 : decode cX11_thick 130 = .ok (.aload_n 0, 1) := by decide +kernel
theorem dX11_thick_131 : decode cX11_thick 131 = .ok (.invokevirtual 125, 3) := by decide +kernel
theorem dX11_thick_134 : decode cX11_thick 134 = .ok (.ifCond .eq 8, 3) := by decide +kernel
theorem dX11_thick_137 : decode cX11_thick 137 = .ok (.iload 5, 2) := by decide +kernel
theorem dX11_thick_139 : decode cX11_thick 139 = .ok (.goto 4, 3) := by decide +kernel
theorem dX11_thick_142 : decode cX11_thick 142 = .ok (.iload_n 2, 1) := by decide +kernel
theorem dX11_thick_143 : decode cX11_thick 143 = .ok (.istore_n 2, 1) := by decide +kernel
theorem dX11_thick_144 : decode cX11_thick 144 = .ok (.aload_n 0, 1) := by decide +kernel
theorem dX11_thick_145 : decode cX11_thick 145 = .ok (.invokevirtual 261, 3) := by decide +kernel
theorem dX11_thick_148 : decode cX11_thick 148 = .ok (.aload_n 0, 1) := by decide +kernel
theorem dX11_thick_149 : decode cX11_thick 149 = .ok (.getfield 258, 3) := by decide +kernel
theorem dX11_thick_152 : decode cX11_thick 152 = .ok (.aload_n 0, 1) := by decide +kernel
theorem dX11_thick_153 : decode cX11_thick 153 = .ok (.getfield 22, 3) := by decide +kernel
theorem dX11_thick_156 : decode cX11_thick 156 = .ok (.bipush 6, 2) := by decide +kernel
theorem dX11_thick_158 : decode cX11_thick 158 = .ok (.iaload, 1) := by decide +kernel
theorem dX11_thick_159 : decode cX11_thick 159 = .ok (.if_icmp .ne 16, 3) := by decide +kernel
theorem dX11_thick_162 : decode cX11_thick 162 = .ok (.aload_n 0, 1) := by decide +kernel
theorem dX11_thick_163 : decode cX11_thick 163 = .ok (.getfield 255, 3) := by decide +kernel
theorem dX11_thick_166 : decode cX11_thick 166 = .ok (.iload 4, 2) := by decide +kernel
theorem dX11_thick_168 : decode cX11_thick 168 = .ok (.if_icmp .le 7, 3) := by decide +kernel
theorem dX11_thick_171 : decode cX11_thick 171 = .ok (.iconst 1, 1) := by decide +kernel
theorem dX11_thick_172 : decode cX11_thick 172 = .ok (.goto 4, 3) := by decide +kernel
theorem dX11_thick_175 : decode cX11_thick 175 = .ok (.iconst 0, 1) := by decide +kernel
theorem dX11_thick_176 : decode cX11_thick 176 = .ok (.istore 6, 2) := by decide +kernel
theorem dX11_thick_178 : decode cX11_thick 178 = .ok (.iload 6, 2) := by decide +kernel
theorem dX11_thick_180 : decode cX11_thick 180 = .ok (.ifCond .eq 8, 3) := by decide +kernel
theorem dX11_thick_183 : decode cX11_thick 183 = .ok (.iload 5, 2) := by decide +kernel
theorem dX11_thick_185 : decode cX11_thick 185 = .ok (.goto 4, 3) := by decide +kernel
theorem dX11_thick_188 : decode cX11_thick 188 = .ok (.iload_n 3, 1) := by decide +kernel
theorem dX11_thick_189 : decode cX11_thick 189 = .ok (.istore_n 3, 1) := by decide +kernel
theorem dX11_thick_190 : decode cX11_thick 190 = .ok (.iload 6, 2) := by decide +kernel
theorem dX11_thick_192 : decode cX11_thick 192 = .ok (.ifCond .eq 10, 3) := by decide +kernel
theorem dX11_thick_195 : decode cX11_thick 195 = .ok (.aload_n 0, 1) := by decide +kernel
theorem dX11_thick_196 : decode cX11_thick 196 = .ok (.getfield 255, 3) := by decide +kernel
theorem dX11_thick_199 : decode cX11_thick 199 = .ok (.goto 5, 3) := by decide +kernel
theorem dX11_thick_202 : decode cX11_thick 202 = .ok (.iload 4, 2) := by decide +kernel
theorem dX11_thick_204 : decode cX11_thick 204 = .ok (.istore 4, 2) := by decide +kernel
theorem dX11_thick_206 : decode cX11_thick 206 = .ok (.aload_n 0, 1) := by decide +kernel
theorem dX11_thick_207 : decode cX11_thick 207 = .ok (.invokevirtual 241, 3) := by decide +kernel
theorem dX11_thick_210 : decode cX11_thick 210 = .ok (.iinc 5 1, 3) := by decide +kernel
theorem dX11_thick_213 : decode cX11_thick 213 = .ok (.goto (-169), 3) := by decide +kernel
theorem dX11_thick_216 : decode cX11_thick 216 = .ok (.iload_n 1, 1) := by decide +kernel
theorem dX11_thick_217 : decode cX11_thick 217 = .ok (.ifCond .ne 7, 3) := by decide +kernel
theorem dX11_thick_220 : decode cX11_thick 220 = .ok (.iload_n 2, 1) := by decide +kernel
theorem dX11_thick_221 : decode cX11_thick 221 = .ok (.goto 4, 3) := by decide +kernel
theorem dX11_thick_224 : decode cX11_thick 224 = .ok (.iload_n 3, 1) := by decide +kernel
theorem dX11_thick_225 : decode cX11_thick 225 = .ok (.ireturn, 1) := by decide +kernel
/-! thick -/
def X11_thick_p119 (k44 : MS → Int32 → Int32 → Int32 → Int32 → Int32 → Option (Int32 × MS)) (k54 : MS → Int32 → Int32 → Int32 → Int32 → Int32 → Int32 → Option (Int32 × MS)) (st : MS) (v1 : Int32) (v2 : Int32) (v3 : Int32) (v4 : Int32) (v5 : Int32) (v6 : Int32) (t1 : Int32) (t2 : Int32) : Option (Int32 × MS) :=
    inr t1 12 <|
    nm (sA st 2 t1.toNatClampNeg t2) fun st_2 =>
    nm (v6 + (1 : Int32)) fun x_3 =>
    k54 st_2 v1 v2 v3 v4 v5 x_3
def X11_thick_p90 (k44 : MS → Int32 → Int32 → Int32 → Int32 → Int32 → Option (Int32 × MS)) (k54 : MS → Int32 → Int32 → Int32 → Int32 → Int32 → Int32 → Option (Int32 × MS)) (st : MS) (v1 : Int32) (v2 : Int32) (v3 : Int32) (v4 : Int32) (v5 : Int32) (v6 : Int32) (t1 : Int32) (t2 : Int32) : Option (Int32 × MS) :=
    inr t1 12 <|
    nm (sA st 3 t1.toNatClampNeg t2) fun st_5 =>
    inr v6 12 <|
    if (gA st_5 2 v6.toNatClampNeg) = (1 : Int32) then
      (X11_thick_p119 k44 k54 st_5 v1 v2 v3 v4 v5 v6 v6 (2 : Int32))
    else
    inr v6 12 <|
    X11_thick_p119 k44 k54 st_5 v1 v2 v3 v4 v5 v6 v6 (gA st_5 2 v6.toNatClampNeg)
def X11_thick_p204 (k44 : MS → Int32 → Int32 → Int32 → Int32 → Int32 → Option (Int32 × MS)) (st : MS) (v1 : Int32) (v2 : Int32) (v3 : Int32) (v5 : Int32) (t0 : Int32) : Option (Int32 × MS) :=
    bnd (X11_close st) fun _ st_9 =>
    nm (v5 + (1 : Int32)) fun x_11 =>
    k44 st_9 v1 v2 v3 t0 x_11
def X11_thick_p189 (k44 : MS → Int32 → Int32 → Int32 → Int32 → Int32 → Option (Int32 × MS)) (st : MS) (v1 : Int32) (v2 : Int32) (v4 : Int32) (v5 : Int32) (v6 : Int32) (t0 : Int32) : Option (Int32 × MS) :=
    if v6 = 0 then
      (X11_thick_p204 k44 st v1 v2 t0 v5 v4)
    else
    X11_thick_p204 k44 st v1 v2 t0 v5 (gF st 33)
def X11_thick_p176 (k44 : MS → Int32 → Int32 → Int32 → Int32 → Int32 → Option (Int32 × MS)) (st : MS) (v1 : Int32) (v2 : Int32) (v3 : Int32) (v4 : Int32) (v5 : Int32) (t0 : Int32) : Option (Int32 × MS) :=
    if t0 = 0 then
      (X11_thick_p189 k44 st v1 v2 v4 v5 t0 v3)
    else
    X11_thick_p189 k44 st v1 v2 v4 v5 t0 v5
def X11_thick_p175 (k44 : MS → Int32 → Int32 → Int32 → Int32 → Int32 → Option (Int32 × MS)) (st : MS) (v1 : Int32) (v2 : Int32) (v3 : Int32) (v4 : Int32) (v5 : Int32) : Option (Int32 × MS) :=
    X11_thick_p176 k44 st v1 v2 v3 v4 v5 (0 : Int32)
def X11_thick_p143 (k44 : MS → Int32 → Int32 → Int32 → Int32 → Int32 → Option (Int32 × MS)) (st : MS) (v1 : Int32) (v3 : Int32) (v4 : Int32) (v5 : Int32) (t0 : Int32) : Option (Int32 × MS) :=
    bnd (X11_burnOn st) fun _ st_14 =>
    inr (6 : Int32) 7 <|
    if (gF st_14 34) = (gA st_14 4 (6 : Int32).toNatClampNeg) then
      (if (gF st_14 33) ≤ v4 then
        (X11_thick_p175 k44 st_14 v1 t0 v3 v4 v5)
      else
      X11_thick_p176 k44 st_14 v1 t0 v3 v4 v5 (1 : Int32))
    else
    X11_thick_p175 k44 st_14 v1 t0 v3 v4 v5
def X11_thick_p142 (k44 : MS → Int32 → Int32 → Int32 → Int32 → Int32 → Option (Int32 × MS)) (st : MS) (v1 : Int32) (v2 : Int32) (v3 : Int32) (v4 : Int32) (v5 : Int32) : Option (Int32 × MS) :=
    X11_thick_p143 k44 st v1 v3 v4 v5 v2
def X11_thick_p126 (k44 : MS → Int32 → Int32 → Int32 → Int32 → Int32 → Option (Int32 × MS)) (st : MS) (v1 : Int32) (v2 : Int32) (v3 : Int32) (v4 : Int32) (v5 : Int32) : Option (Int32 × MS) :=
    if 0 ≤ v2 then
      (X11_thick_p142 k44 st v1 v2 v3 v4 v5)
    else
    bnd (X11_stands st) fun y_21 st_20 =>
    if y_21 = 0 then
      (X11_thick_p142 k44 st_20 v1 v2 v3 v4 v5)
    else
    X11_thick_p143 k44 st_20 v1 v3 v4 v5 v5
def X11_thick_p54 (k44 : MS → Int32 → Int32 → Int32 → Int32 → Int32 → Option (Int32 × MS)) : Nat → MS → Int32 → Int32 → Int32 → Int32 → Int32 → Int32 → Option (Int32 × MS)
  | 0, _, _, _, _, _, _, _ => none
  | n + 1, st, v1, v2, v3, v4, v5, v6 =>
    if (12 : Int32) ≤ v6 then
      (X11_thick_p126 k44 st v1 v2 v3 v4 v5)
    else
    inr v6 12 <|
    if (gA st 2 v6.toNatClampNeg) = (1 : Int32) then
      (X11_thick_p90 k44 (fun st v1 v2 v3 v4 v5 v6 => X11_thick_p54 k44 n st v1 v2 v3 v4 v5 v6) st v1 v2 v3 v4 v5 v6 v6 v5)
    else
    inr v6 12 <|
    X11_thick_p90 k44 (fun st v1 v2 v3 v4 v5 v6 => X11_thick_p54 k44 n st v1 v2 v3 v4 v5 v6) st v1 v2 v3 v4 v5 v6 v6 (gA st 3 v6.toNatClampNeg)
theorem X11_thick_p54_s (k44 : MS → Int32 → Int32 → Int32 → Int32 → Int32 → Option (Int32 × MS)) (n : Nat) (st : MS) (v1 : Int32) (v2 : Int32) (v3 : Int32) (v4 : Int32) (v5 : Int32) (v6 : Int32) : X11_thick_p54 k44 (n + 1) st v1 v2 v3 v4 v5 v6 =
    (if (12 : Int32) ≤ v6 then
      (X11_thick_p126 k44 st v1 v2 v3 v4 v5)
    else
    inr v6 12 <|
    if (gA st 2 v6.toNatClampNeg) = (1 : Int32) then
      (X11_thick_p90 k44 (fun st v1 v2 v3 v4 v5 v6 => X11_thick_p54 k44 n st v1 v2 v3 v4 v5 v6) st v1 v2 v3 v4 v5 v6 v6 v5)
    else
    inr v6 12 <|
    X11_thick_p90 k44 (fun st v1 v2 v3 v4 v5 v6 => X11_thick_p54 k44 n st v1 v2 v3 v4 v5 v6) st v1 v2 v3 v4 v5 v6 v6 (gA st 3 v6.toNatClampNeg)) := rfl
def X11_thick_p225 (st : MS) (t0 : Int32) : Option (Int32 × MS) :=
    some (t0, st)
def X11_thick_p216 (st : MS) (v1 : Int32) (v2 : Int32) (v3 : Int32) : Option (Int32 × MS) :=
    if v1 = 0 then
      (X11_thick_p225 st v2)
    else
    X11_thick_p225 st v3
def X11_thick_p44 : Nat → MS → Int32 → Int32 → Int32 → Int32 → Int32 → Option (Int32 × MS)
  | 0, _, _, _, _, _, _ => none
  | n + 1, st, v1, v2, v3, v4, v5 =>
    if (9 : Int32) < v5 then
      (X11_thick_p216 st v1 v2 v3)
    else
    X11_thick_p54 (fun st v1 v2 v3 v4 v5 => X11_thick_p44  n st v1 v2 v3 v4 v5) 13 st v1 v2 v3 v4 v5 (0 : Int32)
theorem X11_thick_p44_s (n : Nat) (st : MS) (v1 : Int32) (v2 : Int32) (v3 : Int32) (v4 : Int32) (v5 : Int32) : X11_thick_p44  (n + 1) st v1 v2 v3 v4 v5 =
    (if (9 : Int32) < v5 then
      (X11_thick_p216 st v1 v2 v3)
    else
    X11_thick_p54 (fun st v1 v2 v3 v4 v5 => X11_thick_p44  n st v1 v2 v3 v4 v5) 13 st v1 v2 v3 v4 v5 (0 : Int32)) := rfl
def X11_thick (st : MS) (v1 : Int32) : Option (Int32 × MS) :=
    nm (sF st 17 (0 : Int32)) fun st_30 =>
    bd1 (X11_in (v1.toInt64) (0 : Int64) (1 : Int64)) fun y_31 =>
    if y_31 = 0 then
      (some ((-1 : Int32), st_30))
    else
    if (gF st_30 7) = 0 then
      (bnd (X11_open st_30) fun _ st_35 =>
      X11_thick_p44 11 st_35 v1 (-4 : Int32) (-4 : Int32) (-4 : Int32) (1 : Int32))
    else
    some ((-3 : Int32), st_30)
abbrev rmX11_thick : Room := { frames := 7, cells := 0, slots := 0, locals := 152 }
theorem hdX11_thick : yX11_thick.cls = RX11 ∧ yX11_thick.cls ≠ "java/lang/invoke/MethodHandle" ∧ yX11_thick.cls ≠ "java/lang/invoke/VarHandle" ∧ (parseMethodDescriptor yX11_thick.desc).map (fun d => d.parameters.length) = some 1 := by decide +kernel
set_option maxRecDepth 100000 in
set_option maxHeartbeats 4000000 in
theorem okX11_thick (l : Launch) (D : va_G) (a : Nat → Nat) (T : mT3) {st : MS} {v1 : Int32} {r : Int32} {st' : MS} (heq : X11_thick st v1 = some (r, st')) : gCi l D (mT T) yX11_thick wsX11_thick rmX11_thick [.ref (a 0), .int v1] (mW a T st) r (mW a T st') := by
  refine g_body_i (by decide) rfl (Nat.le_of_ble_eq_true rfl) (fun p e s m args below meth c A Q hx hb hml hown hts hK hA hret ls hP hD hS hl => ?_)
  have hl : lv_has ls 7 [(0, .ref (a 0)), (1, .int v1)] := hl
  have hin : ∀ w ∈ wsX110, w ∈ wsX11_thick := fun w h => List.mem_cons_of_mem _ (List.mem_append_right _ h)
  have f16 : (Cond.fieldLink RX11 16 RX11 (TX11 2).2.1 (TX11 2).2.2.1).before args s = true := hts (.fieldLink RX11 16 "LaidDownTheLaneModel" "kinds" "[I") (by decide +kernel)
  have f19 : (Cond.fieldLink RX11 19 RX11 (TX11 3).2.1 (TX11 3).2.2.1).before args s = true := hts (.fieldLink RX11 19 "LaidDownTheLaneModel" "figures" "[I") (by decide +kernel)
  have f22 : (Cond.fieldLink RX11 22 RX11 (TX11 4).2.1 (TX11 4).2.2.1).before args s = true := hts (.fieldLink RX11 22 "LaidDownTheLaneModel" "settings" "[I") (by decide +kernel)
  have f75 : (Cond.fieldLink RX11 75 RX11 (TX11 17).2.1 (TX11 17).2.2.1).before args s = true := hts (.fieldLink RX11 75 "LaidDownTheLaneModel" "thrown" "I") (by decide +kernel)
  have f122 : (Cond.fieldLink RX11 122 RX11 (TX11 7).2.1 (TX11 7).2.2.1).before args s = true := hts (.fieldLink RX11 122 "LaidDownTheLaneModel" "isDown" "Z") (by decide +kernel)
  have f255 : (Cond.fieldLink RX11 255 RX11 (TX11 33).2.1 (TX11 33).2.2.1).before args s = true := hts (.fieldLink RX11 255 "LaidDownTheLaneModel" "willIn" "I") (by decide +kernel)
  have f258 : (Cond.fieldLink RX11 258 RX11 (TX11 34).2.1 (TX11 34).2.2.1).before args s = true := hts (.fieldLink RX11 258 "LaidDownTheLaneModel" "willTo" "I") (by decide +kernel)
  have b119 : ∀ (k44 : MS → Int32 → Int32 → Int32 → Int32 → Int32 → Option (Int32 × MS)) (hk44 : ∀ (st : MS) (v1 : Int32) (v2 : Int32) (v3 : Int32) (v4 : Int32) (v5 : Int32) (H : Heap) (locs : List Loc) (ls : Array Slot), va_P D vwCl (mW a T st) H → va_D A (mW a T st) → va_S A s.heap H locs → lv_has ls 7 [(0, .ref (a 0)), (1, .int v1), (2, .int v2), (3, .int v3), (4, .int v4), (5, .int v5)] → k44 st v1 v2 v3 v4 v5 = some (r, st') → W p l e rmX11_thick s m args below meth c H locs 0 0 Q (F0 m 44 ls [])) (k54 : MS → Int32 → Int32 → Int32 → Int32 → Int32 → Int32 → Option (Int32 × MS)) (hk54 : ∀ (st : MS) (v1 : Int32) (v2 : Int32) (v3 : Int32) (v4 : Int32) (v5 : Int32) (v6 : Int32) (H : Heap) (locs : List Loc) (ls : Array Slot), va_P D vwCl (mW a T st) H → va_D A (mW a T st) → va_S A s.heap H locs → lv_has ls 7 [(0, .ref (a 0)), (1, .int v1), (2, .int v2), (3, .int v3), (4, .int v4), (5, .int v5), (6, .int v6)] → k54 st v1 v2 v3 v4 v5 v6 = some (r, st') → W p l e rmX11_thick s m args below meth c H locs 0 0 Q (F0 m 54 ls [])), ∀ (st : MS) (v1 : Int32) (v2 : Int32) (v3 : Int32) (v4 : Int32) (v5 : Int32) (v6 : Int32) (t1 : Int32) (t2 : Int32) (H : Heap) (locs : List Loc) (ls : Array Slot), va_P D vwCl (mW a T st) H → va_D A (mW a T st) → va_S A s.heap H locs → lv_has ls 7 [(0, .ref (a 0)), (1, .int v1), (2, .int v2), (3, .int v3), (4, .int v4), (5, .int v5), (6, .int v6)] → X11_thick_p119 k44 k54 st v1 v2 v3 v4 v5 v6 t1 t2 = some (r, st') → W p l e rmX11_thick s m args below meth c H locs 0 0 Q (F0 m 119 ls [.int t2, .int t1, .ref (a 3)]) := by
    intro k44 hk44 k54 hk54 st v1 v2 v3 v4 v5 v6 t1 t2 H locs ls hP hD hS hl heq
    unfold X11_thick_p119 at heq
    obtain ⟨n_1, heq⟩ := inr_h heq
    refine mas (k := 2) (q := 3) (n := 12) hx hb hK hP hD hS rfl (maset_2 ..) n_1 dX11_thick_119 (fun H locs hP hD hS => ?_)
    obtain ⟨st_2, est_2⟩ : ∃ z, z = sA st 2 t1.toNatClampNeg t2 := ⟨_, rfl⟩
    rw [← est_2] at hP hD
    have heq := nm_h est_2 heq
    obtain ⟨x_3, ex_3⟩ : ∃ y : Int32, y = v6 + (1 : Int32) := ⟨_, rfl⟩
    have heq := nm_h ex_3 heq
    refine lv_iinc (v := x_3) (lv' := [(6, .int x_3), (0, .ref (a 0)), (1, .int v1), (2, .int v2), (3, .int v3), (4, .int v4), (5, .int v5)]) hx hb dX11_thick_120 hl (k := 6) rfl (by rw [ex_3]; rfl) (by decide) rfl (fun ls hl => ?_)
    refine lv_goto (tgt := 54) hx hb dX11_thick_123 (by decide) ?_
    exact hk54 st_2 v1 v2 v3 v4 v5 x_3 H locs ls hP hD hS (lv_sub hl [1, 2, 3, 4, 5, 6, 0] rfl) heq
  have b90 : ∀ (k44 : MS → Int32 → Int32 → Int32 → Int32 → Int32 → Option (Int32 × MS)) (hk44 : ∀ (st : MS) (v1 : Int32) (v2 : Int32) (v3 : Int32) (v4 : Int32) (v5 : Int32) (H : Heap) (locs : List Loc) (ls : Array Slot), va_P D vwCl (mW a T st) H → va_D A (mW a T st) → va_S A s.heap H locs → lv_has ls 7 [(0, .ref (a 0)), (1, .int v1), (2, .int v2), (3, .int v3), (4, .int v4), (5, .int v5)] → k44 st v1 v2 v3 v4 v5 = some (r, st') → W p l e rmX11_thick s m args below meth c H locs 0 0 Q (F0 m 44 ls [])) (k54 : MS → Int32 → Int32 → Int32 → Int32 → Int32 → Int32 → Option (Int32 × MS)) (hk54 : ∀ (st : MS) (v1 : Int32) (v2 : Int32) (v3 : Int32) (v4 : Int32) (v5 : Int32) (v6 : Int32) (H : Heap) (locs : List Loc) (ls : Array Slot), va_P D vwCl (mW a T st) H → va_D A (mW a T st) → va_S A s.heap H locs → lv_has ls 7 [(0, .ref (a 0)), (1, .int v1), (2, .int v2), (3, .int v3), (4, .int v4), (5, .int v5), (6, .int v6)] → k54 st v1 v2 v3 v4 v5 v6 = some (r, st') → W p l e rmX11_thick s m args below meth c H locs 0 0 Q (F0 m 54 ls [])), ∀ (st : MS) (v1 : Int32) (v2 : Int32) (v3 : Int32) (v4 : Int32) (v5 : Int32) (v6 : Int32) (t1 : Int32) (t2 : Int32) (H : Heap) (locs : List Loc) (ls : Array Slot), va_P D vwCl (mW a T st) H → va_D A (mW a T st) → va_S A s.heap H locs → lv_has ls 7 [(0, .ref (a 0)), (1, .int v1), (2, .int v2), (3, .int v3), (4, .int v4), (5, .int v5), (6, .int v6)] → X11_thick_p90 k44 k54 st v1 v2 v3 v4 v5 v6 t1 t2 = some (r, st') → W p l e rmX11_thick s m args below meth c H locs 0 0 Q (F0 m 90 ls [.int t2, .int t1, .ref (a 4)]) := by
    intro k44 hk44 k54 hk54 st v1 v2 v3 v4 v5 v6 t1 t2 H locs ls hP hD hS hl heq
    unfold X11_thick_p90 at heq
    obtain ⟨n_4, heq⟩ := inr_h heq
    refine mas (k := 3) (q := 4) (n := 12) hx hb hK hP hD hS rfl (maset_3 ..) n_4 dX11_thick_90 (fun H locs hP hD hS => ?_)
    obtain ⟨st_5, est_5⟩ : ∃ z, z = sA st 3 t1.toNatClampNeg t2 := ⟨_, rfl⟩
    rw [← est_5] at hP hD
    have heq := nm_h est_5 heq
    refine lv_aload_n hx hb dX11_thick_91 rfl (lv_at hl 0 rfl) ?_
    refine mg (k := 2) (v := .ref (a 3)) hx hb hts hin hown hK hP (by decide) f16 rfl dX11_thick_92 rfl ?_
    refine lv_iload hx hb dX11_thick_95 (lv_at hl 6 rfl) ?_
    refine lv_aload_n hx hb dX11_thick_97 rfl (lv_at hl 0 rfl) ?_
    refine mg (k := 2) (v := .ref (a 3)) hx hb hts hin hown hK hP (by decide) f16 rfl dX11_thick_98 rfl ?_
    refine lv_iload hx hb dX11_thick_101 (lv_at hl 6 rfl) ?_
    obtain ⟨n_6, heq⟩ := inr_h heq
    refine mal (k := 2) (q := 3) (n := 12) hx hb hK hP rfl n_6 dX11_thick_103 ?_
    refine lv_iconst (v := (1 : Int32)) hx hb dX11_thick_104 (by decide) ?_
    refine lv_icmp_ne (tgt := 112) hx hb dX11_thick_105 (by decide) (fun c_7 => ?_) (fun c_7 => ?_)
    · have heq := it_f c_7 heq
      refine lv_aload_n hx hb dX11_thick_112 rfl (lv_at hl 0 rfl) ?_
      refine mg (k := 2) (v := .ref (a 3)) hx hb hts hin hown hK hP (by decide) f16 rfl dX11_thick_113 rfl ?_
      refine lv_iload hx hb dX11_thick_116 (lv_at hl 6 rfl) ?_
      obtain ⟨n_8, heq⟩ := inr_h heq
      refine mal (k := 2) (q := 3) (n := 12) hx hb hK hP rfl n_8 dX11_thick_118 ?_
      exact b119 k44 hk44 k54 hk54 st_5 v1 v2 v3 v4 v5 v6 v6 (gA st_5 2 v6.toNatClampNeg) H locs ls hP hD hS (lv_sub hl [0, 1, 2, 3, 4, 5, 6] rfl) heq
    have heq := it_t c_7 heq
    refine lv_iconst (v := (2 : Int32)) hx hb dX11_thick_108 (by decide) ?_
    refine lv_goto (tgt := 119) hx hb dX11_thick_109 (by decide) ?_
    exact b119 k44 hk44 k54 hk54 st_5 v1 v2 v3 v4 v5 v6 v6 (2 : Int32) H locs ls hP hD hS (lv_sub hl [0, 1, 2, 3, 4, 5, 6] rfl) heq
  have b204 : ∀ (k44 : MS → Int32 → Int32 → Int32 → Int32 → Int32 → Option (Int32 × MS)) (hk44 : ∀ (st : MS) (v1 : Int32) (v2 : Int32) (v3 : Int32) (v4 : Int32) (v5 : Int32) (H : Heap) (locs : List Loc) (ls : Array Slot), va_P D vwCl (mW a T st) H → va_D A (mW a T st) → va_S A s.heap H locs → lv_has ls 7 [(0, .ref (a 0)), (1, .int v1), (2, .int v2), (3, .int v3), (4, .int v4), (5, .int v5)] → k44 st v1 v2 v3 v4 v5 = some (r, st') → W p l e rmX11_thick s m args below meth c H locs 0 0 Q (F0 m 44 ls [])), ∀ (st : MS) (v1 : Int32) (v2 : Int32) (v3 : Int32) (v5 : Int32) (t0 : Int32) (H : Heap) (locs : List Loc) (ls : Array Slot), va_P D vwCl (mW a T st) H → va_D A (mW a T st) → va_S A s.heap H locs → lv_has ls 7 [(0, .ref (a 0)), (1, .int v1), (2, .int v2), (3, .int v3), (5, .int v5)] → X11_thick_p204 k44 st v1 v2 v3 v5 t0 = some (r, st') → W p l e rmX11_thick s m args below meth c H locs 0 0 Q (F0 m 204 ls [.int t0]) := by
    intro k44 hk44 st v1 v2 v3 v5 t0 H locs ls hP hD hS hl heq
    unfold X11_thick_p204 at heq
    refine lv_istore (lv' := [(4, .int t0), (0, .ref (a 0)), (1, .int v1), (2, .int v2), (3, .int v3), (5, .int v5)]) hx hb dX11_thick_204 hl (by decide) rfl (fun ls hl => ?_)
    refine lv_aload_n hx hb dX11_thick_206 rfl (lv_at hl 1 rfl) ?_
    obtain ⟨⟨⟩, st_9, h_10, heq⟩ := bnd_h heq
    refine g_vv (own := RX11) (As := []) (rest := []) hx hb hml hown hts (okX11_close l D a T h_10) (cwV 0 hts gX11_thick_X11_close rfl rfl rfl hdX11_close ⟨Nat.le_of_ble_eq_true rfl, Nat.le_of_ble_eq_true rfl⟩) hK hA hP hD hS (ci := 11) (q0 := 0) rfl rfl rfl hl.1 rfl (Nat.le_of_ble_eq_true rfl) dX11_thick_207 ⟨Nat.le_of_ble_eq_true rfl, Nat.le_of_ble_eq_true rfl⟩ (fun H locs hP hD hS => ?_)
    obtain ⟨x_11, ex_11⟩ : ∃ y : Int32, y = v5 + (1 : Int32) := ⟨_, rfl⟩
    have heq := nm_h ex_11 heq
    refine lv_iinc (v := x_11) (lv' := [(5, .int x_11), (4, .int t0), (0, .ref (a 0)), (1, .int v1), (2, .int v2), (3, .int v3)]) hx hb dX11_thick_210 hl (k := 5) rfl (by rw [ex_11]; rfl) (by decide) rfl (fun ls hl => ?_)
    refine lv_goto (tgt := 44) hx hb dX11_thick_213 (by decide) ?_
    exact hk44 st_9 v1 v2 v3 t0 x_11 H locs ls hP hD hS (lv_sub hl [2, 3, 4, 5, 1, 0] rfl) heq
  have b189 : ∀ (k44 : MS → Int32 → Int32 → Int32 → Int32 → Int32 → Option (Int32 × MS)) (hk44 : ∀ (st : MS) (v1 : Int32) (v2 : Int32) (v3 : Int32) (v4 : Int32) (v5 : Int32) (H : Heap) (locs : List Loc) (ls : Array Slot), va_P D vwCl (mW a T st) H → va_D A (mW a T st) → va_S A s.heap H locs → lv_has ls 7 [(0, .ref (a 0)), (1, .int v1), (2, .int v2), (3, .int v3), (4, .int v4), (5, .int v5)] → k44 st v1 v2 v3 v4 v5 = some (r, st') → W p l e rmX11_thick s m args below meth c H locs 0 0 Q (F0 m 44 ls [])), ∀ (st : MS) (v1 : Int32) (v2 : Int32) (v4 : Int32) (v5 : Int32) (v6 : Int32) (t0 : Int32) (H : Heap) (locs : List Loc) (ls : Array Slot), va_P D vwCl (mW a T st) H → va_D A (mW a T st) → va_S A s.heap H locs → lv_has ls 7 [(0, .ref (a 0)), (1, .int v1), (2, .int v2), (4, .int v4), (5, .int v5), (6, .int v6)] → X11_thick_p189 k44 st v1 v2 v4 v5 v6 t0 = some (r, st') → W p l e rmX11_thick s m args below meth c H locs 0 0 Q (F0 m 189 ls [.int t0]) := by
    intro k44 hk44 st v1 v2 v4 v5 v6 t0 H locs ls hP hD hS hl heq
    unfold X11_thick_p189 at heq
    refine lv_istore_n (lv' := [(3, .int t0), (0, .ref (a 0)), (1, .int v1), (2, .int v2), (4, .int v4), (5, .int v5), (6, .int v6)]) hx hb dX11_thick_189 rfl hl (by decide) rfl (fun ls hl => ?_)
    refine lv_iload hx hb dX11_thick_190 (lv_at hl 6 rfl) ?_
    refine lv_if_eq (tgt := 202) hx hb dX11_thick_192 (by decide) (fun c_12 => ?_) (fun c_12 => ?_)
    · have heq := it_t c_12 heq
      refine lv_iload hx hb dX11_thick_202 (lv_at hl 4 rfl) ?_
      exact b204 k44 hk44 st v1 v2 t0 v5 v4 H locs ls hP hD hS (lv_sub hl [1, 2, 3, 0, 5] rfl) heq
    have heq := it_f c_12 heq
    refine lv_aload_n hx hb dX11_thick_195 rfl (lv_at hl 1 rfl) ?_
    refine mg (k := 33) (v := .int (gF st 33)) hx hb hts hin hown hK hP (by decide) f255 rfl dX11_thick_196 rfl ?_
    refine lv_goto (tgt := 204) hx hb dX11_thick_199 (by decide) ?_
    exact b204 k44 hk44 st v1 v2 t0 v5 (gF st 33) H locs ls hP hD hS (lv_sub hl [1, 2, 3, 0, 5] rfl) heq
  have b176 : ∀ (k44 : MS → Int32 → Int32 → Int32 → Int32 → Int32 → Option (Int32 × MS)) (hk44 : ∀ (st : MS) (v1 : Int32) (v2 : Int32) (v3 : Int32) (v4 : Int32) (v5 : Int32) (H : Heap) (locs : List Loc) (ls : Array Slot), va_P D vwCl (mW a T st) H → va_D A (mW a T st) → va_S A s.heap H locs → lv_has ls 7 [(0, .ref (a 0)), (1, .int v1), (2, .int v2), (3, .int v3), (4, .int v4), (5, .int v5)] → k44 st v1 v2 v3 v4 v5 = some (r, st') → W p l e rmX11_thick s m args below meth c H locs 0 0 Q (F0 m 44 ls [])), ∀ (st : MS) (v1 : Int32) (v2 : Int32) (v3 : Int32) (v4 : Int32) (v5 : Int32) (t0 : Int32) (H : Heap) (locs : List Loc) (ls : Array Slot), va_P D vwCl (mW a T st) H → va_D A (mW a T st) → va_S A s.heap H locs → lv_has ls 7 [(0, .ref (a 0)), (1, .int v1), (2, .int v2), (3, .int v3), (4, .int v4), (5, .int v5)] → X11_thick_p176 k44 st v1 v2 v3 v4 v5 t0 = some (r, st') → W p l e rmX11_thick s m args below meth c H locs 0 0 Q (F0 m 176 ls [.int t0]) := by
    intro k44 hk44 st v1 v2 v3 v4 v5 t0 H locs ls hP hD hS hl heq
    unfold X11_thick_p176 at heq
    refine lv_istore (lv' := [(6, .int t0), (0, .ref (a 0)), (1, .int v1), (2, .int v2), (3, .int v3), (4, .int v4), (5, .int v5)]) hx hb dX11_thick_176 hl (by decide) rfl (fun ls hl => ?_)
    refine lv_iload hx hb dX11_thick_178 (lv_at hl 0 rfl) ?_
    refine lv_if_eq (tgt := 188) hx hb dX11_thick_180 (by decide) (fun c_13 => ?_) (fun c_13 => ?_)
    · have heq := it_t c_13 heq
      refine lv_iload_n hx hb dX11_thick_188 rfl (lv_at hl 4 rfl) ?_
      exact b189 k44 hk44 st v1 v2 v4 v5 t0 v3 H locs ls hP hD hS (lv_sub hl [1, 2, 3, 5, 6, 0] rfl) heq
    have heq := it_f c_13 heq
    refine lv_iload hx hb dX11_thick_183 (lv_at hl 6 rfl) ?_
    refine lv_goto (tgt := 189) hx hb dX11_thick_185 (by decide) ?_
    exact b189 k44 hk44 st v1 v2 v4 v5 t0 v5 H locs ls hP hD hS (lv_sub hl [1, 2, 3, 5, 6, 0] rfl) heq
  have b175 : ∀ (k44 : MS → Int32 → Int32 → Int32 → Int32 → Int32 → Option (Int32 × MS)) (hk44 : ∀ (st : MS) (v1 : Int32) (v2 : Int32) (v3 : Int32) (v4 : Int32) (v5 : Int32) (H : Heap) (locs : List Loc) (ls : Array Slot), va_P D vwCl (mW a T st) H → va_D A (mW a T st) → va_S A s.heap H locs → lv_has ls 7 [(0, .ref (a 0)), (1, .int v1), (2, .int v2), (3, .int v3), (4, .int v4), (5, .int v5)] → k44 st v1 v2 v3 v4 v5 = some (r, st') → W p l e rmX11_thick s m args below meth c H locs 0 0 Q (F0 m 44 ls [])), ∀ (st : MS) (v1 : Int32) (v2 : Int32) (v3 : Int32) (v4 : Int32) (v5 : Int32) (H : Heap) (locs : List Loc) (ls : Array Slot), va_P D vwCl (mW a T st) H → va_D A (mW a T st) → va_S A s.heap H locs → lv_has ls 7 [(0, .ref (a 0)), (1, .int v1), (2, .int v2), (3, .int v3), (4, .int v4), (5, .int v5)] → X11_thick_p175 k44 st v1 v2 v3 v4 v5 = some (r, st') → W p l e rmX11_thick s m args below meth c H locs 0 0 Q (F0 m 175 ls []) := by
    intro k44 hk44 st v1 v2 v3 v4 v5 H locs ls hP hD hS hl heq
    unfold X11_thick_p175 at heq
    refine lv_iconst (v := (0 : Int32)) hx hb dX11_thick_175 (by decide) ?_
    exact b176 k44 hk44 st v1 v2 v3 v4 v5 (0 : Int32) H locs ls hP hD hS (lv_sub hl [0, 1, 2, 3, 4, 5] rfl) heq
  have b143 : ∀ (k44 : MS → Int32 → Int32 → Int32 → Int32 → Int32 → Option (Int32 × MS)) (hk44 : ∀ (st : MS) (v1 : Int32) (v2 : Int32) (v3 : Int32) (v4 : Int32) (v5 : Int32) (H : Heap) (locs : List Loc) (ls : Array Slot), va_P D vwCl (mW a T st) H → va_D A (mW a T st) → va_S A s.heap H locs → lv_has ls 7 [(0, .ref (a 0)), (1, .int v1), (2, .int v2), (3, .int v3), (4, .int v4), (5, .int v5)] → k44 st v1 v2 v3 v4 v5 = some (r, st') → W p l e rmX11_thick s m args below meth c H locs 0 0 Q (F0 m 44 ls [])), ∀ (st : MS) (v1 : Int32) (v3 : Int32) (v4 : Int32) (v5 : Int32) (t0 : Int32) (H : Heap) (locs : List Loc) (ls : Array Slot), va_P D vwCl (mW a T st) H → va_D A (mW a T st) → va_S A s.heap H locs → lv_has ls 7 [(0, .ref (a 0)), (1, .int v1), (3, .int v3), (4, .int v4), (5, .int v5)] → X11_thick_p143 k44 st v1 v3 v4 v5 t0 = some (r, st') → W p l e rmX11_thick s m args below meth c H locs 0 0 Q (F0 m 143 ls [.int t0]) := by
    intro k44 hk44 st v1 v3 v4 v5 t0 H locs ls hP hD hS hl heq
    unfold X11_thick_p143 at heq
    refine lv_istore_n (lv' := [(2, .int t0), (0, .ref (a 0)), (1, .int v1), (3, .int v3), (4, .int v4), (5, .int v5)]) hx hb dX11_thick_143 rfl hl (by decide) rfl (fun ls hl => ?_)
    refine lv_aload_n hx hb dX11_thick_144 rfl (lv_at hl 1 rfl) ?_
    obtain ⟨⟨⟩, st_14, h_15, heq⟩ := bnd_h heq
    refine g_vv (own := RX11) (As := []) (rest := []) hx hb hml hown hts (okX11_burnOn l D a T h_15) (cwV 0 hts gX11_thick_X11_burnOn rfl rfl rfl hdX11_burnOn ⟨Nat.le_of_ble_eq_true rfl, Nat.le_of_ble_eq_true rfl⟩) hK hA hP hD hS (ci := 11) (q0 := 0) rfl rfl rfl hl.1 rfl (Nat.le_of_ble_eq_true rfl) dX11_thick_145 ⟨Nat.le_of_ble_eq_true rfl, Nat.le_of_ble_eq_true rfl⟩ (fun H locs hP hD hS => ?_)
    refine lv_aload_n hx hb dX11_thick_148 rfl (lv_at hl 1 rfl) ?_
    refine mg (k := 34) (v := .int (gF st_14 34)) hx hb hts hin hown hK hP (by decide) f258 rfl dX11_thick_149 rfl ?_
    refine lv_aload_n hx hb dX11_thick_152 rfl (lv_at hl 1 rfl) ?_
    refine mg (k := 4) (v := .ref (a 5)) hx hb hts hin hown hK hP (by decide) f22 rfl dX11_thick_153 rfl ?_
    refine lv_bipush (v := (6 : Int32)) hx hb dX11_thick_156 (by decide) ?_
    obtain ⟨n_16, heq⟩ := inr_h heq
    refine mal (k := 4) (q := 5) (n := 7) hx hb hK hP rfl n_16 dX11_thick_158 ?_
    refine lv_icmp_ne (tgt := 175) hx hb dX11_thick_159 (by decide) (fun c_17 => ?_) (fun c_17 => ?_)
    · have heq := it_f c_17 heq
      exact b175 k44 hk44 st_14 v1 t0 v3 v4 v5 H locs ls hP hD hS (lv_sub hl [1, 2, 0, 3, 4, 5] rfl) heq
    have heq := it_t c_17 heq
    refine lv_aload_n hx hb dX11_thick_162 rfl (lv_at hl 1 rfl) ?_
    refine mg (k := 33) (v := .int (gF st_14 33)) hx hb hts hin hown hK hP (by decide) f255 rfl dX11_thick_163 rfl ?_
    refine lv_iload hx hb dX11_thick_166 (lv_at hl 4 rfl) ?_
    refine lv_icmp_le (tgt := 175) hx hb dX11_thick_168 (by decide) (fun c_18 => ?_) (fun c_18 => ?_)
    · have heq := it_t c_18 heq
      exact b175 k44 hk44 st_14 v1 t0 v3 v4 v5 H locs ls hP hD hS (lv_sub hl [1, 2, 0, 3, 4, 5] rfl) heq
    have heq := it_f c_18 heq
    refine lv_iconst (v := (1 : Int32)) hx hb dX11_thick_171 (by decide) ?_
    refine lv_goto (tgt := 176) hx hb dX11_thick_172 (by decide) ?_
    exact b176 k44 hk44 st_14 v1 t0 v3 v4 v5 (1 : Int32) H locs ls hP hD hS (lv_sub hl [1, 2, 0, 3, 4, 5] rfl) heq
  have b142 : ∀ (k44 : MS → Int32 → Int32 → Int32 → Int32 → Int32 → Option (Int32 × MS)) (hk44 : ∀ (st : MS) (v1 : Int32) (v2 : Int32) (v3 : Int32) (v4 : Int32) (v5 : Int32) (H : Heap) (locs : List Loc) (ls : Array Slot), va_P D vwCl (mW a T st) H → va_D A (mW a T st) → va_S A s.heap H locs → lv_has ls 7 [(0, .ref (a 0)), (1, .int v1), (2, .int v2), (3, .int v3), (4, .int v4), (5, .int v5)] → k44 st v1 v2 v3 v4 v5 = some (r, st') → W p l e rmX11_thick s m args below meth c H locs 0 0 Q (F0 m 44 ls [])), ∀ (st : MS) (v1 : Int32) (v2 : Int32) (v3 : Int32) (v4 : Int32) (v5 : Int32) (H : Heap) (locs : List Loc) (ls : Array Slot), va_P D vwCl (mW a T st) H → va_D A (mW a T st) → va_S A s.heap H locs → lv_has ls 7 [(0, .ref (a 0)), (1, .int v1), (2, .int v2), (3, .int v3), (4, .int v4), (5, .int v5)] → X11_thick_p142 k44 st v1 v2 v3 v4 v5 = some (r, st') → W p l e rmX11_thick s m args below meth c H locs 0 0 Q (F0 m 142 ls []) := by
    intro k44 hk44 st v1 v2 v3 v4 v5 H locs ls hP hD hS hl heq
    unfold X11_thick_p142 at heq
    refine lv_iload_n hx hb dX11_thick_142 rfl (lv_at hl 2 rfl) ?_
    exact b143 k44 hk44 st v1 v3 v4 v5 v2 H locs ls hP hD hS (lv_sub hl [0, 1, 3, 4, 5] rfl) heq
  have b126 : ∀ (k44 : MS → Int32 → Int32 → Int32 → Int32 → Int32 → Option (Int32 × MS)) (hk44 : ∀ (st : MS) (v1 : Int32) (v2 : Int32) (v3 : Int32) (v4 : Int32) (v5 : Int32) (H : Heap) (locs : List Loc) (ls : Array Slot), va_P D vwCl (mW a T st) H → va_D A (mW a T st) → va_S A s.heap H locs → lv_has ls 7 [(0, .ref (a 0)), (1, .int v1), (2, .int v2), (3, .int v3), (4, .int v4), (5, .int v5)] → k44 st v1 v2 v3 v4 v5 = some (r, st') → W p l e rmX11_thick s m args below meth c H locs 0 0 Q (F0 m 44 ls [])), ∀ (st : MS) (v1 : Int32) (v2 : Int32) (v3 : Int32) (v4 : Int32) (v5 : Int32) (H : Heap) (locs : List Loc) (ls : Array Slot), va_P D vwCl (mW a T st) H → va_D A (mW a T st) → va_S A s.heap H locs → lv_has ls 7 [(0, .ref (a 0)), (1, .int v1), (2, .int v2), (3, .int v3), (4, .int v4), (5, .int v5)] → X11_thick_p126 k44 st v1 v2 v3 v4 v5 = some (r, st') → W p l e rmX11_thick s m args below meth c H locs 0 0 Q (F0 m 126 ls []) := by
    intro k44 hk44 st v1 v2 v3 v4 v5 H locs ls hP hD hS hl heq
    unfold X11_thick_p126 at heq
    refine lv_iload_n hx hb dX11_thick_126 rfl (lv_at hl 2 rfl) ?_
    refine lv_if_ge (tgt := 142) hx hb dX11_thick_127 (by decide) (fun c_19 => ?_) (fun c_19 => ?_)
    · have heq := it_t c_19 heq
      exact b142 k44 hk44 st v1 v2 v3 v4 v5 H locs ls hP hD hS (lv_sub hl [0, 1, 2, 3, 4, 5] rfl) heq
    have heq := it_f c_19 heq
    refine lv_aload_n hx hb dX11_thick_130 rfl (lv_at hl 0 rfl) ?_
    obtain ⟨y_21, st_20, h_22, heq⟩ := bnd_h heq
    refine g_vi (own := RX11) (As := []) (rest := []) hx hb hml hown hts (okX11_stands l D a T h_22) (cwV 0 hts gX11_thick_X11_stands rfl rfl rfl hdX11_stands ⟨Nat.le_of_ble_eq_true rfl, Nat.le_of_ble_eq_true rfl⟩) hK hA hP hD hS (ci := 11) (q0 := 0) rfl rfl rfl hl.1 rfl (Nat.le_of_ble_eq_true rfl) dX11_thick_131 ⟨Nat.le_of_ble_eq_true rfl, Nat.le_of_ble_eq_true rfl⟩ (fun H locs hP hD hS => ?_)
    refine lv_if_eq (tgt := 142) hx hb dX11_thick_134 (by decide) (fun c_23 => ?_) (fun c_23 => ?_)
    · have heq := it_t c_23 heq
      exact b142 k44 hk44 st_20 v1 v2 v3 v4 v5 H locs ls hP hD hS (lv_sub hl [0, 1, 2, 3, 4, 5] rfl) heq
    have heq := it_f c_23 heq
    refine lv_iload hx hb dX11_thick_137 (lv_at hl 5 rfl) ?_
    refine lv_goto (tgt := 143) hx hb dX11_thick_139 (by decide) ?_
    exact b143 k44 hk44 st_20 v1 v3 v4 v5 v5 H locs ls hP hD hS (lv_sub hl [0, 1, 3, 4, 5] rfl) heq
  have b54 : ∀ (k44 : MS → Int32 → Int32 → Int32 → Int32 → Int32 → Option (Int32 × MS)) (hk44 : ∀ (st : MS) (v1 : Int32) (v2 : Int32) (v3 : Int32) (v4 : Int32) (v5 : Int32) (H : Heap) (locs : List Loc) (ls : Array Slot), va_P D vwCl (mW a T st) H → va_D A (mW a T st) → va_S A s.heap H locs → lv_has ls 7 [(0, .ref (a 0)), (1, .int v1), (2, .int v2), (3, .int v3), (4, .int v4), (5, .int v5)] → k44 st v1 v2 v3 v4 v5 = some (r, st') → W p l e rmX11_thick s m args below meth c H locs 0 0 Q (F0 m 44 ls [])), ∀ (n : Nat), ∀ (st : MS) (v1 : Int32) (v2 : Int32) (v3 : Int32) (v4 : Int32) (v5 : Int32) (v6 : Int32) (H : Heap) (locs : List Loc) (ls : Array Slot), va_P D vwCl (mW a T st) H → va_D A (mW a T st) → va_S A s.heap H locs → lv_has ls 7 [(0, .ref (a 0)), (1, .int v1), (2, .int v2), (3, .int v3), (4, .int v4), (5, .int v5), (6, .int v6)] → X11_thick_p54 k44 n st v1 v2 v3 v4 v5 v6 = some (r, st') → W p l e rmX11_thick s m args below meth c H locs 0 0 Q (F0 m 54 ls []) := by
    intro k44 hk44 n
    induction n with
    | zero => intro st v1 v2 v3 v4 v5 v6 H locs ls hP hD hS hl heq; cases heq
    | succ n ih =>
      intro st v1 v2 v3 v4 v5 v6 H locs ls hP hD hS hl heq
      rw [X11_thick_p54_s] at heq
      refine lv_iload hx hb dX11_thick_54 (lv_at hl 6 rfl) ?_
      refine lv_bipush (v := (12 : Int32)) hx hb dX11_thick_56 (by decide) ?_
      refine lv_icmp_ge (tgt := 126) hx hb dX11_thick_58 (by decide) (fun c_24 => ?_) (fun c_24 => ?_)
      · have heq := it_t c_24 heq
        exact b126 k44 hk44 st v1 v2 v3 v4 v5 H locs ls hP hD hS (lv_sub hl [0, 1, 2, 3, 4, 5] rfl) heq
      have heq := it_f c_24 heq
      refine lv_aload_n hx hb dX11_thick_61 rfl (lv_at hl 0 rfl) ?_
      refine mg (k := 3) (v := .ref (a 4)) hx hb hts hin hown hK hP (by decide) f19 rfl dX11_thick_62 rfl ?_
      refine lv_iload hx hb dX11_thick_65 (lv_at hl 6 rfl) ?_
      refine lv_aload_n hx hb dX11_thick_67 rfl (lv_at hl 0 rfl) ?_
      refine mg (k := 2) (v := .ref (a 3)) hx hb hts hin hown hK hP (by decide) f16 rfl dX11_thick_68 rfl ?_
      refine lv_iload hx hb dX11_thick_71 (lv_at hl 6 rfl) ?_
      obtain ⟨n_25, heq⟩ := inr_h heq
      refine mal (k := 2) (q := 3) (n := 12) hx hb hK hP rfl n_25 dX11_thick_73 ?_
      refine lv_iconst (v := (1 : Int32)) hx hb dX11_thick_74 (by decide) ?_
      refine lv_icmp_ne (tgt := 83) hx hb dX11_thick_75 (by decide) (fun c_26 => ?_) (fun c_26 => ?_)
      · have heq := it_f c_26 heq
        refine lv_aload_n hx hb dX11_thick_83 rfl (lv_at hl 0 rfl) ?_
        refine mg (k := 3) (v := .ref (a 4)) hx hb hts hin hown hK hP (by decide) f19 rfl dX11_thick_84 rfl ?_
        refine lv_iload hx hb dX11_thick_87 (lv_at hl 6 rfl) ?_
        obtain ⟨n_27, heq⟩ := inr_h heq
        refine mal (k := 3) (q := 4) (n := 12) hx hb hK hP rfl n_27 dX11_thick_89 ?_
        exact b90 k44 hk44 (fun st v1 v2 v3 v4 v5 v6 => X11_thick_p54 k44 n st v1 v2 v3 v4 v5 v6) ih st v1 v2 v3 v4 v5 v6 v6 (gA st 3 v6.toNatClampNeg) H locs ls hP hD hS (lv_sub hl [0, 1, 2, 3, 4, 5, 6] rfl) heq
      have heq := it_t c_26 heq
      refine lv_iload hx hb dX11_thick_78 (lv_at hl 5 rfl) ?_
      refine lv_goto (tgt := 90) hx hb dX11_thick_80 (by decide) ?_
      exact b90 k44 hk44 (fun st v1 v2 v3 v4 v5 v6 => X11_thick_p54 k44 n st v1 v2 v3 v4 v5 v6) ih st v1 v2 v3 v4 v5 v6 v6 v5 H locs ls hP hD hS (lv_sub hl [0, 1, 2, 3, 4, 5, 6] rfl) heq
  have b225 : ∀ (st : MS) (t0 : Int32) (H : Heap) (locs : List Loc) (ls : Array Slot), va_P D vwCl (mW a T st) H → va_D A (mW a T st) → va_S A s.heap H locs → lv_has ls 7 [] → X11_thick_p225  st t0 = some (r, st') → W p l e rmX11_thick s m args below meth c H locs 0 0 Q (F0 m 225 ls [.int t0]) := by
    intro st t0 H locs ls hP hD hS hl heq
    unfold X11_thick_p225 at heq
    obtain ⟨heq, heq2⟩ := ret_h heq
    subst heq
    subst heq2
    exact hret 225 H locs ls hP hD hS rfl dX11_thick_225
  have b216 : ∀ (st : MS) (v1 : Int32) (v2 : Int32) (v3 : Int32) (H : Heap) (locs : List Loc) (ls : Array Slot), va_P D vwCl (mW a T st) H → va_D A (mW a T st) → va_S A s.heap H locs → lv_has ls 7 [(1, .int v1), (2, .int v2), (3, .int v3)] → X11_thick_p216  st v1 v2 v3 = some (r, st') → W p l e rmX11_thick s m args below meth c H locs 0 0 Q (F0 m 216 ls []) := by
    intro st v1 v2 v3 H locs ls hP hD hS hl heq
    unfold X11_thick_p216 at heq
    refine lv_iload_n hx hb dX11_thick_216 rfl (lv_at hl 0 rfl) ?_
    refine lv_if_ne (tgt := 224) hx hb dX11_thick_217 (by decide) (fun c_28 => ?_) (fun c_28 => ?_)
    · have heq := it_f c_28 heq
      refine lv_iload_n hx hb dX11_thick_224 rfl (lv_at hl 2 rfl) ?_
      exact b225 st v3 H locs ls hP hD hS (lv_sub hl [] rfl) heq
    have heq := it_t c_28 heq
    refine lv_iload_n hx hb dX11_thick_220 rfl (lv_at hl 1 rfl) ?_
    refine lv_goto (tgt := 225) hx hb dX11_thick_221 (by decide) ?_
    exact b225 st v2 H locs ls hP hD hS (lv_sub hl [] rfl) heq
  have b44 : ∀ (n : Nat), ∀ (st : MS) (v1 : Int32) (v2 : Int32) (v3 : Int32) (v4 : Int32) (v5 : Int32) (H : Heap) (locs : List Loc) (ls : Array Slot), va_P D vwCl (mW a T st) H → va_D A (mW a T st) → va_S A s.heap H locs → lv_has ls 7 [(0, .ref (a 0)), (1, .int v1), (2, .int v2), (3, .int v3), (4, .int v4), (5, .int v5)] → X11_thick_p44  n st v1 v2 v3 v4 v5 = some (r, st') → W p l e rmX11_thick s m args below meth c H locs 0 0 Q (F0 m 44 ls []) := by
    intro n
    induction n with
    | zero => intro st v1 v2 v3 v4 v5 H locs ls hP hD hS hl heq; cases heq
    | succ n ih =>
      intro st v1 v2 v3 v4 v5 H locs ls hP hD hS hl heq
      rw [X11_thick_p44_s] at heq
      refine lv_iload hx hb dX11_thick_44 (lv_at hl 5 rfl) ?_
      refine lv_bipush (v := (9 : Int32)) hx hb dX11_thick_46 (by decide) ?_
      refine lv_icmp_gt (tgt := 216) hx hb dX11_thick_48 (by decide) (fun c_29 => ?_) (fun c_29 => ?_)
      · have heq := it_t c_29 heq
        exact b216 st v1 v2 v3 H locs ls hP hD hS (lv_sub hl [1, 2, 3] rfl) heq
      have heq := it_f c_29 heq
      refine lv_iconst (v := (0 : Int32)) hx hb dX11_thick_51 (by decide) ?_
      refine lv_istore (lv' := [(6, .int (0 : Int32)), (0, .ref (a 0)), (1, .int v1), (2, .int v2), (3, .int v3), (4, .int v4), (5, .int v5)]) hx hb dX11_thick_52 hl (by decide) rfl (fun ls hl => ?_)
      exact b54 (fun st v1 v2 v3 v4 v5 => X11_thick_p44  n st v1 v2 v3 v4 v5) ih 13 st v1 v2 v3 v4 v5 (0 : Int32) H locs ls hP hD hS (lv_sub hl [1, 2, 3, 4, 5, 6, 0] rfl) heq
  obtain ⟨H, hH⟩ : ∃ H, H = s.heap := ⟨_, rfl⟩
  obtain ⟨locs, hlocs⟩ : ∃ z : List Loc, z = [] := ⟨_, rfl⟩
  have hS : va_S A s.heap H locs := by rw [hH, hlocs]; exact hS
  have hP : va_P D vwCl (mW a T st) H := by rw [hH]; exact hP
  suffices h9 : W p l e rmX11_thick s m args below meth c H locs 0 0 Q (F0 m 0 ls []) by rw [hH, hlocs] at h9; exact h9
  clear hH hlocs
  unfold X11_thick at heq
  refine lv_aload_n hx hb dX11_thick_0 rfl (lv_at hl 0 rfl) ?_
  refine lv_iconst (v := (0 : Int32)) hx hb dX11_thick_1 (by decide) ?_
  refine mp (k := 17) hx hb hts hin hown hK hP hD hS (by decide) f75 dX11_thick_2 rfl rfl rfl rfl (mset_17 ..) (fun H locs hP hD hS => ?_)
  obtain ⟨st_30, est_30⟩ : ∃ z, z = sF st 17 (0 : Int32) := ⟨_, rfl⟩
  rw [← est_30] at hP hD
  have heq := nm_h est_30 heq
  refine lv_iload_n hx hb dX11_thick_5 rfl (lv_at hl 1 rfl) ?_
  refine lv_i2l hx hb dX11_thick_6 rfl ?_
  refine lv_lconst (v := (0 : Int64)) hx hb dX11_thick_7 (by decide) ?_
  refine lv_lconst (v := (1 : Int64)) hx hb dX11_thick_8 (by decide) ?_
  obtain ⟨y_31, h_32, heq⟩ := bd1_h heq
  refine g_si (own := RX11) (D := D) (As := [.long (v1.toInt64), .long (0 : Int64), .long (1 : Int64)]) (rest := []) hx hb hml hown hts (okX11_in l D h_32) (cwS 3 hts gX11_thick_X11_in rfl rfl rfl hdX11_in ⟨Nat.le_of_ble_eq_true rfl, Nat.le_of_ble_eq_true rfl⟩) hK hA hP hS rfl hl.1 rfl (Nat.le_of_ble_eq_true rfl) dX11_thick_9 ⟨Nat.le_of_ble_eq_true rfl, Nat.le_of_ble_eq_true rfl⟩ (fun H locs hP hS => ?_)
  refine lv_if_ne (tgt := 17) hx hb dX11_thick_12 (by decide) (fun c_33 => ?_) (fun c_33 => ?_)
  · have heq := it_f c_33 heq
    refine lv_aload_n hx hb dX11_thick_17 rfl (lv_at hl 0 rfl) ?_
    refine mg (k := 7) (v := .int (gF st_30 7)) hx hb hts hin hown hK hP (by decide) f122 rfl dX11_thick_18 rfl ?_
    refine lv_if_eq (tgt := 27) hx hb dX11_thick_21 (by decide) (fun c_34 => ?_) (fun c_34 => ?_)
    · have heq := it_t c_34 heq
      refine lv_bipush (v := (-4 : Int32)) hx hb dX11_thick_27 (by decide) ?_
      refine lv_istore_n (lv' := [(2, .int (-4 : Int32)), (0, .ref (a 0)), (1, .int v1)]) hx hb dX11_thick_29 rfl hl (by decide) rfl (fun ls hl => ?_)
      refine lv_bipush (v := (-4 : Int32)) hx hb dX11_thick_30 (by decide) ?_
      refine lv_istore_n (lv' := [(3, .int (-4 : Int32)), (2, .int (-4 : Int32)), (0, .ref (a 0)), (1, .int v1)]) hx hb dX11_thick_32 rfl hl (by decide) rfl (fun ls hl => ?_)
      refine lv_bipush (v := (-4 : Int32)) hx hb dX11_thick_33 (by decide) ?_
      refine lv_istore (lv' := [(4, .int (-4 : Int32)), (3, .int (-4 : Int32)), (2, .int (-4 : Int32)), (0, .ref (a 0)), (1, .int v1)]) hx hb dX11_thick_35 hl (by decide) rfl (fun ls hl => ?_)
      refine lv_aload_n hx hb dX11_thick_37 rfl (lv_at hl 3 rfl) ?_
      obtain ⟨⟨⟩, st_35, h_36, heq⟩ := bnd_h heq
      refine g_vv (own := RX11) (As := []) (rest := []) hx hb hml hown hts (okX11_open l D a T h_36) (cwV 0 hts gX11_thick_X11_open rfl rfl rfl hdX11_open ⟨Nat.le_of_ble_eq_true rfl, Nat.le_of_ble_eq_true rfl⟩) hK hA hP hD hS (ci := 11) (q0 := 0) rfl rfl rfl hl.1 rfl (Nat.le_of_ble_eq_true rfl) dX11_thick_38 ⟨Nat.le_of_ble_eq_true rfl, Nat.le_of_ble_eq_true rfl⟩ (fun H locs hP hD hS => ?_)
      refine lv_iconst (v := (1 : Int32)) hx hb dX11_thick_41 (by decide) ?_
      refine lv_istore (lv' := [(5, .int (1 : Int32)), (4, .int (-4 : Int32)), (3, .int (-4 : Int32)), (2, .int (-4 : Int32)), (0, .ref (a 0)), (1, .int v1)]) hx hb dX11_thick_42 hl (by decide) rfl (fun ls hl => ?_)
      exact b44 11 st_35 v1 (-4 : Int32) (-4 : Int32) (-4 : Int32) (1 : Int32) H locs ls hP hD hS (lv_sub hl [4, 5, 3, 2, 1, 0] rfl) heq
    have heq := it_f c_34 heq
    refine lv_bipush (v := (-3 : Int32)) hx hb dX11_thick_24 (by decide) ?_
    obtain ⟨heq, heq2⟩ := ret_h heq
    subst heq
    subst heq2
    exact hret 26 H locs ls hP hD hS rfl dX11_thick_26
  have heq := it_t c_33 heq
  refine lv_iconst (v := (-1 : Int32)) hx hb dX11_thick_15 (by decide) ?_
  obtain ⟨heq, heq2⟩ := ret_h heq
  subst heq
  subst heq2
  exact hret 16 H locs ls hP hD hS rfl dX11_thick_16
set_option maxRecDepth 20000 in
theorem ggX11_goesToLane_X11_burnOn : GoodIn wsX11_goesToLane wsX11_burnOn := goodIn_r _ [7, 8, 9, 1, 10, 11, 12, 13, 6, 14, 15, 16, 17, 18, 19, 20, 21, 22, 23, 24, 25, 26, 2, 27, 28, 29, 30, 31, 32, 33, 34, 35, 36, 37, 38, 39, 40, 41, 42, 43, 44, 45, 46, 47, 48, 49, 50, 51, 72, 73, 74, 75, 76, 77, 78, 79, 80, 81, 82, 83, 84, 85, 86, 87, 88, 89, 90, 91, 92, 93, 94, 95, 96, 97, 98, 99, 100, 101, 102, 103, 104, 105, 106, 107, 108] (by decide +kernel) (by decide +kernel)
set_option maxRecDepth 20000 in
theorem gX11_goesToLane_X11_burnOn : GoodIn wsX11_goesToLane (wsV RX11 261 RX11 yX11_burnOn wsX11_burnOn) := goodIn_app (goodIn_of _ (by decide +kernel)) ggX11_goesToLane_X11_burnOn
set_option maxRecDepth 20000 in
theorem ggX11_goesToLane_X11_close : GoodIn wsX11_goesToLane wsX11_close := goodIn_r _ [55, 56, 57, 58, 59, 6, 60, 61, 62, 63, 8, 10, 64, 65, 2, 47, 46, 66, 67, 68, 69, 70, 71, 72, 73, 74, 75, 76, 77, 78, 79, 80, 81, 82, 83, 84, 85, 86, 87, 88, 89, 90, 91, 92, 93, 94, 95, 96, 97, 98, 99, 100, 101, 102, 103, 104, 105, 106, 107, 108] (by decide +kernel) (by decide +kernel)
set_option maxRecDepth 20000 in
theorem gX11_goesToLane_X11_close : GoodIn wsX11_goesToLane (wsV RX11 241 RX11 yX11_close wsX11_close) := goodIn_app (goodIn_of _ (by decide +kernel)) ggX11_goesToLane_X11_close
theorem dX11_goesToLane_0 : decode cX11_goesToLane 0 = .ok (.aload_n 0, 1) := by decide +kernel
theorem dX11_goesToLane_1 : decode cX11_goesToLane 1 = .ok (.invokevirtual 261, 3) := by decide +kernel
theorem dX11_goesToLane_4 : decode cX11_goesToLane 4 = .ok (.aload_n 0, 1) := by decide +kernel
theorem dX11_goesToLane_5 : decode cX11_goesToLane 5 = .ok (.getfield 258, 3) := by decide +kernel
theorem dX11_goesToLane_8 : decode cX11_goesToLane 8 = .ok (.aload_n 0, 1) := by decide +kernel
theorem dX11_goesToLane_9 : decode cX11_goesToLane 9 = .ok (.getfield 22, 3) := by decide +kernel
theorem dX11_goesToLane_12 : decode cX11_goesToLane 12 = .ok (.bipush 6, 2) := by decide +kernel
theorem dX11_goesToLane_14 : decode cX11_goesToLane 14 = .ok (.iaload, 1) := by decide +kernel
theorem dX11_goesToLane_15 : decode cX11_goesToLane 15 = .ok (.if_icmp .ne 7, 3) := by decide +kernel
theorem dX11_goesToLane_18 : decode cX11_goesToLane 18 = .ok (.iconst 1, 1) := by decide +kernel
theorem dX11_goesToLane_19 : decode cX11_goesToLane 19 = .ok (.goto 4, 3) := by decide +kernel
theorem dX11_goesToLane_22 : decode cX11_goesToLane 22 = .ok (.iconst 0, 1) := by decide +kernel
theorem dX11_goesToLane_23 : decode cX11_goesToLane 23 = .ok (.istore_n 1, 1) := by decide +kernel
theorem dX11_goesToLane_24 : decode cX11_goesToLane 24 = .ok (.aload_n 0, 1) := by decide +kernel
theorem dX11_goesToLane_25 : decode cX11_goesToLane 25 = .ok (.invokevirtual 241, 3) := by decide +kernel
theorem dX11_goesToLane_28 : decode cX11_goesToLane 28 = .ok (.iload_n 1, 1) := by decide +kernel
theorem dX11_goesToLane_29 : decode cX11_goesToLane 29 = .ok (.ireturn, 1) := by decide +kernel
/-! goesToLane -/
def X11_goesToLane_p23 (st : MS) (t0 : Int32) : Option (Int32 × MS) :=
    bnd (X11_close st) fun _ st_1 =>
    gz t0 <|
    some (t0, st_1)
def X11_goesToLane (st : MS) : Option (Int32 × MS) :=
    bnd (X11_burnOn st) fun _ st_4 =>
    inr (6 : Int32) 7 <|
    if (gF st_4 34) = (gA st_4 4 (6 : Int32).toNatClampNeg) then
      (X11_goesToLane_p23 st_4 (1 : Int32))
    else
    X11_goesToLane_p23 st_4 (0 : Int32)
abbrev rmX11_goesToLane : Room := { frames := 7, cells := 0, slots := 0, locals := 152 }
theorem hdX11_goesToLane : yX11_goesToLane.cls = RX11 ∧ yX11_goesToLane.cls ≠ "java/lang/invoke/MethodHandle" ∧ yX11_goesToLane.cls ≠ "java/lang/invoke/VarHandle" ∧ (parseMethodDescriptor yX11_goesToLane.desc).map (fun d => d.parameters.length) = some 0 := by decide +kernel
set_option maxRecDepth 100000 in
set_option maxHeartbeats 4000000 in
theorem okX11_goesToLane (l : Launch) (D : va_G) (a : Nat → Nat) (T : mT3) {st : MS} {r : Int32} {st' : MS} (heq : X11_goesToLane st = some (r, st')) : gCi l D (mT T) yX11_goesToLane wsX11_goesToLane rmX11_goesToLane [.ref (a 0)] (mW a T st) r (mW a T st') := by
  refine g_body_i (by decide) rfl (Nat.le_of_ble_eq_true rfl) (fun p e s m args below meth c A Q hx hb hml hown hts hK hA hret ls hP hD hS hl => ?_)
  have hl : lv_has ls 2 [(0, .ref (a 0))] := hl
  have hin : ∀ w ∈ wsX110, w ∈ wsX11_goesToLane := fun w h => List.mem_cons_of_mem _ (List.mem_append_right _ h)
  have f22 : (Cond.fieldLink RX11 22 RX11 (TX11 4).2.1 (TX11 4).2.2.1).before args s = true := hts (.fieldLink RX11 22 "LaidDownTheLaneModel" "settings" "[I") (by decide +kernel)
  have f258 : (Cond.fieldLink RX11 258 RX11 (TX11 34).2.1 (TX11 34).2.2.1).before args s = true := hts (.fieldLink RX11 258 "LaidDownTheLaneModel" "willTo" "I") (by decide +kernel)
  have b23 : ∀ (st : MS) (t0 : Int32) (H : Heap) (locs : List Loc) (ls : Array Slot), va_P D vwCl (mW a T st) H → va_D A (mW a T st) → va_S A s.heap H locs → lv_has ls 2 [(0, .ref (a 0))] → X11_goesToLane_p23  st t0 = some (r, st') → W p l e rmX11_goesToLane s m args below meth c H locs 0 0 Q (F0 m 23 ls [.int t0]) := by
    intro st t0 H locs ls hP hD hS hl heq
    unfold X11_goesToLane_p23 at heq
    refine lv_istore_n (lv' := [(1, .int t0), (0, .ref (a 0))]) hx hb dX11_goesToLane_23 rfl hl (by decide) rfl (fun ls hl => ?_)
    refine lv_aload_n hx hb dX11_goesToLane_24 rfl (lv_at hl 1 rfl) ?_
    obtain ⟨⟨⟩, st_1, h_2, heq⟩ := bnd_h heq
    refine g_vv (own := RX11) (As := []) (rest := []) hx hb hml hown hts (okX11_close l D a T h_2) (cwV 0 hts gX11_goesToLane_X11_close rfl rfl rfl hdX11_close ⟨Nat.le_of_ble_eq_true rfl, Nat.le_of_ble_eq_true rfl⟩) hK hA hP hD hS (ci := 11) (q0 := 0) rfl rfl rfl hl.1 rfl (Nat.le_of_ble_eq_true rfl) dX11_goesToLane_25 ⟨Nat.le_of_ble_eq_true rfl, Nat.le_of_ble_eq_true rfl⟩ (fun H locs hP hD hS => ?_)
    refine lv_iload_n hx hb dX11_goesToLane_28 rfl (lv_at hl 0 rfl) ?_
    obtain ⟨n_3, _, heq⟩ := gz_h heq
    obtain ⟨heq, heq2⟩ := ret_h heq
    subst heq
    subst heq2
    exact hret 29 H locs ls hP hD hS n_3 dX11_goesToLane_29
  obtain ⟨H, hH⟩ : ∃ H, H = s.heap := ⟨_, rfl⟩
  obtain ⟨locs, hlocs⟩ : ∃ z : List Loc, z = [] := ⟨_, rfl⟩
  have hS : va_S A s.heap H locs := by rw [hH, hlocs]; exact hS
  have hP : va_P D vwCl (mW a T st) H := by rw [hH]; exact hP
  suffices h9 : W p l e rmX11_goesToLane s m args below meth c H locs 0 0 Q (F0 m 0 ls []) by rw [hH, hlocs] at h9; exact h9
  clear hH hlocs
  unfold X11_goesToLane at heq
  refine lv_aload_n hx hb dX11_goesToLane_0 rfl (lv_at hl 0 rfl) ?_
  obtain ⟨⟨⟩, st_4, h_5, heq⟩ := bnd_h heq
  refine g_vv (own := RX11) (As := []) (rest := []) hx hb hml hown hts (okX11_burnOn l D a T h_5) (cwV 0 hts gX11_goesToLane_X11_burnOn rfl rfl rfl hdX11_burnOn ⟨Nat.le_of_ble_eq_true rfl, Nat.le_of_ble_eq_true rfl⟩) hK hA hP hD hS (ci := 11) (q0 := 0) rfl rfl rfl hl.1 rfl (Nat.le_of_ble_eq_true rfl) dX11_goesToLane_1 ⟨Nat.le_of_ble_eq_true rfl, Nat.le_of_ble_eq_true rfl⟩ (fun H locs hP hD hS => ?_)
  refine lv_aload_n hx hb dX11_goesToLane_4 rfl (lv_at hl 0 rfl) ?_
  refine mg (k := 34) (v := .int (gF st_4 34)) hx hb hts hin hown hK hP (by decide) f258 rfl dX11_goesToLane_5 rfl ?_
  refine lv_aload_n hx hb dX11_goesToLane_8 rfl (lv_at hl 0 rfl) ?_
  refine mg (k := 4) (v := .ref (a 5)) hx hb hts hin hown hK hP (by decide) f22 rfl dX11_goesToLane_9 rfl ?_
  refine lv_bipush (v := (6 : Int32)) hx hb dX11_goesToLane_12 (by decide) ?_
  obtain ⟨n_6, heq⟩ := inr_h heq
  refine mal (k := 4) (q := 5) (n := 7) hx hb hK hP rfl n_6 dX11_goesToLane_14 ?_
  refine lv_icmp_ne (tgt := 22) hx hb dX11_goesToLane_15 (by decide) (fun c_7 => ?_) (fun c_7 => ?_)
  · have heq := it_f c_7 heq
    refine lv_iconst (v := (0 : Int32)) hx hb dX11_goesToLane_22 (by decide) ?_
    exact b23 st_4 (0 : Int32) H locs ls hP hD hS (lv_sub hl [0] rfl) heq
  have heq := it_t c_7 heq
  refine lv_iconst (v := (1 : Int32)) hx hb dX11_goesToLane_18 (by decide) ?_
  refine lv_goto (tgt := 23) hx hb dX11_goesToLane_19 (by decide) ?_
  exact b23 st_4 (1 : Int32) H locs ls hP hD hS (lv_sub hl [0] rfl) heq
