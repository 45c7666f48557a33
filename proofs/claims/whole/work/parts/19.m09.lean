set_option maxRecDepth 20000 in
theorem ggX11_count_X11_bearing : GoodIn wsX11_count wsX11_bearing := goodIn_r _ [11, 12, 13, 14, 10, 15, 4, 3, 16, 17, 18, 19, 20, 21, 22, 23, 24, 25, 26, 27, 28, 29, 30, 31, 32, 33, 34, 35, 36, 37, 38, 39, 40, 41, 42, 43, 44, 45, 46, 47, 48, 49, 50, 51, 52, 53, 54, 55, 56, 57, 58, 59, 60, 61, 62, 63] (by decide +kernel) (by decide +kernel)
set_option maxRecDepth 20000 in
theorem gX11_count_X11_bearing : GoodIn wsX11_count (wsV RX11 320 RX11 yX11_bearing wsX11_bearing) := goodIn_app (goodIn_of _ (by decide +kernel)) ggX11_count_X11_bearing
set_option maxRecDepth 20000 in
theorem ggX11_count_X11_bearsOf : GoodIn wsX11_count wsX11_bearsOf := goodIn_r _ [15, 4, 3, 16, 17, 18, 19, 10, 20, 21, 22, 23, 24, 25, 26, 27, 28, 29, 30, 31, 32, 33, 34, 35, 36, 37, 38, 39, 40, 41, 42, 43, 44, 45, 46, 47, 48, 49, 50, 51, 52, 53, 54, 55, 56, 57, 58, 59, 60, 61, 62, 63] (by decide +kernel) (by decide +kernel)
set_option maxRecDepth 20000 in
theorem gX11_count_X11_bearsOf : GoodIn wsX11_count (wsV RX11 103 RX11 yX11_bearsOf wsX11_bearsOf) := goodIn_app (goodIn_of _ (by decide +kernel)) ggX11_count_X11_bearsOf
theorem dX11_count_0 : decode cX11_count 0 = .ok (.aload_n 0, 1) := by decide +kernel
theorem dX11_count_1 : decode cX11_count 1 = .ok (.iconst 0, 1) := by decide +kernel
theorem dX11_count_2 : decode cX11_count 2 = .ok (.putfield 75, 3) := by decide +kernel
theorem dX11_count_5 : decode cX11_count 5 = .ok (.iconst 0, 1) := by decide +kernel
theorem dX11_count_6 : decode cX11_count 6 = .ok (.istore_n 2, 1) := by decide +kernel
theorem dX11_count_7 : decode cX11_count 7 = .ok (.iload_n 1, 1) := by decide +kernel
theorem dX11_count_8 : decode cX11_count 8 = .ok (.tableswitch 128 0 7 #[48, 53, 58, 71, 84, 89, 113, 121], 48) := by decide +kernel
theorem dX11_count_56 : decode cX11_count 56 = .ok (.aload_n 0, 1) := by decide +kernel
theorem dX11_count_57 : decode cX11_count 57 = .ok (.getfield 170, 3) := by decide +kernel
theorem dX11_count_60 : decode cX11_count 60 = .ok (.ireturn, 1) := by decide +kernel
theorem dX11_count_61 : decode cX11_count 61 = .ok (.aload_n 0, 1) := by decide +kernel
theorem dX11_count_62 : decode cX11_count 62 = .ok (.getfield 93, 3) := by decide +kernel
theorem dX11_count_65 : decode cX11_count 65 = .ok (.ireturn, 1) := by decide +kernel
theorem dX11_count_66 : decode cX11_count 66 = .ok (.aload_n 0, 1) := by decide +kernel
theorem dX11_count_67 : decode cX11_count 67 = .ok (.getfield 89, 3) := by decide +kernel
theorem dX11_count_70 : decode cX11_count 70 = .ok (.ifCond .eq 7, 3) := by decide +kernel
theorem dX11_count_73 : decode cX11_count 73 = .ok (.iconst 1, 1) := by decide +kernel
theorem dX11_count_74 : decode cX11_count 74 = .ok (.goto 4, 3) := by decide +kernel
theorem dX11_count_77 : decode cX11_count 77 = .ok (.iconst 0, 1) := by decide +kernel
theorem dX11_count_78 : decode cX11_count 78 = .ok (.ireturn, 1) := by decide +kernel
theorem dX11_count_79 : decode cX11_count 79 = .ok (.aload_n 0, 1) := by decide +kernel
theorem dX11_count_80 : decode cX11_count 80 = .ok (.getfield 122, 3) := by decide +kernel
theorem dX11_count_83 : decode cX11_count 83 = .ok (.ifCond .eq 7, 3) := by decide +kernel
theorem dX11_count_86 : decode cX11_count 86 = .ok (.iconst 1, 1) := by decide +kernel
theorem dX11_count_87 : decode cX11_count 87 = .ok (.goto 4, 3) := by decide +kernel
theorem dX11_count_90 : decode cX11_count 90 = .ok (.iconst 0, 1) := by decide +kernel
theorem dX11_count_91 : decode cX11_count 91 = .ok (.ireturn, 1) := by decide +kernel
theorem dX11_count_92 : decode cX11_count 92 = .ok (.aload_n 0, 1) := by decide +kernel
theorem dX11_count_93 : decode cX11_count 93 = .ok (.invokevirtual 320, 3) := by decide +kernel
theorem dX11_count_96 : decode cX11_count 96 = .ok (.ireturn, 1) := by decide +kernel
theorem dX11_count_97 : decode cX11_count 97 = .ok (.iconst 0, 1) := by decide +kernel
theorem dX11_count_98 : decode cX11_count 98 = .ok (.istore_n 3, 1) := by decide +kernel
theorem dX11_count_99 : decode cX11_count 99 = .ok (.iload_n 3, 1) := by decide +kernel
theorem dX11_count_100 : decode cX11_count 100 = .ok (.bipush 12, 2) := by decide +kernel
theorem dX11_count_102 : decode cX11_count 102 = .ok (.if_icmp .ge 17, 3) := by decide +kernel
theorem dX11_count_105 : decode cX11_count 105 = .ok (.iload_n 2, 1) := by decide +kernel
theorem dX11_count_106 : decode cX11_count 106 = .ok (.aload_n 0, 1) := by decide +kernel
theorem dX11_count_107 : decode cX11_count 107 = .ok (.iload_n 3, 1) := by decide +kernel
theorem dX11_count_108 : decode cX11_count 108 = .ok (.invokevirtual 103, 3) := by decide +kernel
theorem dX11_count_111 : decode cX11_count 111 = .ok (.iadd, 1) := by decide +kernel
theorem dX11_count_112 : decode cX11_count 112 = .ok (.istore_n 2, 1) := by decide +kernel
theorem dX11_count_113 : decode cX11_count 113 = .ok (.iinc 3 1, 3) := by decide +kernel
theorem dX11_count_116 : decode cX11_count 116 = .ok (.goto (-17), 3) := by decide +kernel
theorem dX11_count_119 : decode cX11_count 119 = .ok (.iload_n 2, 1) := by decide +kernel
theorem dX11_count_120 : decode cX11_count 120 = .ok (.ireturn, 1) := by decide +kernel
theorem dX11_count_121 : decode cX11_count 121 = .ok (.aload_n 0, 1) := by decide +kernel
theorem dX11_count_122 : decode cX11_count 122 = .ok (.getfield 22, 3) := by decide +kernel
theorem dX11_count_125 : decode cX11_count 125 = .ok (.bipush 6, 2) := by decide +kernel
theorem dX11_count_127 : decode cX11_count 127 = .ok (.iaload, 1) := by decide +kernel
theorem dX11_count_128 : decode cX11_count 128 = .ok (.ireturn, 1) := by decide +kernel
theorem dX11_count_129 : decode cX11_count 129 = .ok (.aload_n 0, 1) := by decide +kernel
theorem dX11_count_130 : decode cX11_count 130 = .ok (.getfield 22, 3) := by decide +kernel
theorem dX11_count_133 : decode cX11_count 133 = .ok (.iconst 5, 1) := by decide +kernel
theorem dX11_count_134 : decode cX11_count 134 = .ok (.iaload, 1) := by decide +kernel
theorem dX11_count_135 : decode cX11_count 135 = .ok (.ireturn, 1) := by decide +kernel
theorem dX11_count_136 : decode cX11_count 136 = .ok (.iconst (-1), 1) := by decide +kernel
theorem dX11_count_137 : decode cX11_count 137 = .ok (.ireturn, 1) := by decide +kernel
/-! count -/
def X11_count_p78 (st : MS) (t0 : Int32) : Option (Int32 × MS) :=
    some (t0, st)
def X11_count_p91 (st : MS) (t0 : Int32) : Option (Int32 × MS) :=
    some (t0, st)
def X11_count_p119 (st : MS) (v2 : Int32) : Option (Int32 × MS) :=
    some (v2, st)
def X11_count_p99 : Nat → MS → Int32 → Int32 → Option (Int32 × MS)
  | 0, _, _, _ => none
  | n + 1, st, v2, v3 =>
    if (12 : Int32) ≤ v3 then
      (X11_count_p119 st v2)
    else
    bnd (X11_bearsOf st v3) fun y_3 st_2 =>
    nm ((v2 + y_3)) fun x_5 =>
    nm (v3 + (1 : Int32)) fun x_6 =>
    X11_count_p99  n st_2 x_5 x_6
theorem X11_count_p99_s (n : Nat) (st : MS) (v2 : Int32) (v3 : Int32) : X11_count_p99  (n + 1) st v2 v3 =
    (if (12 : Int32) ≤ v3 then
      (X11_count_p119 st v2)
    else
    bnd (X11_bearsOf st v3) fun y_3 st_2 =>
    nm ((v2 + y_3)) fun x_5 =>
    nm (v3 + (1 : Int32)) fun x_6 =>
    X11_count_p99  n st_2 x_5 x_6) := rfl
def X11_count (st : MS) (v1 : Int32) : Option (Int32 × MS) :=
    nm (sF st 17 (0 : Int32)) fun st_7 =>
    if v1 = (0 : Int32) then
      (some ((gF st_7 8), st_7))
    else
    if v1 = (1 : Int32) then
      (some ((gF st_7 6), st_7))
    else
    if v1 = (2 : Int32) then
      (if (gF st_7 5) = 0 then
        (X11_count_p78 st_7 (0 : Int32))
      else
      X11_count_p78 st_7 (1 : Int32))
    else
    if v1 = (3 : Int32) then
      (if (gF st_7 7) = 0 then
        (X11_count_p91 st_7 (0 : Int32))
      else
      X11_count_p91 st_7 (1 : Int32))
    else
    if v1 = (4 : Int32) then
      (bnd (X11_bearing st_7) fun y_16 st_15 =>
      some (y_16, st_15))
    else
    if v1 = (5 : Int32) then
      (X11_count_p99 13 st_7 (0 : Int32) (0 : Int32))
    else
    if v1 = (6 : Int32) then
      (inr (6 : Int32) 7 <|
      some ((gA st_7 4 (6 : Int32).toNatClampNeg), st_7))
    else
    if v1 = (7 : Int32) then
      (inr (5 : Int32) 7 <|
      some ((gA st_7 4 (5 : Int32).toNatClampNeg), st_7))
    else
    some ((-1 : Int32), st_7)
abbrev rmX11_count : Room := { frames := 3, cells := 0, slots := 0, locals := 66 }
theorem hdX11_count : yX11_count.cls = RX11 ∧ yX11_count.cls ≠ "java/lang/invoke/MethodHandle" ∧ yX11_count.cls ≠ "java/lang/invoke/VarHandle" ∧ (parseMethodDescriptor yX11_count.desc).map (fun d => d.parameters.length) = some 1 := by decide +kernel
set_option maxRecDepth 100000 in
set_option maxHeartbeats 4000000 in
theorem okX11_count (l : Launch) (D : va_G) (a : Nat → Nat) (T : mT3) {st : MS} {v1 : Int32} {r : Int32} {st' : MS} (heq : X11_count st v1 = some (r, st')) : gCi l D (mT T) yX11_count wsX11_count rmX11_count [.ref (a 0), .int v1] (mW a T st) r (mW a T st') := by
  refine g_body_i (by decide) rfl (Nat.le_of_ble_eq_true rfl) (fun p e s m args below meth c A Q hx hb hml hown hts hK hA hret ls hP hD hS hl => ?_)
  have hl : lv_has ls 4 [(0, .ref (a 0)), (1, .int v1)] := hl
  have hin : ∀ w ∈ wsX110, w ∈ wsX11_count := fun w h => List.mem_cons_of_mem _ (List.mem_append_right _ h)
  have f22 : (Cond.fieldLink RX11 22 RX11 (TX11 4).2.1 (TX11 4).2.2.1).before args s = true := hts (.fieldLink RX11 22 "LaidDownTheLaneModel" "settings" "[I") (by decide +kernel)
  have f75 : (Cond.fieldLink RX11 75 RX11 (TX11 17).2.1 (TX11 17).2.2.1).before args s = true := hts (.fieldLink RX11 75 "LaidDownTheLaneModel" "thrown" "I") (by decide +kernel)
  have f89 : (Cond.fieldLink RX11 89 RX11 (TX11 5).2.1 (TX11 5).2.2.1).before args s = true := hts (.fieldLink RX11 89 "LaidDownTheLaneModel" "isLit" "Z") (by decide +kernel)
  have f93 : (Cond.fieldLink RX11 93 RX11 (TX11 6).2.1 (TX11 6).2.2.1).before args s = true := hts (.fieldLink RX11 93 "LaidDownTheLaneModel" "minute" "I") (by decide +kernel)
  have f122 : (Cond.fieldLink RX11 122 RX11 (TX11 7).2.1 (TX11 7).2.2.1).before args s = true := hts (.fieldLink RX11 122 "LaidDownTheLaneModel" "isDown" "Z") (by decide +kernel)
  have f170 : (Cond.fieldLink RX11 170 RX11 (TX11 8).2.1 (TX11 8).2.2.1).before args s = true := hts (.fieldLink RX11 170 "LaidDownTheLaneModel" "houses" "I") (by decide +kernel)
  have b78 : ∀ (st : MS) (t0 : Int32) (H : Heap) (locs : List Loc) (ls : Array Slot), va_P D vwCl (mW a T st) H → va_D A (mW a T st) → va_S A s.heap H locs → lv_has ls 4 [] → X11_count_p78  st t0 = some (r, st') → W p l e rmX11_count s m args below meth c H locs 0 0 Q (F0 m 78 ls [.int t0]) := by
    intro st t0 H locs ls hP hD hS hl heq
    unfold X11_count_p78 at heq
    obtain ⟨heq, heq2⟩ := ret_h heq
    subst heq
    subst heq2
    exact hret 78 H locs ls hP hD hS rfl dX11_count_78
  have b91 : ∀ (st : MS) (t0 : Int32) (H : Heap) (locs : List Loc) (ls : Array Slot), va_P D vwCl (mW a T st) H → va_D A (mW a T st) → va_S A s.heap H locs → lv_has ls 4 [] → X11_count_p91  st t0 = some (r, st') → W p l e rmX11_count s m args below meth c H locs 0 0 Q (F0 m 91 ls [.int t0]) := by
    intro st t0 H locs ls hP hD hS hl heq
    unfold X11_count_p91 at heq
    obtain ⟨heq, heq2⟩ := ret_h heq
    subst heq
    subst heq2
    exact hret 91 H locs ls hP hD hS rfl dX11_count_91
  have b119 : ∀ (st : MS) (v2 : Int32) (H : Heap) (locs : List Loc) (ls : Array Slot), va_P D vwCl (mW a T st) H → va_D A (mW a T st) → va_S A s.heap H locs → lv_has ls 4 [(2, .int v2)] → X11_count_p119  st v2 = some (r, st') → W p l e rmX11_count s m args below meth c H locs 0 0 Q (F0 m 119 ls []) := by
    intro st v2 H locs ls hP hD hS hl heq
    unfold X11_count_p119 at heq
    refine lv_iload_n hx hb dX11_count_119 rfl (lv_at hl 0 rfl) ?_
    obtain ⟨heq, heq2⟩ := ret_h heq
    subst heq
    subst heq2
    exact hret 120 H locs ls hP hD hS rfl dX11_count_120
  have b99 : ∀ (n : Nat), ∀ (st : MS) (v2 : Int32) (v3 : Int32) (H : Heap) (locs : List Loc) (ls : Array Slot), va_P D vwCl (mW a T st) H → va_D A (mW a T st) → va_S A s.heap H locs → lv_has ls 4 [(0, .ref (a 0)), (2, .int v2), (3, .int v3)] → X11_count_p99  n st v2 v3 = some (r, st') → W p l e rmX11_count s m args below meth c H locs 0 0 Q (F0 m 99 ls []) := by
    intro n
    induction n with
    | zero => intro st v2 v3 H locs ls hP hD hS hl heq; cases heq
    | succ n ih =>
      intro st v2 v3 H locs ls hP hD hS hl heq
      rw [X11_count_p99_s] at heq
      refine lv_iload_n hx hb dX11_count_99 rfl (lv_at hl 2 rfl) ?_
      refine lv_bipush (v := (12 : Int32)) hx hb dX11_count_100 (by decide) ?_
      refine lv_icmp_ge (tgt := 119) hx hb dX11_count_102 (by decide) (fun c_1 => ?_) (fun c_1 => ?_)
      · have heq := it_t c_1 heq
        exact b119 st v2 H locs ls hP hD hS (lv_sub hl [1] rfl) heq
      have heq := it_f c_1 heq
      refine lv_iload_n hx hb dX11_count_105 rfl (lv_at hl 1 rfl) ?_
      refine lv_aload_n hx hb dX11_count_106 rfl (lv_at hl 0 rfl) ?_
      refine lv_iload_n hx hb dX11_count_107 rfl (lv_at hl 2 rfl) ?_
      obtain ⟨y_3, st_2, h_4, heq⟩ := bnd_h heq
      refine g_vi (own := RX11) (As := [.int v3]) (rest := [.int v2]) hx hb hml hown hts (okX11_bearsOf l D a T h_4) (cwV 1 hts gX11_count_X11_bearsOf rfl rfl rfl hdX11_bearsOf ⟨Nat.le_of_ble_eq_true rfl, Nat.le_of_ble_eq_true rfl⟩) hK hA hP hD hS (ci := 11) (q0 := 0) rfl rfl rfl hl.1 rfl (Nat.le_of_ble_eq_true rfl) dX11_count_108 ⟨Nat.le_of_ble_eq_true rfl, Nat.le_of_ble_eq_true rfl⟩ (fun H locs hP hD hS => ?_)
      refine lv_iadd hx hb dX11_count_111 ?_
      refine lv_topi (fun x_5 ex_5 => ?_)
      have heq := nm_h ex_5 heq
      refine lv_istore_n (lv' := [(2, .int x_5), (0, .ref (a 0)), (3, .int v3)]) hx hb dX11_count_112 rfl hl (by decide) rfl (fun ls hl => ?_)
      obtain ⟨x_6, ex_6⟩ : ∃ y : Int32, y = v3 + (1 : Int32) := ⟨_, rfl⟩
      have heq := nm_h ex_6 heq
      refine lv_iinc (v := x_6) (lv' := [(3, .int x_6), (2, .int x_5), (0, .ref (a 0))]) hx hb dX11_count_113 hl (k := 2) rfl (by rw [ex_6]; rfl) (by decide) rfl (fun ls hl => ?_)
      refine lv_goto (tgt := 99) hx hb dX11_count_116 (by decide) ?_
      exact ih st_2 x_5 x_6 H locs ls hP hD hS (lv_sub hl [2, 1, 0] rfl) heq
  obtain ⟨H, hH⟩ : ∃ H, H = s.heap := ⟨_, rfl⟩
  obtain ⟨locs, hlocs⟩ : ∃ z : List Loc, z = [] := ⟨_, rfl⟩
  have hS : va_S A s.heap H locs := by rw [hH, hlocs]; exact hS
  have hP : va_P D vwCl (mW a T st) H := by rw [hH]; exact hP
  suffices h9 : W p l e rmX11_count s m args below meth c H locs 0 0 Q (F0 m 0 ls []) by rw [hH, hlocs] at h9; exact h9
  clear hH hlocs
  unfold X11_count at heq
  refine lv_aload_n hx hb dX11_count_0 rfl (lv_at hl 0 rfl) ?_
  refine lv_iconst (v := (0 : Int32)) hx hb dX11_count_1 (by decide) ?_
  refine mp (k := 17) hx hb hts hin hown hK hP hD hS (by decide) f75 dX11_count_2 rfl rfl rfl rfl (mset_17 ..) (fun H locs hP hD hS => ?_)
  obtain ⟨st_7, est_7⟩ : ∃ z, z = sF st 17 (0 : Int32) := ⟨_, rfl⟩
  rw [← est_7] at hP hD
  have heq := nm_h est_7 heq
  refine lv_iconst (v := (0 : Int32)) hx hb dX11_count_5 (by decide) ?_
  refine lv_istore_n (lv' := [(2, .int (0 : Int32)), (0, .ref (a 0)), (1, .int v1)]) hx hb dX11_count_6 rfl hl (by decide) rfl (fun ls hl => ?_)
  refine lv_iload_n hx hb dX11_count_7 rfl (lv_at hl 2 rfl) ?_
  by_cases c_8 : v1 = (0 : Int32)
  · have heq := it_t c_8 heq
    refine lv_tableIn (tgt := 56) hx hb dX11_count_8 (by rw [c_8]; decide) (by rw [c_8]; decide) (by rw [c_8]; rfl) (by decide) ?_
    refine lv_aload_n hx hb dX11_count_56 rfl (lv_at hl 1 rfl) ?_
    refine mg (k := 8) (v := .int (gF st_7 8)) hx hb hts hin hown hK hP (by decide) f170 rfl dX11_count_57 rfl ?_
    obtain ⟨heq, heq2⟩ := ret_h heq
    subst heq
    subst heq2
    exact hret 60 H locs ls hP hD hS rfl dX11_count_60
  have heq := it_f c_8 heq
  by_cases c_9 : v1 = (1 : Int32)
  · have heq := it_t c_9 heq
    refine lv_tableIn (tgt := 61) hx hb dX11_count_8 (by rw [c_9]; decide) (by rw [c_9]; decide) (by rw [c_9]; rfl) (by decide) ?_
    refine lv_aload_n hx hb dX11_count_61 rfl (lv_at hl 1 rfl) ?_
    refine mg (k := 6) (v := .int (gF st_7 6)) hx hb hts hin hown hK hP (by decide) f93 rfl dX11_count_62 rfl ?_
    obtain ⟨heq, heq2⟩ := ret_h heq
    subst heq
    subst heq2
    exact hret 65 H locs ls hP hD hS rfl dX11_count_65
  have heq := it_f c_9 heq
  by_cases c_10 : v1 = (2 : Int32)
  · have heq := it_t c_10 heq
    refine lv_tableIn (tgt := 66) hx hb dX11_count_8 (by rw [c_10]; decide) (by rw [c_10]; decide) (by rw [c_10]; rfl) (by decide) ?_
    refine lv_aload_n hx hb dX11_count_66 rfl (lv_at hl 1 rfl) ?_
    refine mg (k := 5) (v := .int (gF st_7 5)) hx hb hts hin hown hK hP (by decide) f89 rfl dX11_count_67 rfl ?_
    refine lv_if_eq (tgt := 77) hx hb dX11_count_70 (by decide) (fun c_11 => ?_) (fun c_11 => ?_)
    · have heq := it_t c_11 heq
      refine lv_iconst (v := (0 : Int32)) hx hb dX11_count_77 (by decide) ?_
      exact b78 st_7 (0 : Int32) H locs ls hP hD hS (lv_sub hl [] rfl) heq
    have heq := it_f c_11 heq
    refine lv_iconst (v := (1 : Int32)) hx hb dX11_count_73 (by decide) ?_
    refine lv_goto (tgt := 78) hx hb dX11_count_74 (by decide) ?_
    exact b78 st_7 (1 : Int32) H locs ls hP hD hS (lv_sub hl [] rfl) heq
  have heq := it_f c_10 heq
  by_cases c_12 : v1 = (3 : Int32)
  · have heq := it_t c_12 heq
    refine lv_tableIn (tgt := 79) hx hb dX11_count_8 (by rw [c_12]; decide) (by rw [c_12]; decide) (by rw [c_12]; rfl) (by decide) ?_
    refine lv_aload_n hx hb dX11_count_79 rfl (lv_at hl 1 rfl) ?_
    refine mg (k := 7) (v := .int (gF st_7 7)) hx hb hts hin hown hK hP (by decide) f122 rfl dX11_count_80 rfl ?_
    refine lv_if_eq (tgt := 90) hx hb dX11_count_83 (by decide) (fun c_13 => ?_) (fun c_13 => ?_)
    · have heq := it_t c_13 heq
      refine lv_iconst (v := (0 : Int32)) hx hb dX11_count_90 (by decide) ?_
      exact b91 st_7 (0 : Int32) H locs ls hP hD hS (lv_sub hl [] rfl) heq
    have heq := it_f c_13 heq
    refine lv_iconst (v := (1 : Int32)) hx hb dX11_count_86 (by decide) ?_
    refine lv_goto (tgt := 91) hx hb dX11_count_87 (by decide) ?_
    exact b91 st_7 (1 : Int32) H locs ls hP hD hS (lv_sub hl [] rfl) heq
  have heq := it_f c_12 heq
  by_cases c_14 : v1 = (4 : Int32)
  · have heq := it_t c_14 heq
    refine lv_tableIn (tgt := 92) hx hb dX11_count_8 (by rw [c_14]; decide) (by rw [c_14]; decide) (by rw [c_14]; rfl) (by decide) ?_
    refine lv_aload_n hx hb dX11_count_92 rfl (lv_at hl 1 rfl) ?_
    obtain ⟨y_16, st_15, h_17, heq⟩ := bnd_h heq
    refine g_vi (own := RX11) (As := []) (rest := []) hx hb hml hown hts (okX11_bearing l D a T h_17) (cwV 0 hts gX11_count_X11_bearing rfl rfl rfl hdX11_bearing ⟨Nat.le_of_ble_eq_true rfl, Nat.le_of_ble_eq_true rfl⟩) hK hA hP hD hS (ci := 11) (q0 := 0) rfl rfl rfl hl.1 rfl (Nat.le_of_ble_eq_true rfl) dX11_count_93 ⟨Nat.le_of_ble_eq_true rfl, Nat.le_of_ble_eq_true rfl⟩ (fun H locs hP hD hS => ?_)
    obtain ⟨heq, heq2⟩ := ret_h heq
    subst heq
    subst heq2
    exact hret 96 H locs ls hP hD hS rfl dX11_count_96
  have heq := it_f c_14 heq
  by_cases c_18 : v1 = (5 : Int32)
  · have heq := it_t c_18 heq
    refine lv_tableIn (tgt := 97) hx hb dX11_count_8 (by rw [c_18]; decide) (by rw [c_18]; decide) (by rw [c_18]; rfl) (by decide) ?_
    refine lv_iconst (v := (0 : Int32)) hx hb dX11_count_97 (by decide) ?_
    refine lv_istore_n (lv' := [(3, .int (0 : Int32)), (2, .int (0 : Int32)), (0, .ref (a 0)), (1, .int v1)]) hx hb dX11_count_98 rfl hl (by decide) rfl (fun ls hl => ?_)
    exact b99 13 st_7 (0 : Int32) (0 : Int32) H locs ls hP hD hS (lv_sub hl [2, 1, 0] rfl) heq
  have heq := it_f c_18 heq
  by_cases c_19 : v1 = (6 : Int32)
  · have heq := it_t c_19 heq
    refine lv_tableIn (tgt := 121) hx hb dX11_count_8 (by rw [c_19]; decide) (by rw [c_19]; decide) (by rw [c_19]; rfl) (by decide) ?_
    refine lv_aload_n hx hb dX11_count_121 rfl (lv_at hl 1 rfl) ?_
    refine mg (k := 4) (v := .ref (a 5)) hx hb hts hin hown hK hP (by decide) f22 rfl dX11_count_122 rfl ?_
    refine lv_bipush (v := (6 : Int32)) hx hb dX11_count_125 (by decide) ?_
    obtain ⟨n_20, heq⟩ := inr_h heq
    refine mal (k := 4) (q := 5) (n := 7) hx hb hK hP rfl n_20 dX11_count_127 ?_
    obtain ⟨heq, heq2⟩ := ret_h heq
    subst heq
    subst heq2
    exact hret 128 H locs ls hP hD hS rfl dX11_count_128
  have heq := it_f c_19 heq
  by_cases c_21 : v1 = (7 : Int32)
  · have heq := it_t c_21 heq
    refine lv_tableIn (tgt := 129) hx hb dX11_count_8 (by rw [c_21]; decide) (by rw [c_21]; decide) (by rw [c_21]; rfl) (by decide) ?_
    refine lv_aload_n hx hb dX11_count_129 rfl (lv_at hl 1 rfl) ?_
    refine mg (k := 4) (v := .ref (a 5)) hx hb hts hin hown hK hP (by decide) f22 rfl dX11_count_130 rfl ?_
    refine lv_iconst (v := (5 : Int32)) hx hb dX11_count_133 (by decide) ?_
    obtain ⟨n_22, heq⟩ := inr_h heq
    refine mal (k := 4) (q := 5) (n := 7) hx hb hK hP rfl n_22 dX11_count_134 ?_
    obtain ⟨heq, heq2⟩ := ret_h heq
    subst heq
    subst heq2
    exact hret 135 H locs ls hP hD hS rfl dX11_count_135
  have heq := it_f c_21 heq
  refine lv_tableOut (tgt := 136) hx hb dX11_count_8 (sw_out fun k h1 h2 => ?_) (by decide) ?_
  · rcases (show k = 0 ∨ k = 1 ∨ k = 2 ∨ k = 3 ∨ k = 4 ∨ k = 5 ∨ k = 6 ∨ k = 7 by omega) with rfl | rfl | rfl | rfl | rfl | rfl | rfl | rfl
    · exact c_8
    · exact c_9
    · exact c_10
    · exact c_12
    · exact c_14
    · exact c_18
    · exact c_19
    · exact c_21
  refine lv_iconst (v := (-1 : Int32)) hx hb dX11_count_136 (by decide) ?_
  obtain ⟨heq, heq2⟩ := ret_h heq
  subst heq
  subst heq2
  exact hret 137 H locs ls hP hD hS rfl dX11_count_137
set_option maxRecDepth 20000 in
theorem ggX11_keep_X11_in : GoodIn wsX11_keep wsX11_in := goodIn_r _ [10] (by decide +kernel) (by decide +kernel)
set_option maxRecDepth 20000 in
theorem gX11_keep_X11_in : GoodIn wsX11_keep (va_wsS RX11 81 yX11_in wsX11_in) := goodIn_app (goodIn_of _ (by decide +kernel)) ggX11_keep_X11_in
theorem dX11_keep_0 : decode cX11_keep 0 = .ok (.aload_n 0, 1) := by decide +kernel
theorem dX11_keep_1 : decode cX11_keep 1 = .ok (.iconst 0, 1) := by decide +kernel
theorem dX11_keep_2 : decode cX11_keep 2 = .ok (.putfield 75, 3) := by decide +kernel
theorem dX11_keep_5 : decode cX11_keep 5 = .ok (.iload_n 1, 1) := by decide +kernel
theorem dX11_keep_6 : decode cX11_keep 6 = .ok (.i2l, 1) := by decide +kernel
theorem dX11_keep_7 : decode cX11_keep 7 = .ok (.lconst 0, 1) := by decide +kernel
theorem dX11_keep_8 : decode cX11_keep 8 = .ok (.ldc2_w 228, 3) := by decide +kernel
theorem dX11_keep_11 : decode cX11_keep 11 = .ok (.invokestatic 81, 3) := by decide +kernel
theorem dX11_keep_14 : decode cX11_keep 14 = .ok (.ifCond .eq 43, 3) := by decide +kernel
theorem dX11_keep_17 : decode cX11_keep 17 = .ok (.iload_n 2, 1) := by decide +kernel
theorem dX11_keep_18 : decode cX11_keep 18 = .ok (.i2l, 1) := by decide +kernel
theorem dX11_keep_19 : decode cX11_keep 19 = .ok (.lconst 0, 1) := by decide +kernel
theorem dX11_keep_20 : decode cX11_keep 20 = .ok (.lconst 1, 1) := by decide +kernel
theorem dX11_keep_21 : decode cX11_keep 21 = .ok (.invokestatic 81, 3) := by decide +kernel
theorem dX11_keep_24 : decode cX11_keep 24 = .ok (.ifCond .eq 33, 3) := by decide +kernel
theorem dX11_keep_27 : decode cX11_keep 27 = .ok (.iload_n 2, 1) := by decide +kernel
theorem dX11_keep_28 : decode cX11_keep 28 = .ok (.iconst 1, 1) := by decide +kernel
theorem dX11_keep_29 : decode cX11_keep 29 = .ok (.if_icmp .ne 30, 3) := by decide +kernel
theorem dX11_keep_32 : decode cX11_keep 32 = .ok (.iload_n 3, 1) := by decide +kernel
theorem dX11_keep_33 : decode cX11_keep 33 = .ok (.i2l, 1) := by decide +kernel
theorem dX11_keep_34 : decode cX11_keep 34 = .ok (.lconst 0, 1) := by decide +kernel
theorem dX11_keep_35 : decode cX11_keep 35 = .ok (.ldc2_w 228, 3) := by decide +kernel
theorem dX11_keep_38 : decode cX11_keep 38 = .ok (.invokestatic 81, 3) := by decide +kernel
theorem dX11_keep_41 : decode cX11_keep 41 = .ok (.ifCond .eq 16, 3) := by decide +kernel
theorem dX11_keep_44 : decode cX11_keep 44 = .ok (.iload 4, 2) := by decide +kernel
theorem dX11_keep_46 : decode cX11_keep 46 = .ok (.i2l, 1) := by decide +kernel
theorem dX11_keep_47 : decode cX11_keep 47 = .ok (.lconst 0, 1) := by decide +kernel
theorem dX11_keep_48 : decode cX11_keep 48 = .ok (.ldc2_w 334, 3) := by decide +kernel
theorem dX11_keep_51 : decode cX11_keep 51 = .ok (.invokestatic 81, 3) := by decide +kernel
theorem dX11_keep_54 : decode cX11_keep 54 = .ok (.ifCond .ne 5, 3) := by decide +kernel
theorem dX11_keep_57 : decode cX11_keep 57 = .ok (.iconst (-1), 1) := by decide +kernel
theorem dX11_keep_58 : decode cX11_keep 58 = .ok (.ireturn, 1) := by decide +kernel
theorem dX11_keep_59 : decode cX11_keep 59 = .ok (.aload_n 0, 1) := by decide +kernel
theorem dX11_keep_60 : decode cX11_keep 60 = .ok (.getfield 31, 3) := by decide +kernel
theorem dX11_keep_63 : decode cX11_keep 63 = .ok (.iload_n 1, 1) := by decide +kernel
theorem dX11_keep_64 : decode cX11_keep 64 = .ok (.iload_n 2, 1) := by decide +kernel
theorem dX11_keep_65 : decode cX11_keep 65 = .ok (.iastore, 1) := by decide +kernel
theorem dX11_keep_66 : decode cX11_keep 66 = .ok (.aload_n 0, 1) := by decide +kernel
theorem dX11_keep_67 : decode cX11_keep 67 = .ok (.getfield 34, 3) := by decide +kernel
theorem dX11_keep_70 : decode cX11_keep 70 = .ok (.iload_n 1, 1) := by decide +kernel
theorem dX11_keep_71 : decode cX11_keep 71 = .ok (.iload_n 2, 1) := by decide +kernel
theorem dX11_keep_72 : decode cX11_keep 72 = .ok (.iconst 1, 1) := by decide +kernel
theorem dX11_keep_73 : decode cX11_keep 73 = .ok (.if_icmp .ne 7, 3) := by decide +kernel
theorem dX11_keep_76 : decode cX11_keep 76 = .ok (.iload_n 3, 1) := by decide +kernel
theorem dX11_keep_77 : decode cX11_keep 77 = .ok (.goto 4, 3) := by decide +kernel
theorem dX11_keep_80 : decode cX11_keep 80 = .ok (.iconst 0, 1) := by decide +kernel
theorem dX11_keep_81 : decode cX11_keep 81 = .ok (.iastore, 1) := by decide +kernel
theorem dX11_keep_82 : decode cX11_keep 82 = .ok (.aload_n 0, 1) := by decide +kernel
theorem dX11_keep_83 : decode cX11_keep 83 = .ok (.getfield 37, 3) := by decide +kernel
theorem dX11_keep_86 : decode cX11_keep 86 = .ok (.iload_n 1, 1) := by decide +kernel
theorem dX11_keep_87 : decode cX11_keep 87 = .ok (.iload_n 2, 1) := by decide +kernel
theorem dX11_keep_88 : decode cX11_keep 88 = .ok (.iconst 1, 1) := by decide +kernel
theorem dX11_keep_89 : decode cX11_keep 89 = .ok (.if_icmp .ne 8, 3) := by decide +kernel
theorem dX11_keep_92 : decode cX11_keep 92 = .ok (.iload 4, 2) := by decide +kernel
theorem dX11_keep_94 : decode cX11_keep 94 = .ok (.goto 4, 3) := by decide +kernel
theorem dX11_keep_97 : decode cX11_keep 97 = .ok (.iconst 0, 1) := by decide +kernel
theorem dX11_keep_98 : decode cX11_keep 98 = .ok (.iastore, 1) := by decide +kernel
theorem dX11_keep_99 : decode cX11_keep 99 = .ok (.iconst 0, 1) := by decide +kernel
theorem dX11_keep_100 : decode cX11_keep 100 = .ok (.ireturn, 1) := by decide +kernel
/-! keep -/
def X11_keep_p98 (st : MS) (t1 : Int32) (t2 : Int32) : Option (Int32 × MS) :=
    inr t1 8 <|
    nm (sA st 13 t1.toNatClampNeg t2) fun st_2 =>
    some ((0 : Int32), st_2)
def X11_keep_p81 (st : MS) (v1 : Int32) (v2 : Int32) (v4 : Int32) (t1 : Int32) (t2 : Int32) : Option (Int32 × MS) :=
    inr t1 8 <|
    nm (sA st 12 t1.toNatClampNeg t2) fun st_4 =>
    if v2 = (1 : Int32) then
      (X11_keep_p98 st_4 v1 v4)
    else
    X11_keep_p98 st_4 v1 (0 : Int32)
def X11_keep_p59 (st : MS) (v1 : Int32) (v2 : Int32) (v3 : Int32) (v4 : Int32) : Option (Int32 × MS) :=
    inr v1 8 <|
    nm (sA st 11 v1.toNatClampNeg v2) fun st_7 =>
    if v2 = (1 : Int32) then
      (X11_keep_p81 st_7 v1 v2 v4 v1 v3)
    else
    X11_keep_p81 st_7 v1 v2 v4 v1 (0 : Int32)
def X11_keep (st : MS) (v1 : Int32) (v2 : Int32) (v3 : Int32) (v4 : Int32) : Option (Int32 × MS) :=
    nm (sF st 17 (0 : Int32)) fun st_9 =>
    bd1 (X11_in (v1.toInt64) (0 : Int64) (7 : Int64)) fun y_10 =>
    if y_10 = 0 then
      (some ((-1 : Int32), st_9))
    else
    bd1 (X11_in (v2.toInt64) (0 : Int64) (1 : Int64)) fun y_13 =>
    if y_13 = 0 then
      (some ((-1 : Int32), st_9))
    else
    if v2 = (1 : Int32) then
      (bd1 (X11_in (v3.toInt64) (0 : Int64) (7 : Int64)) fun y_17 =>
      if y_17 = 0 then
        (some ((-1 : Int32), st_9))
      else
      bd1 (X11_in (v4.toInt64) (0 : Int64) (9 : Int64)) fun y_20 =>
      if y_20 = 0 then
        (some ((-1 : Int32), st_9))
      else
      X11_keep_p59 st_9 v1 v2 v3 v4)
    else
    X11_keep_p59 st_9 v1 v2 v3 v4
abbrev rmX11_keep : Room := { frames := 1, cells := 0, slots := 0, locals := 25 }
theorem hdX11_keep : yX11_keep.cls = RX11 ∧ yX11_keep.cls ≠ "java/lang/invoke/MethodHandle" ∧ yX11_keep.cls ≠ "java/lang/invoke/VarHandle" ∧ (parseMethodDescriptor yX11_keep.desc).map (fun d => d.parameters.length) = some 4 := by decide +kernel
set_option maxRecDepth 100000 in
set_option maxHeartbeats 4000000 in
theorem okX11_keep (l : Launch) (D : va_G) (a : Nat → Nat) (T : mT3) {st : MS} {v1 : Int32} {v2 : Int32} {v3 : Int32} {v4 : Int32} {r : Int32} {st' : MS} (heq : X11_keep st v1 v2 v3 v4 = some (r, st')) : gCi l D (mT T) yX11_keep wsX11_keep rmX11_keep [.ref (a 0), .int v1, .int v2, .int v3, .int v4] (mW a T st) r (mW a T st') := by
  refine g_body_i (by decide) rfl (Nat.le_of_ble_eq_true rfl) (fun p e s m args below meth c A Q hx hb hml hown hts hK hA hret ls hP hD hS hl => ?_)
  have hl : lv_has ls 5 [(0, .ref (a 0)), (1, .int v1), (2, .int v2), (3, .int v3), (4, .int v4)] := hl
  have hin : ∀ w ∈ wsX110, w ∈ wsX11_keep := fun w h => List.mem_cons_of_mem _ (List.mem_append_right _ h)
  have f31 : (Cond.fieldLink RX11 31 RX11 (TX11 11).2.1 (TX11 11).2.2.1).before args s = true := hts (.fieldLink RX11 31 "LaidDownTheLaneModel" "holdsWhat" "[I") (by decide +kernel)
  have f34 : (Cond.fieldLink RX11 34 RX11 (TX11 12).2.1 (TX11 12).2.2.1).before args s = true := hts (.fieldLink RX11 34 "LaidDownTheLaneModel" "keptKind" "[I") (by decide +kernel)
  have f37 : (Cond.fieldLink RX11 37 RX11 (TX11 13).2.1 (TX11 13).2.2.1).before args s = true := hts (.fieldLink RX11 37 "LaidDownTheLaneModel" "keptFigure" "[I") (by decide +kernel)
  have f75 : (Cond.fieldLink RX11 75 RX11 (TX11 17).2.1 (TX11 17).2.2.1).before args s = true := hts (.fieldLink RX11 75 "LaidDownTheLaneModel" "thrown" "I") (by decide +kernel)
  have c228 := hts (.constantLong RX11 228 (7)) (by decide +kernel)
  have c334 := hts (.constantLong RX11 334 (9)) (by decide +kernel)
  have b98 : ∀ (st : MS) (t1 : Int32) (t2 : Int32) (H : Heap) (locs : List Loc) (ls : Array Slot), va_P D vwCl (mW a T st) H → va_D A (mW a T st) → va_S A s.heap H locs → lv_has ls 5 [] → X11_keep_p98  st t1 t2 = some (r, st') → W p l e rmX11_keep s m args below meth c H locs 0 0 Q (F0 m 98 ls [.int t2, .int t1, .ref (a 10)]) := by
    intro st t1 t2 H locs ls hP hD hS hl heq
    unfold X11_keep_p98 at heq
    obtain ⟨n_1, heq⟩ := inr_h heq
    refine mas (k := 13) (q := 10) (n := 8) hx hb hK hP hD hS rfl (maset_13 ..) n_1 dX11_keep_98 (fun H locs hP hD hS => ?_)
    obtain ⟨st_2, est_2⟩ : ∃ z, z = sA st 13 t1.toNatClampNeg t2 := ⟨_, rfl⟩
    rw [← est_2] at hP hD
    have heq := nm_h est_2 heq
    refine lv_iconst (v := (0 : Int32)) hx hb dX11_keep_99 (by decide) ?_
    obtain ⟨heq, heq2⟩ := ret_h heq
    subst heq
    subst heq2
    exact hret 100 H locs ls hP hD hS rfl dX11_keep_100
  have b81 : ∀ (st : MS) (v1 : Int32) (v2 : Int32) (v4 : Int32) (t1 : Int32) (t2 : Int32) (H : Heap) (locs : List Loc) (ls : Array Slot), va_P D vwCl (mW a T st) H → va_D A (mW a T st) → va_S A s.heap H locs → lv_has ls 5 [(0, .ref (a 0)), (1, .int v1), (2, .int v2), (4, .int v4)] → X11_keep_p81  st v1 v2 v4 t1 t2 = some (r, st') → W p l e rmX11_keep s m args below meth c H locs 0 0 Q (F0 m 81 ls [.int t2, .int t1, .ref (a 9)]) := by
    intro st v1 v2 v4 t1 t2 H locs ls hP hD hS hl heq
    unfold X11_keep_p81 at heq
    obtain ⟨n_3, heq⟩ := inr_h heq
    refine mas (k := 12) (q := 9) (n := 8) hx hb hK hP hD hS rfl (maset_12 ..) n_3 dX11_keep_81 (fun H locs hP hD hS => ?_)
    obtain ⟨st_4, est_4⟩ : ∃ z, z = sA st 12 t1.toNatClampNeg t2 := ⟨_, rfl⟩
    rw [← est_4] at hP hD
    have heq := nm_h est_4 heq
    refine lv_aload_n hx hb dX11_keep_82 rfl (lv_at hl 0 rfl) ?_
    refine mg (k := 13) (v := .ref (a 10)) hx hb hts hin hown hK hP (by decide) f37 rfl dX11_keep_83 rfl ?_
    refine lv_iload_n hx hb dX11_keep_86 rfl (lv_at hl 1 rfl) ?_
    refine lv_iload_n hx hb dX11_keep_87 rfl (lv_at hl 2 rfl) ?_
    refine lv_iconst (v := (1 : Int32)) hx hb dX11_keep_88 (by decide) ?_
    refine lv_icmp_ne (tgt := 97) hx hb dX11_keep_89 (by decide) (fun c_5 => ?_) (fun c_5 => ?_)
    · have heq := it_f c_5 heq
      refine lv_iconst (v := (0 : Int32)) hx hb dX11_keep_97 (by decide) ?_
      exact b98 st_4 v1 (0 : Int32) H locs ls hP hD hS (lv_sub hl [] rfl) heq
    have heq := it_t c_5 heq
    refine lv_iload hx hb dX11_keep_92 (lv_at hl 3 rfl) ?_
    refine lv_goto (tgt := 98) hx hb dX11_keep_94 (by decide) ?_
    exact b98 st_4 v1 v4 H locs ls hP hD hS (lv_sub hl [] rfl) heq
  have b59 : ∀ (st : MS) (v1 : Int32) (v2 : Int32) (v3 : Int32) (v4 : Int32) (H : Heap) (locs : List Loc) (ls : Array Slot), va_P D vwCl (mW a T st) H → va_D A (mW a T st) → va_S A s.heap H locs → lv_has ls 5 [(0, .ref (a 0)), (1, .int v1), (2, .int v2), (3, .int v3), (4, .int v4)] → X11_keep_p59  st v1 v2 v3 v4 = some (r, st') → W p l e rmX11_keep s m args below meth c H locs 0 0 Q (F0 m 59 ls []) := by
    intro st v1 v2 v3 v4 H locs ls hP hD hS hl heq
    unfold X11_keep_p59 at heq
    refine lv_aload_n hx hb dX11_keep_59 rfl (lv_at hl 0 rfl) ?_
    refine mg (k := 11) (v := .ref (a 8)) hx hb hts hin hown hK hP (by decide) f31 rfl dX11_keep_60 rfl ?_
    refine lv_iload_n hx hb dX11_keep_63 rfl (lv_at hl 1 rfl) ?_
    refine lv_iload_n hx hb dX11_keep_64 rfl (lv_at hl 2 rfl) ?_
    obtain ⟨n_6, heq⟩ := inr_h heq
    refine mas (k := 11) (q := 8) (n := 8) hx hb hK hP hD hS rfl (maset_11 ..) n_6 dX11_keep_65 (fun H locs hP hD hS => ?_)
    obtain ⟨st_7, est_7⟩ : ∃ z, z = sA st 11 v1.toNatClampNeg v2 := ⟨_, rfl⟩
    rw [← est_7] at hP hD
    have heq := nm_h est_7 heq
    refine lv_aload_n hx hb dX11_keep_66 rfl (lv_at hl 0 rfl) ?_
    refine mg (k := 12) (v := .ref (a 9)) hx hb hts hin hown hK hP (by decide) f34 rfl dX11_keep_67 rfl ?_
    refine lv_iload_n hx hb dX11_keep_70 rfl (lv_at hl 1 rfl) ?_
    refine lv_iload_n hx hb dX11_keep_71 rfl (lv_at hl 2 rfl) ?_
    refine lv_iconst (v := (1 : Int32)) hx hb dX11_keep_72 (by decide) ?_
    refine lv_icmp_ne (tgt := 80) hx hb dX11_keep_73 (by decide) (fun c_8 => ?_) (fun c_8 => ?_)
    · have heq := it_f c_8 heq
      refine lv_iconst (v := (0 : Int32)) hx hb dX11_keep_80 (by decide) ?_
      exact b81 st_7 v1 v2 v4 v1 (0 : Int32) H locs ls hP hD hS (lv_sub hl [0, 1, 2, 4] rfl) heq
    have heq := it_t c_8 heq
    refine lv_iload_n hx hb dX11_keep_76 rfl (lv_at hl 3 rfl) ?_
    refine lv_goto (tgt := 81) hx hb dX11_keep_77 (by decide) ?_
    exact b81 st_7 v1 v2 v4 v1 v3 H locs ls hP hD hS (lv_sub hl [0, 1, 2, 4] rfl) heq
  obtain ⟨H, hH⟩ : ∃ H, H = s.heap := ⟨_, rfl⟩
  obtain ⟨locs, hlocs⟩ : ∃ z : List Loc, z = [] := ⟨_, rfl⟩
  have hS : va_S A s.heap H locs := by rw [hH, hlocs]; exact hS
  have hP : va_P D vwCl (mW a T st) H := by rw [hH]; exact hP
  suffices h9 : W p l e rmX11_keep s m args below meth c H locs 0 0 Q (F0 m 0 ls []) by rw [hH, hlocs] at h9; exact h9
  clear hH hlocs
  unfold X11_keep at heq
  refine lv_aload_n hx hb dX11_keep_0 rfl (lv_at hl 0 rfl) ?_
  refine lv_iconst (v := (0 : Int32)) hx hb dX11_keep_1 (by decide) ?_
  refine mp (k := 17) hx hb hts hin hown hK hP hD hS (by decide) f75 dX11_keep_2 rfl rfl rfl rfl (mset_17 ..) (fun H locs hP hD hS => ?_)
  obtain ⟨st_9, est_9⟩ : ∃ z, z = sF st 17 (0 : Int32) := ⟨_, rfl⟩
  rw [← est_9] at hP hD
  have heq := nm_h est_9 heq
  refine lv_iload_n hx hb dX11_keep_5 rfl (lv_at hl 1 rfl) ?_
  refine lv_i2l hx hb dX11_keep_6 rfl ?_
  refine lv_lconst (v := (0 : Int64)) hx hb dX11_keep_7 (by decide) ?_
  refine lv_ldc2 (v := (7 : Int64)) hx hb hown c228 dX11_keep_8 ?_
  obtain ⟨y_10, h_11, heq⟩ := bd1_h heq
  refine g_si (own := RX11) (D := D) (As := [.long (v1.toInt64), .long (0 : Int64), .long (7 : Int64)]) (rest := []) hx hb hml hown hts (okX11_in l D h_11) (cwS 3 hts gX11_keep_X11_in rfl rfl rfl hdX11_in ⟨Nat.le_of_ble_eq_true rfl, Nat.le_of_ble_eq_true rfl⟩) hK hA hP hS rfl hl.1 rfl (Nat.le_of_ble_eq_true rfl) dX11_keep_11 ⟨Nat.le_of_ble_eq_true rfl, Nat.le_of_ble_eq_true rfl⟩ (fun H locs hP hS => ?_)
  refine lv_if_eq (tgt := 57) hx hb dX11_keep_14 (by decide) (fun c_12 => ?_) (fun c_12 => ?_)
  · have heq := it_t c_12 heq
    refine lv_iconst (v := (-1 : Int32)) hx hb dX11_keep_57 (by decide) ?_
    obtain ⟨heq, heq2⟩ := ret_h heq
    subst heq
    subst heq2
    exact hret 58 H locs ls hP hD hS rfl dX11_keep_58
  have heq := it_f c_12 heq
  refine lv_iload_n hx hb dX11_keep_17 rfl (lv_at hl 2 rfl) ?_
  refine lv_i2l hx hb dX11_keep_18 rfl ?_
  refine lv_lconst (v := (0 : Int64)) hx hb dX11_keep_19 (by decide) ?_
  refine lv_lconst (v := (1 : Int64)) hx hb dX11_keep_20 (by decide) ?_
  obtain ⟨y_13, h_14, heq⟩ := bd1_h heq
  refine g_si (own := RX11) (D := D) (As := [.long (v2.toInt64), .long (0 : Int64), .long (1 : Int64)]) (rest := []) hx hb hml hown hts (okX11_in l D h_14) (cwS 3 hts gX11_keep_X11_in rfl rfl rfl hdX11_in ⟨Nat.le_of_ble_eq_true rfl, Nat.le_of_ble_eq_true rfl⟩) hK hA hP hS rfl hl.1 rfl (Nat.le_of_ble_eq_true rfl) dX11_keep_21 ⟨Nat.le_of_ble_eq_true rfl, Nat.le_of_ble_eq_true rfl⟩ (fun H locs hP hS => ?_)
  refine lv_if_eq (tgt := 57) hx hb dX11_keep_24 (by decide) (fun c_15 => ?_) (fun c_15 => ?_)
  · have heq := it_t c_15 heq
    refine lv_iconst (v := (-1 : Int32)) hx hb dX11_keep_57 (by decide) ?_
    obtain ⟨heq, heq2⟩ := ret_h heq
    subst heq
    subst heq2
    exact hret 58 H locs ls hP hD hS rfl dX11_keep_58
  have heq := it_f c_15 heq
  refine lv_iload_n hx hb dX11_keep_27 rfl (lv_at hl 2 rfl) ?_
  refine lv_iconst (v := (1 : Int32)) hx hb dX11_keep_28 (by decide) ?_
  refine lv_icmp_ne (tgt := 59) hx hb dX11_keep_29 (by decide) (fun c_16 => ?_) (fun c_16 => ?_)
  · have heq := it_f c_16 heq
    exact b59 st_9 v1 v2 v3 v4 H locs ls hP hD hS (lv_sub hl [0, 1, 2, 3, 4] rfl) heq
  have heq := it_t c_16 heq
  refine lv_iload_n hx hb dX11_keep_32 rfl (lv_at hl 3 rfl) ?_
  refine lv_i2l hx hb dX11_keep_33 rfl ?_
  refine lv_lconst (v := (0 : Int64)) hx hb dX11_keep_34 (by decide) ?_
  refine lv_ldc2 (v := (7 : Int64)) hx hb hown c228 dX11_keep_35 ?_
  obtain ⟨y_17, h_18, heq⟩ := bd1_h heq
  refine g_si (own := RX11) (D := D) (As := [.long (v3.toInt64), .long (0 : Int64), .long (7 : Int64)]) (rest := []) hx hb hml hown hts (okX11_in l D h_18) (cwS 3 hts gX11_keep_X11_in rfl rfl rfl hdX11_in ⟨Nat.le_of_ble_eq_true rfl, Nat.le_of_ble_eq_true rfl⟩) hK hA hP hS rfl hl.1 rfl (Nat.le_of_ble_eq_true rfl) dX11_keep_38 ⟨Nat.le_of_ble_eq_true rfl, Nat.le_of_ble_eq_true rfl⟩ (fun H locs hP hS => ?_)
  refine lv_if_eq (tgt := 57) hx hb dX11_keep_41 (by decide) (fun c_19 => ?_) (fun c_19 => ?_)
  · have heq := it_t c_19 heq
    refine lv_iconst (v := (-1 : Int32)) hx hb dX11_keep_57 (by decide) ?_
    obtain ⟨heq, heq2⟩ := ret_h heq
    subst heq
    subst heq2
    exact hret 58 H locs ls hP hD hS rfl dX11_keep_58
  have heq := it_f c_19 heq
  refine lv_iload hx hb dX11_keep_44 (lv_at hl 4 rfl) ?_
  refine lv_i2l hx hb dX11_keep_46 rfl ?_
  refine lv_lconst (v := (0 : Int64)) hx hb dX11_keep_47 (by decide) ?_
  refine lv_ldc2 (v := (9 : Int64)) hx hb hown c334 dX11_keep_48 ?_
  obtain ⟨y_20, h_21, heq⟩ := bd1_h heq
  refine g_si (own := RX11) (D := D) (As := [.long (v4.toInt64), .long (0 : Int64), .long (9 : Int64)]) (rest := []) hx hb hml hown hts (okX11_in l D h_21) (cwS 3 hts gX11_keep_X11_in rfl rfl rfl hdX11_in ⟨Nat.le_of_ble_eq_true rfl, Nat.le_of_ble_eq_true rfl⟩) hK hA hP hS rfl hl.1 rfl (Nat.le_of_ble_eq_true rfl) dX11_keep_51 ⟨Nat.le_of_ble_eq_true rfl, Nat.le_of_ble_eq_true rfl⟩ (fun H locs hP hS => ?_)
  refine lv_if_ne (tgt := 59) hx hb dX11_keep_54 (by decide) (fun c_22 => ?_) (fun c_22 => ?_)
  · have heq := it_f c_22 heq
    exact b59 st_9 v1 v2 v3 v4 H locs ls hP hD hS (lv_sub hl [0, 1, 2, 3, 4] rfl) heq
  have heq := it_t c_22 heq
  refine lv_iconst (v := (-1 : Int32)) hx hb dX11_keep_57 (by decide) ?_
  obtain ⟨heq, heq2⟩ := ret_h heq
  subst heq
  subst heq2
  exact hret 58 H locs ls hP hD hS rfl dX11_keep_58
theorem dX11_narrowed_0 : decode cX11_narrowed 0 = .ok (.iload_n 1, 1) := by decide +kernel
theorem dX11_narrowed_1 : decode cX11_narrowed 1 = .ok (.ifCond .ne 9, 3) := by decide +kernel
theorem dX11_narrowed_4 : decode cX11_narrowed 4 = .ok (.iload_n 0, 1) := by decide +kernel
theorem dX11_narrowed_5 : decode cX11_narrowed 5 = .ok (.i2b, 1) := by decide +kernel
theorem dX11_narrowed_6 : decode cX11_narrowed 6 = .ok (.i2l, 1) := by decide +kernel
theorem dX11_narrowed_7 : decode cX11_narrowed 7 = .ok (.goto 16, 3) := by decide +kernel
theorem dX11_narrowed_10 : decode cX11_narrowed 10 = .ok (.iload_n 1, 1) := by decide +kernel
theorem dX11_narrowed_11 : decode cX11_narrowed 11 = .ok (.iconst 1, 1) := by decide +kernel
theorem dX11_narrowed_12 : decode cX11_narrowed 12 = .ok (.if_icmp .ne 9, 3) := by decide +kernel
theorem dX11_narrowed_15 : decode cX11_narrowed 15 = .ok (.iload_n 0, 1) := by decide +kernel
theorem dX11_narrowed_16 : decode cX11_narrowed 16 = .ok (.i2s, 1) := by decide +kernel
theorem dX11_narrowed_17 : decode cX11_narrowed 17 = .ok (.i2l, 1) := by decide +kernel
theorem dX11_narrowed_18 : decode cX11_narrowed 18 = .ok (.goto 5, 3) := by decide +kernel
theorem dX11_narrowed_21 : decode cX11_narrowed 21 = .ok (.iload_n 0, 1) := by decide +kernel
theorem dX11_narrowed_22 : decode cX11_narrowed 22 = .ok (.i2l, 1) := by decide +kernel
theorem dX11_narrowed_23 : decode cX11_narrowed 23 = .ok (.lreturn, 1) := by decide +kernel
/-! narrowed -/
def X11_narrowed_p23 (t0 : Int64) : Option Int64 :=
    some t0
def X11_narrowed (v0 : Int32) (v1 : Int32) : Option Int64 :=
    if v1 = 0 then
      (X11_narrowed_p23 ((v0.toInt8.toInt32).toInt64))
    else
    if v1 = (1 : Int32) then
      (X11_narrowed_p23 ((v0.toInt16.toInt32).toInt64))
    else
    X11_narrowed_p23 (v0.toInt64)
abbrev rmX11_narrowed : Room := { frames := 0, cells := 0, slots := 0, locals := 0 }
theorem hdX11_narrowed : yX11_narrowed.cls = RX11 ∧ yX11_narrowed.cls ≠ "java/lang/invoke/MethodHandle" ∧ yX11_narrowed.cls ≠ "java/lang/invoke/VarHandle" ∧ (parseMethodDescriptor yX11_narrowed.desc).map (fun d => d.parameters.length) = some 2 := by decide +kernel
set_option maxRecDepth 100000 in
set_option maxHeartbeats 4000000 in
theorem okX11_narrowed (l : Launch) (D : va_G) {v0 : Int32} {v1 : Int32} {r : Int64} (heq : X11_narrowed v0 v1 = some r) : gCl l D [] yX11_narrowed wsX11_narrowed rmX11_narrowed [.int v0, .int v1] [] r [] := by
  refine g_body_l (by decide) rfl (Nat.le_of_ble_eq_true rfl) (fun p e s m args below meth c A Q hx hb hml hown hts hK hA hret ls hP hD hS hl => ?_)
  have hl : lv_has ls 2 [(0, .int v0), (1, .int v1)] := hl
  have b23 : ∀ (t0 : Int64) (H : Heap) (locs : List Loc) (ls : Array Slot), va_P D vwCl [] H → va_D A [] → va_S A s.heap H locs → lv_has ls 2 [] → X11_narrowed_p23  t0 = some r → W p l e rmX11_narrowed s m args below meth c H locs 0 0 Q (F0 m 23 ls [.long t0]) := by
    intro t0 H locs ls hP hD hS hl heq
    unfold X11_narrowed_p23 at heq
    have heq := Option.some.inj heq
    subst heq
    exact hret 23 H locs ls hP hD hS dX11_narrowed_23
  obtain ⟨H, hH⟩ : ∃ H, H = s.heap := ⟨_, rfl⟩
  obtain ⟨locs, hlocs⟩ : ∃ z : List Loc, z = [] := ⟨_, rfl⟩
  have hS : va_S A s.heap H locs := by rw [hH, hlocs]; exact hS
  have hP : va_P D vwCl [] H := by rw [hH]; exact hP
  suffices h9 : W p l e rmX11_narrowed s m args below meth c H locs 0 0 Q (F0 m 0 ls []) by rw [hH, hlocs] at h9; exact h9
  clear hH hlocs
  unfold X11_narrowed at heq
  refine lv_iload_n hx hb dX11_narrowed_0 rfl (lv_at hl 1 rfl) ?_
  refine lv_if_ne (tgt := 10) hx hb dX11_narrowed_1 (by decide) (fun c_1 => ?_) (fun c_1 => ?_)
  · have heq := it_f c_1 heq
    refine lv_iload_n hx hb dX11_narrowed_10 rfl (lv_at hl 1 rfl) ?_
    refine lv_iconst (v := (1 : Int32)) hx hb dX11_narrowed_11 (by decide) ?_
    refine lv_icmp_ne (tgt := 21) hx hb dX11_narrowed_12 (by decide) (fun c_2 => ?_) (fun c_2 => ?_)
    · have heq := it_f c_2 heq
      refine lv_iload_n hx hb dX11_narrowed_21 rfl (lv_at hl 0 rfl) ?_
      refine lv_i2l hx hb dX11_narrowed_22 rfl ?_
      exact b23 (v0.toInt64) H locs ls hP hD hS (lv_sub hl [] rfl) heq
    have heq := it_t c_2 heq
    refine lv_iload_n hx hb dX11_narrowed_15 rfl (lv_at hl 0 rfl) ?_
    refine lv_i2s hx hb dX11_narrowed_16 rfl ?_
    refine lv_i2l hx hb dX11_narrowed_17 rfl ?_
    refine lv_goto (tgt := 23) hx hb dX11_narrowed_18 (by decide) ?_
    exact b23 ((v0.toInt16.toInt32).toInt64) H locs ls hP hD hS (lv_sub hl [] rfl) heq
  have heq := it_t c_1 heq
  refine lv_iload_n hx hb dX11_narrowed_4 rfl (lv_at hl 0 rfl) ?_
  refine lv_i2b hx hb dX11_narrowed_5 rfl ?_
  refine lv_i2l hx hb dX11_narrowed_6 rfl ?_
  refine lv_goto (tgt := 23) hx hb dX11_narrowed_7 (by decide) ?_
  exact b23 ((v0.toInt8.toInt32).toInt64) H locs ls hP hD hS (lv_sub hl [] rfl) heq
set_option maxRecDepth 20000 in
theorem ggX11_row_X11_in : GoodIn wsX11_row wsX11_in := goodIn_r _ [11] (by decide +kernel) (by decide +kernel)
set_option maxRecDepth 20000 in
theorem gX11_row_X11_in : GoodIn wsX11_row (va_wsS RX11 81 yX11_in wsX11_in) := goodIn_app (goodIn_of _ (by decide +kernel)) ggX11_row_X11_in
theorem dX11_row_0 : decode cX11_row 0 = .ok (.aload_n 0, 1) := by decide +kernel
theorem dX11_row_1 : decode cX11_row 1 = .ok (.iconst 0, 1) := by decide +kernel
theorem dX11_row_2 : decode cX11_row 2 = .ok (.putfield 75, 3) := by decide +kernel
theorem dX11_row_5 : decode cX11_row 5 = .ok (.iload_n 1, 1) := by decide +kernel
theorem dX11_row_6 : decode cX11_row 6 = .ok (.i2l, 1) := by decide +kernel
theorem dX11_row_7 : decode cX11_row 7 = .ok (.lconst 0, 1) := by decide +kernel
theorem dX11_row_8 : decode cX11_row 8 = .ok (.ldc2_w 228, 3) := by decide +kernel
theorem dX11_row_11 : decode cX11_row 11 = .ok (.invokestatic 81, 3) := by decide +kernel
theorem dX11_row_14 : decode cX11_row 14 = .ok (.ifCond .eq 21, 3) := by decide +kernel
theorem dX11_row_17 : decode cX11_row 17 = .ok (.iload_n 2, 1) := by decide +kernel
theorem dX11_row_18 : decode cX11_row 18 = .ok (.i2l, 1) := by decide +kernel
theorem dX11_row_19 : decode cX11_row 19 = .ok (.lconst 0, 1) := by decide +kernel
theorem dX11_row_20 : decode cX11_row 20 = .ok (.ldc2_w 336, 3) := by decide +kernel
theorem dX11_row_23 : decode cX11_row 23 = .ok (.invokestatic 81, 3) := by decide +kernel
theorem dX11_row_26 : decode cX11_row 26 = .ok (.ifCond .eq 9, 3) := by decide +kernel
theorem dX11_row_29 : decode cX11_row 29 = .ok (.iload_n 3, 1) := by decide +kernel
theorem dX11_row_30 : decode cX11_row 30 = .ok (.bipush 100, 2) := by decide +kernel
theorem dX11_row_32 : decode cX11_row 32 = .ok (.if_icmp .le 5, 3) := by decide +kernel
theorem dX11_row_35 : decode cX11_row 35 = .ok (.iconst (-1), 1) := by decide +kernel
theorem dX11_row_36 : decode cX11_row 36 = .ok (.ireturn, 1) := by decide +kernel
theorem dX11_row_37 : decode cX11_row 37 = .ok (.iload_n 3, 1) := by decide +kernel
theorem dX11_row_38 : decode cX11_row 38 = .ok (.ifCond .ge 6, 3) := by decide +kernel
theorem dX11_row_41 : decode cX11_row 41 = .ok (.bipush (-14), 2) := by decide +kernel
theorem dX11_row_43 : decode cX11_row 43 = .ok (.ireturn, 1) := by decide +kernel
theorem dX11_row_44 : decode cX11_row 44 = .ok (.aload_n 0, 1) := by decide +kernel
theorem dX11_row_45 : decode cX11_row 45 = .ok (.getfield 31, 3) := by decide +kernel
theorem dX11_row_48 : decode cX11_row 48 = .ok (.iload_n 1, 1) := by decide +kernel
theorem dX11_row_49 : decode cX11_row 49 = .ok (.iconst 2, 1) := by decide +kernel
theorem dX11_row_50 : decode cX11_row 50 = .ok (.iastore, 1) := by decide +kernel
theorem dX11_row_51 : decode cX11_row 51 = .ok (.aload_n 0, 1) := by decide +kernel
theorem dX11_row_52 : decode cX11_row 52 = .ok (.getfield 40, 3) := by decide +kernel
theorem dX11_row_55 : decode cX11_row 55 = .ok (.iload_n 1, 1) := by decide +kernel
theorem dX11_row_56 : decode cX11_row 56 = .ok (.iload_n 2, 1) := by decide +kernel
theorem dX11_row_57 : decode cX11_row 57 = .ok (.iastore, 1) := by decide +kernel
theorem dX11_row_58 : decode cX11_row 58 = .ok (.aload_n 0, 1) := by decide +kernel
theorem dX11_row_59 : decode cX11_row 59 = .ok (.getfield 43, 3) := by decide +kernel
theorem dX11_row_62 : decode cX11_row 62 = .ok (.iload_n 1, 1) := by decide +kernel
theorem dX11_row_63 : decode cX11_row 63 = .ok (.iload_n 3, 1) := by decide +kernel
theorem dX11_row_64 : decode cX11_row 64 = .ok (.iastore, 1) := by decide +kernel
theorem dX11_row_65 : decode cX11_row 65 = .ok (.iconst 0, 1) := by decide +kernel
theorem dX11_row_66 : decode cX11_row 66 = .ok (.istore 4, 2) := by decide +kernel
theorem dX11_row_68 : decode cX11_row 68 = .ok (.iload 4, 2) := by decide +kernel
theorem dX11_row_70 : decode cX11_row 70 = .ok (.bipush 100, 2) := by decide +kernel
theorem dX11_row_72 : decode cX11_row 72 = .ok (.if_icmp .ge 22, 3) := by decide +kernel
theorem dX11_row_75 : decode cX11_row 75 = .ok (.aload_n 0, 1) := by decide +kernel
theorem dX11_row_76 : decode cX11_row 76 = .ok (.getfield 46, 3) := by decide +kernel
theorem dX11_row_79 : decode cX11_row 79 = .ok (.bipush 100, 2) := by decide +kernel
theorem dX11_row_81 : decode cX11_row 81 = .ok (.iload_n 1, 1) := by decide +kernel
theorem dX11_row_82 : decode cX11_row 82 = .ok (.imul, 1) := by decide +kernel
theorem dX11_row_83 : decode cX11_row 83 = .ok (.iload 4, 2) := by decide +kernel
theorem dX11_row_85 : decode cX11_row 85 = .ok (.iadd, 1) := by decide +kernel
theorem dX11_row_86 : decode cX11_row 86 = .ok (.lconst 0, 1) := by decide +kernel
theorem dX11_row_87 : decode cX11_row 87 = .ok (.lastore, 1) := by decide +kernel
theorem dX11_row_88 : decode cX11_row 88 = .ok (.iinc 4 1, 3) := by decide +kernel
theorem dX11_row_91 : decode cX11_row 91 = .ok (.goto (-23), 3) := by decide +kernel
theorem dX11_row_94 : decode cX11_row 94 = .ok (.iconst 0, 1) := by decide +kernel
theorem dX11_row_95 : decode cX11_row 95 = .ok (.ireturn, 1) := by decide +kernel
/-! row -/
def X11_row_p68 : Nat → MS → Int32 → Int32 → Option (Int32 × MS)
  | 0, _, _, _ => none
  | n + 1, st, v1, v4 =>
    if (100 : Int32) ≤ v4 then
      (some ((0 : Int32), st))
    else
    inr (((100 : Int32) * v1) + v4) 800 <|
    nm (sL st 16 (((100 : Int32) * v1) + v4).toNatClampNeg (0 : Int64)) fun st_3 =>
    nm (v4 + (1 : Int32)) fun x_4 =>
    X11_row_p68  n st_3 v1 x_4
theorem X11_row_p68_s (n : Nat) (st : MS) (v1 : Int32) (v4 : Int32) : X11_row_p68  (n + 1) st v1 v4 =
    (if (100 : Int32) ≤ v4 then
      (some ((0 : Int32), st))
    else
    inr (((100 : Int32) * v1) + v4) 800 <|
    nm (sL st 16 (((100 : Int32) * v1) + v4).toNatClampNeg (0 : Int64)) fun st_3 =>
    nm (v4 + (1 : Int32)) fun x_4 =>
    X11_row_p68  n st_3 v1 x_4) := rfl
def X11_row (st : MS) (v1 : Int32) (v2 : Int32) (v3 : Int32) : Option (Int32 × MS) :=
    nm (sF st 17 (0 : Int32)) fun st_5 =>
    bd1 (X11_in (v1.toInt64) (0 : Int64) (7 : Int64)) fun y_6 =>
    if y_6 = 0 then
      (some ((-1 : Int32), st_5))
    else
    bd1 (X11_in (v2.toInt64) (0 : Int64) (2 : Int64)) fun y_9 =>
    if y_9 = 0 then
      (some ((-1 : Int32), st_5))
    else
    if v3 ≤ (100 : Int32) then
      (if 0 ≤ v3 then
        (inr v1 8 <|
        nm (sA st_5 11 v1.toNatClampNeg (2 : Int32)) fun st_15 =>
        inr v1 8 <|
        nm (sA st_15 14 v1.toNatClampNeg v2) fun st_17 =>
        inr v1 8 <|
        nm (sA st_17 15 v1.toNatClampNeg v3) fun st_19 =>
        X11_row_p68 101 st_19 v1 (0 : Int32))
      else
      some ((-14 : Int32), st_5))
    else
    some ((-1 : Int32), st_5)
abbrev rmX11_row : Room := { frames := 1, cells := 0, slots := 0, locals := 25 }
theorem hdX11_row : yX11_row.cls = RX11 ∧ yX11_row.cls ≠ "java/lang/invoke/MethodHandle" ∧ yX11_row.cls ≠ "java/lang/invoke/VarHandle" ∧ (parseMethodDescriptor yX11_row.desc).map (fun d => d.parameters.length) = some 3 := by decide +kernel
set_option maxRecDepth 100000 in
set_option maxHeartbeats 4000000 in
theorem okX11_row (l : Launch) (D : va_G) (a : Nat → Nat) (T : mT3) {st : MS} {v1 : Int32} {v2 : Int32} {v3 : Int32} {r : Int32} {st' : MS} (heq : X11_row st v1 v2 v3 = some (r, st')) : gCi l D (mT T) yX11_row wsX11_row rmX11_row [.ref (a 0), .int v1, .int v2, .int v3] (mW a T st) r (mW a T st') := by
  refine g_body_i (by decide) rfl (Nat.le_of_ble_eq_true rfl) (fun p e s m args below meth c A Q hx hb hml hown hts hK hA hret ls hP hD hS hl => ?_)
  have hl : lv_has ls 5 [(0, .ref (a 0)), (1, .int v1), (2, .int v2), (3, .int v3)] := hl
  have hin : ∀ w ∈ wsX110, w ∈ wsX11_row := fun w h => List.mem_cons_of_mem _ (List.mem_append_right _ h)
  have f31 : (Cond.fieldLink RX11 31 RX11 (TX11 11).2.1 (TX11 11).2.2.1).before args s = true := hts (.fieldLink RX11 31 "LaidDownTheLaneModel" "holdsWhat" "[I") (by decide +kernel)
  have f40 : (Cond.fieldLink RX11 40 RX11 (TX11 14).2.1 (TX11 14).2.2.1).before args s = true := hts (.fieldLink RX11 40 "LaidDownTheLaneModel" "rowSort" "[I") (by decide +kernel)
  have f43 : (Cond.fieldLink RX11 43 RX11 (TX11 15).2.1 (TX11 15).2.2.1).before args s = true := hts (.fieldLink RX11 43 "LaidDownTheLaneModel" "rowMany" "[I") (by decide +kernel)
  have f46 : (Cond.fieldLink RX11 46 RX11 (TX11 16).2.1 (TX11 16).2.2.1).before args s = true := hts (.fieldLink RX11 46 "LaidDownTheLaneModel" "rows" "[J") (by decide +kernel)
  have f75 : (Cond.fieldLink RX11 75 RX11 (TX11 17).2.1 (TX11 17).2.2.1).before args s = true := hts (.fieldLink RX11 75 "LaidDownTheLaneModel" "thrown" "I") (by decide +kernel)
  have c228 := hts (.constantLong RX11 228 (7)) (by decide +kernel)
  have c336 := hts (.constantLong RX11 336 (2)) (by decide +kernel)
  have b68 : ∀ (n : Nat), ∀ (st : MS) (v1 : Int32) (v4 : Int32) (H : Heap) (locs : List Loc) (ls : Array Slot), va_P D vwCl (mW a T st) H → va_D A (mW a T st) → va_S A s.heap H locs → lv_has ls 5 [(0, .ref (a 0)), (1, .int v1), (4, .int v4)] → X11_row_p68  n st v1 v4 = some (r, st') → W p l e rmX11_row s m args below meth c H locs 0 0 Q (F0 m 68 ls []) := by
    intro n
    induction n with
    | zero => intro st v1 v4 H locs ls hP hD hS hl heq; cases heq
    | succ n ih =>
      intro st v1 v4 H locs ls hP hD hS hl heq
      rw [X11_row_p68_s] at heq
      refine lv_iload hx hb dX11_row_68 (lv_at hl 2 rfl) ?_
      refine lv_bipush (v := (100 : Int32)) hx hb dX11_row_70 (by decide) ?_
      refine lv_icmp_ge (tgt := 94) hx hb dX11_row_72 (by decide) (fun c_1 => ?_) (fun c_1 => ?_)
      · have heq := it_t c_1 heq
        refine lv_iconst (v := (0 : Int32)) hx hb dX11_row_94 (by decide) ?_
        obtain ⟨heq, heq2⟩ := ret_h heq
        subst heq
        subst heq2
        exact hret 95 H locs ls hP hD hS rfl dX11_row_95
      have heq := it_f c_1 heq
      refine lv_aload_n hx hb dX11_row_75 rfl (lv_at hl 0 rfl) ?_
      refine mg (k := 16) (v := .ref (a 13)) hx hb hts hin hown hK hP (by decide) f46 rfl dX11_row_76 rfl ?_
      refine lv_bipush (v := (100 : Int32)) hx hb dX11_row_79 (by decide) ?_
      refine lv_iload_n hx hb dX11_row_81 rfl (lv_at hl 1 rfl) ?_
      refine lv_imul hx hb dX11_row_82 ?_
      refine lv_iload hx hb dX11_row_83 (lv_at hl 2 rfl) ?_
      refine lv_iadd hx hb dX11_row_85 ?_
      refine lv_lconst (v := (0 : Int64)) hx hb dX11_row_86 (by decide) ?_
      obtain ⟨n_2, heq⟩ := inr_h heq
      refine mls (k := 16) (q := 13) (n := 800) hx hb hK hP hD hS rfl (maset_16 ..) n_2 dX11_row_87 (fun H locs hP hD hS => ?_)
      obtain ⟨st_3, est_3⟩ : ∃ z, z = sL st 16 (((100 : Int32) * v1) + v4).toNatClampNeg (0 : Int64) := ⟨_, rfl⟩
      rw [← est_3] at hP hD
      have heq := nm_h est_3 heq
      obtain ⟨x_4, ex_4⟩ : ∃ y : Int32, y = v4 + (1 : Int32) := ⟨_, rfl⟩
      have heq := nm_h ex_4 heq
      refine lv_iinc (v := x_4) (lv' := [(4, .int x_4), (0, .ref (a 0)), (1, .int v1)]) hx hb dX11_row_88 hl (k := 2) rfl (by rw [ex_4]; rfl) (by decide) rfl (fun ls hl => ?_)
      refine lv_goto (tgt := 68) hx hb dX11_row_91 (by decide) ?_
      exact ih st_3 v1 x_4 H locs ls hP hD hS (lv_sub hl [1, 2, 0] rfl) heq
  obtain ⟨H, hH⟩ : ∃ H, H = s.heap := ⟨_, rfl⟩
  obtain ⟨locs, hlocs⟩ : ∃ z : List Loc, z = [] := ⟨_, rfl⟩
  have hS : va_S A s.heap H locs := by rw [hH, hlocs]; exact hS
  have hP : va_P D vwCl (mW a T st) H := by rw [hH]; exact hP
  suffices h9 : W p l e rmX11_row s m args below meth c H locs 0 0 Q (F0 m 0 ls []) by rw [hH, hlocs] at h9; exact h9
  clear hH hlocs
  unfold X11_row at heq
  refine lv_aload_n hx hb dX11_row_0 rfl (lv_at hl 0 rfl) ?_
  refine lv_iconst (v := (0 : Int32)) hx hb dX11_row_1 (by decide) ?_
  refine mp (k := 17) hx hb hts hin hown hK hP hD hS (by decide) f75 dX11_row_2 rfl rfl rfl rfl (mset_17 ..) (fun H locs hP hD hS => ?_)
  obtain ⟨st_5, est_5⟩ : ∃ z, z = sF st 17 (0 : Int32) := ⟨_, rfl⟩
  rw [← est_5] at hP hD
  have heq := nm_h est_5 heq
  refine lv_iload_n hx hb dX11_row_5 rfl (lv_at hl 1 rfl) ?_
  refine lv_i2l hx hb dX11_row_6 rfl ?_
  refine lv_lconst (v := (0 : Int64)) hx hb dX11_row_7 (by decide) ?_
  refine lv_ldc2 (v := (7 : Int64)) hx hb hown c228 dX11_row_8 ?_
  obtain ⟨y_6, h_7, heq⟩ := bd1_h heq
  refine g_si (own := RX11) (D := D) (As := [.long (v1.toInt64), .long (0 : Int64), .long (7 : Int64)]) (rest := []) hx hb hml hown hts (okX11_in l D h_7) (cwS 3 hts gX11_row_X11_in rfl rfl rfl hdX11_in ⟨Nat.le_of_ble_eq_true rfl, Nat.le_of_ble_eq_true rfl⟩) hK hA hP hS rfl hl.1 rfl (Nat.le_of_ble_eq_true rfl) dX11_row_11 ⟨Nat.le_of_ble_eq_true rfl, Nat.le_of_ble_eq_true rfl⟩ (fun H locs hP hS => ?_)
  refine lv_if_eq (tgt := 35) hx hb dX11_row_14 (by decide) (fun c_8 => ?_) (fun c_8 => ?_)
  · have heq := it_t c_8 heq
    refine lv_iconst (v := (-1 : Int32)) hx hb dX11_row_35 (by decide) ?_
    obtain ⟨heq, heq2⟩ := ret_h heq
    subst heq
    subst heq2
    exact hret 36 H locs ls hP hD hS rfl dX11_row_36
  have heq := it_f c_8 heq
  refine lv_iload_n hx hb dX11_row_17 rfl (lv_at hl 2 rfl) ?_
  refine lv_i2l hx hb dX11_row_18 rfl ?_
  refine lv_lconst (v := (0 : Int64)) hx hb dX11_row_19 (by decide) ?_
  refine lv_ldc2 (v := (2 : Int64)) hx hb hown c336 dX11_row_20 ?_
  obtain ⟨y_9, h_10, heq⟩ := bd1_h heq
  refine g_si (own := RX11) (D := D) (As := [.long (v2.toInt64), .long (0 : Int64), .long (2 : Int64)]) (rest := []) hx hb hml hown hts (okX11_in l D h_10) (cwS 3 hts gX11_row_X11_in rfl rfl rfl hdX11_in ⟨Nat.le_of_ble_eq_true rfl, Nat.le_of_ble_eq_true rfl⟩) hK hA hP hS rfl hl.1 rfl (Nat.le_of_ble_eq_true rfl) dX11_row_23 ⟨Nat.le_of_ble_eq_true rfl, Nat.le_of_ble_eq_true rfl⟩ (fun H locs hP hS => ?_)
  refine lv_if_eq (tgt := 35) hx hb dX11_row_26 (by decide) (fun c_11 => ?_) (fun c_11 => ?_)
  · have heq := it_t c_11 heq
    refine lv_iconst (v := (-1 : Int32)) hx hb dX11_row_35 (by decide) ?_
    obtain ⟨heq, heq2⟩ := ret_h heq
    subst heq
    subst heq2
    exact hret 36 H locs ls hP hD hS rfl dX11_row_36
  have heq := it_f c_11 heq
  refine lv_iload_n hx hb dX11_row_29 rfl (lv_at hl 3 rfl) ?_
  refine lv_bipush (v := (100 : Int32)) hx hb dX11_row_30 (by decide) ?_
  refine lv_icmp_le (tgt := 37) hx hb dX11_row_32 (by decide) (fun c_12 => ?_) (fun c_12 => ?_)
  · have heq := it_t c_12 heq
    refine lv_iload_n hx hb dX11_row_37 rfl (lv_at hl 3 rfl) ?_
    refine lv_if_ge (tgt := 44) hx hb dX11_row_38 (by decide) (fun c_13 => ?_) (fun c_13 => ?_)
    · have heq := it_t c_13 heq
      refine lv_aload_n hx hb dX11_row_44 rfl (lv_at hl 0 rfl) ?_
      refine mg (k := 11) (v := .ref (a 8)) hx hb hts hin hown hK hP (by decide) f31 rfl dX11_row_45 rfl ?_
      refine lv_iload_n hx hb dX11_row_48 rfl (lv_at hl 1 rfl) ?_
      refine lv_iconst (v := (2 : Int32)) hx hb dX11_row_49 (by decide) ?_
      obtain ⟨n_14, heq⟩ := inr_h heq
      refine mas (k := 11) (q := 8) (n := 8) hx hb hK hP hD hS rfl (maset_11 ..) n_14 dX11_row_50 (fun H locs hP hD hS => ?_)
      obtain ⟨st_15, est_15⟩ : ∃ z, z = sA st_5 11 v1.toNatClampNeg (2 : Int32) := ⟨_, rfl⟩
      rw [← est_15] at hP hD
      have heq := nm_h est_15 heq
      refine lv_aload_n hx hb dX11_row_51 rfl (lv_at hl 0 rfl) ?_
      refine mg (k := 14) (v := .ref (a 11)) hx hb hts hin hown hK hP (by decide) f40 rfl dX11_row_52 rfl ?_
      refine lv_iload_n hx hb dX11_row_55 rfl (lv_at hl 1 rfl) ?_
      refine lv_iload_n hx hb dX11_row_56 rfl (lv_at hl 2 rfl) ?_
      obtain ⟨n_16, heq⟩ := inr_h heq
      refine mas (k := 14) (q := 11) (n := 8) hx hb hK hP hD hS rfl (maset_14 ..) n_16 dX11_row_57 (fun H locs hP hD hS => ?_)
      obtain ⟨st_17, est_17⟩ : ∃ z, z = sA st_15 14 v1.toNatClampNeg v2 := ⟨_, rfl⟩
      rw [← est_17] at hP hD
      have heq := nm_h est_17 heq
      refine lv_aload_n hx hb dX11_row_58 rfl (lv_at hl 0 rfl) ?_
      refine mg (k := 15) (v := .ref (a 12)) hx hb hts hin hown hK hP (by decide) f43 rfl dX11_row_59 rfl ?_
      refine lv_iload_n hx hb dX11_row_62 rfl (lv_at hl 1 rfl) ?_
      refine lv_iload_n hx hb dX11_row_63 rfl (lv_at hl 3 rfl) ?_
      obtain ⟨n_18, heq⟩ := inr_h heq
      refine mas (k := 15) (q := 12) (n := 8) hx hb hK hP hD hS rfl (maset_15 ..) n_18 dX11_row_64 (fun H locs hP hD hS => ?_)
      obtain ⟨st_19, est_19⟩ : ∃ z, z = sA st_17 15 v1.toNatClampNeg v3 := ⟨_, rfl⟩
      rw [← est_19] at hP hD
      have heq := nm_h est_19 heq
      refine lv_iconst (v := (0 : Int32)) hx hb dX11_row_65 (by decide) ?_
      refine lv_istore (lv' := [(4, .int (0 : Int32)), (0, .ref (a 0)), (1, .int v1), (2, .int v2), (3, .int v3)]) hx hb dX11_row_66 hl (by decide) rfl (fun ls hl => ?_)
      exact b68 101 st_19 v1 (0 : Int32) H locs ls hP hD hS (lv_sub hl [1, 2, 0] rfl) heq
    have heq := it_f c_13 heq
    refine lv_bipush (v := (-14 : Int32)) hx hb dX11_row_41 (by decide) ?_
    obtain ⟨heq, heq2⟩ := ret_h heq
    subst heq
    subst heq2
    exact hret 43 H locs ls hP hD hS rfl dX11_row_43
  have heq := it_f c_12 heq
  refine lv_iconst (v := (-1 : Int32)) hx hb dX11_row_35 (by decide) ?_
  obtain ⟨heq, heq2⟩ := ret_h heq
  subst heq
  subst heq2
  exact hret 36 H locs ls hP hD hS rfl dX11_row_36
set_option maxRecDepth 20000 in
theorem ggX11_put_X11_wrongRow : GoodIn wsX11_put wsX11_wrongRow := goodIn_r _ [9, 10, 11, 12, 13, 8, 14, 18, 19, 20, 21, 22, 23, 24, 25, 26, 27, 28, 29, 30, 31, 32, 33, 34, 35, 36, 37, 38, 39, 40, 41, 42, 43, 44, 45, 46, 47, 48, 49, 50, 51, 52, 53, 54] (by decide +kernel) (by decide +kernel)
set_option maxRecDepth 20000 in
theorem gX11_put_X11_wrongRow : GoodIn wsX11_put (wsV RX11 194 RX11 yX11_wrongRow wsX11_wrongRow) := goodIn_app (goodIn_of _ (by decide +kernel)) ggX11_put_X11_wrongRow
set_option maxRecDepth 20000 in
theorem ggX11_put_X11_in : GoodIn wsX11_put wsX11_in := goodIn_r _ [14] (by decide +kernel) (by decide +kernel)
set_option maxRecDepth 20000 in
theorem gX11_put_X11_in : GoodIn wsX11_put (va_wsS RX11 81 yX11_in wsX11_in) := goodIn_app (goodIn_of _ (by decide +kernel)) ggX11_put_X11_in
set_option maxRecDepth 20000 in
theorem ggX11_put_X11_narrowed : GoodIn wsX11_put wsX11_narrowed := goodIn_r _ [17] (by decide +kernel) (by decide +kernel)
set_option maxRecDepth 20000 in
theorem gX11_put_X11_narrowed : GoodIn wsX11_put (va_wsS RX11 338 yX11_narrowed wsX11_narrowed) := goodIn_app (goodIn_of _ (by decide +kernel)) ggX11_put_X11_narrowed
theorem dX11_put_0 : decode cX11_put 0 = .ok (.aload_n 0, 1) := by decide +kernel
theorem dX11_put_1 : decode cX11_put 1 = .ok (.iconst 0, 1) := by decide +kernel
theorem dX11_put_2 : decode cX11_put 2 = .ok (.putfield 75, 3) := by decide +kernel
theorem dX11_put_5 : decode cX11_put 5 = .ok (.aload_n 0, 1) := by decide +kernel
theorem dX11_put_6 : decode cX11_put 6 = .ok (.iload_n 1, 1) := by decide +kernel
theorem dX11_put_7 : decode cX11_put 7 = .ok (.invokevirtual 194, 3) := by decide +kernel
theorem dX11_put_10 : decode cX11_put 10 = .ok (.istore 4, 2) := by decide +kernel
theorem dX11_put_12 : decode cX11_put 12 = .ok (.iload 4, 2) := by decide +kernel
theorem dX11_put_14 : decode cX11_put 14 = .ok (.ifCond .ge 6, 3) := by decide +kernel
theorem dX11_put_17 : decode cX11_put 17 = .ok (.iload 4, 2) := by decide +kernel
theorem dX11_put_19 : decode cX11_put 19 = .ok (.ireturn, 1) := by decide +kernel
theorem dX11_put_20 : decode cX11_put 20 = .ok (.iload_n 2, 1) := by decide +kernel
theorem dX11_put_21 : decode cX11_put 21 = .ok (.i2l, 1) := by decide +kernel
theorem dX11_put_22 : decode cX11_put 22 = .ok (.lconst 0, 1) := by decide +kernel
theorem dX11_put_23 : decode cX11_put 23 = .ok (.aload_n 0, 1) := by decide +kernel
theorem dX11_put_24 : decode cX11_put 24 = .ok (.getfield 43, 3) := by decide +kernel
theorem dX11_put_27 : decode cX11_put 27 = .ok (.iload_n 1, 1) := by decide +kernel
theorem dX11_put_28 : decode cX11_put 28 = .ok (.iaload, 1) := by decide +kernel
theorem dX11_put_29 : decode cX11_put 29 = .ok (.iconst 1, 1) := by decide +kernel
theorem dX11_put_30 : decode cX11_put 30 = .ok (.isub, 1) := by decide +kernel
theorem dX11_put_31 : decode cX11_put 31 = .ok (.i2l, 1) := by decide +kernel
theorem dX11_put_32 : decode cX11_put 32 = .ok (.invokestatic 81, 3) := by decide +kernel
theorem dX11_put_35 : decode cX11_put 35 = .ok (.ifCond .ne 6, 3) := by decide +kernel
theorem dX11_put_38 : decode cX11_put 38 = .ok (.bipush (-13), 2) := by decide +kernel
theorem dX11_put_40 : decode cX11_put 40 = .ok (.ireturn, 1) := by decide +kernel
theorem dX11_put_41 : decode cX11_put 41 = .ok (.aload_n 0, 1) := by decide +kernel
theorem dX11_put_42 : decode cX11_put 42 = .ok (.getfield 46, 3) := by decide +kernel
theorem dX11_put_45 : decode cX11_put 45 = .ok (.bipush 100, 2) := by decide +kernel
theorem dX11_put_47 : decode cX11_put 47 = .ok (.iload_n 1, 1) := by decide +kernel
theorem dX11_put_48 : decode cX11_put 48 = .ok (.imul, 1) := by decide +kernel
theorem dX11_put_49 : decode cX11_put 49 = .ok (.iload_n 2, 1) := by decide +kernel
theorem dX11_put_50 : decode cX11_put 50 = .ok (.iadd, 1) := by decide +kernel
theorem dX11_put_51 : decode cX11_put 51 = .ok (.iload_n 3, 1) := by decide +kernel
theorem dX11_put_52 : decode cX11_put 52 = .ok (.aload_n 0, 1) := by decide +kernel
theorem dX11_put_53 : decode cX11_put 53 = .ok (.getfield 40, 3) := by decide +kernel
theorem dX11_put_56 : decode cX11_put 56 = .ok (.iload_n 1, 1) := by decide +kernel
theorem dX11_put_57 : decode cX11_put 57 = .ok (.iaload, 1) := by decide +kernel
theorem dX11_put_58 : decode cX11_put 58 = .ok (.invokestatic 338, 3) := by decide +kernel
theorem dX11_put_61 : decode cX11_put 61 = .ok (.lastore, 1) := by decide +kernel
theorem dX11_put_62 : decode cX11_put 62 = .ok (.iconst 0, 1) := by decide +kernel
theorem dX11_put_63 : decode cX11_put 63 = .ok (.ireturn, 1) := by decide +kernel
/-! put -/
def X11_put (st : MS) (v1 : Int32) (v2 : Int32) (v3 : Int32) : Option (Int32 × MS) :=
    nm (sF st 17 (0 : Int32)) fun st_1 =>
    bnd (X11_wrongRow st_1 v1) fun y_3 st_2 =>
    if 0 ≤ y_3 then
      (inr v1 8 <|
      bd1 (X11_in (v2.toInt64) (0 : Int64) (((gA st_2 15 v1.toNatClampNeg) - (1 : Int32)).toInt64)) fun y_7 =>
      if y_7 = 0 then
        (some ((-13 : Int32), st_2))
      else
      inr v1 8 <|
      bd1 (X11_narrowed v3 (gA st_2 14 v1.toNatClampNeg)) fun y_11 =>
      inr (((100 : Int32) * v1) + v2) 800 <|
      nm (sL st_2 16 (((100 : Int32) * v1) + v2).toNatClampNeg y_11) fun st_14 =>
      some ((0 : Int32), st_14))
    else
    some (y_3, st_2)
abbrev rmX11_put : Room := { frames := 2, cells := 0, slots := 0, locals := 46 }
theorem hdX11_put : yX11_put.cls = RX11 ∧ yX11_put.cls ≠ "java/lang/invoke/MethodHandle" ∧ yX11_put.cls ≠ "java/lang/invoke/VarHandle" ∧ (parseMethodDescriptor yX11_put.desc).map (fun d => d.parameters.length) = some 3 := by decide +kernel
set_option maxRecDepth 100000 in
set_option maxHeartbeats 4000000 in
theorem okX11_put (l : Launch) (D : va_G) (a : Nat → Nat) (T : mT3) {st : MS} {v1 : Int32} {v2 : Int32} {v3 : Int32} {r : Int32} {st' : MS} (heq : X11_put st v1 v2 v3 = some (r, st')) : gCi l D (mT T) yX11_put wsX11_put rmX11_put [.ref (a 0), .int v1, .int v2, .int v3] (mW a T st) r (mW a T st') := by
  refine g_body_i (by decide) rfl (Nat.le_of_ble_eq_true rfl) (fun p e s m args below meth c A Q hx hb hml hown hts hK hA hret ls hP hD hS hl => ?_)
  have hl : lv_has ls 5 [(0, .ref (a 0)), (1, .int v1), (2, .int v2), (3, .int v3)] := hl
  have hin : ∀ w ∈ wsX110, w ∈ wsX11_put := fun w h => List.mem_cons_of_mem _ (List.mem_append_right _ h)
  have f40 : (Cond.fieldLink RX11 40 RX11 (TX11 14).2.1 (TX11 14).2.2.1).before args s = true := hts (.fieldLink RX11 40 "LaidDownTheLaneModel" "rowSort" "[I") (by decide +kernel)
  have f43 : (Cond.fieldLink RX11 43 RX11 (TX11 15).2.1 (TX11 15).2.2.1).before args s = true := hts (.fieldLink RX11 43 "LaidDownTheLaneModel" "rowMany" "[I") (by decide +kernel)
  have f46 : (Cond.fieldLink RX11 46 RX11 (TX11 16).2.1 (TX11 16).2.2.1).before args s = true := hts (.fieldLink RX11 46 "LaidDownTheLaneModel" "rows" "[J") (by decide +kernel)
  have f75 : (Cond.fieldLink RX11 75 RX11 (TX11 17).2.1 (TX11 17).2.2.1).before args s = true := hts (.fieldLink RX11 75 "LaidDownTheLaneModel" "thrown" "I") (by decide +kernel)
  obtain ⟨H, hH⟩ : ∃ H, H = s.heap := ⟨_, rfl⟩
  obtain ⟨locs, hlocs⟩ : ∃ z : List Loc, z = [] := ⟨_, rfl⟩
  have hS : va_S A s.heap H locs := by rw [hH, hlocs]; exact hS
  have hP : va_P D vwCl (mW a T st) H := by rw [hH]; exact hP
  suffices h9 : W p l e rmX11_put s m args below meth c H locs 0 0 Q (F0 m 0 ls []) by rw [hH, hlocs] at h9; exact h9
  clear hH hlocs
  unfold X11_put at heq
  refine lv_aload_n hx hb dX11_put_0 rfl (lv_at hl 0 rfl) ?_
  refine lv_iconst (v := (0 : Int32)) hx hb dX11_put_1 (by decide) ?_
  refine mp (k := 17) hx hb hts hin hown hK hP hD hS (by decide) f75 dX11_put_2 rfl rfl rfl rfl (mset_17 ..) (fun H locs hP hD hS => ?_)
  obtain ⟨st_1, est_1⟩ : ∃ z, z = sF st 17 (0 : Int32) := ⟨_, rfl⟩
  rw [← est_1] at hP hD
  have heq := nm_h est_1 heq
  refine lv_aload_n hx hb dX11_put_5 rfl (lv_at hl 0 rfl) ?_
  refine lv_iload_n hx hb dX11_put_6 rfl (lv_at hl 1 rfl) ?_
  obtain ⟨y_3, st_2, h_4, heq⟩ := bnd_h heq
  refine g_vi (own := RX11) (As := [.int v1]) (rest := []) hx hb hml hown hts (okX11_wrongRow l D a T h_4) (cwV 1 hts gX11_put_X11_wrongRow rfl rfl rfl hdX11_wrongRow ⟨Nat.le_of_ble_eq_true rfl, Nat.le_of_ble_eq_true rfl⟩) hK hA hP hD hS (ci := 11) (q0 := 0) rfl rfl rfl hl.1 rfl (Nat.le_of_ble_eq_true rfl) dX11_put_7 ⟨Nat.le_of_ble_eq_true rfl, Nat.le_of_ble_eq_true rfl⟩ (fun H locs hP hD hS => ?_)
  refine lv_istore (lv' := [(4, .int y_3), (0, .ref (a 0)), (1, .int v1), (2, .int v2), (3, .int v3)]) hx hb dX11_put_10 hl (by decide) rfl (fun ls hl => ?_)
  refine lv_iload hx hb dX11_put_12 (lv_at hl 0 rfl) ?_
  refine lv_if_ge (tgt := 20) hx hb dX11_put_14 (by decide) (fun c_5 => ?_) (fun c_5 => ?_)
  · have heq := it_t c_5 heq
    refine lv_iload_n hx hb dX11_put_20 rfl (lv_at hl 3 rfl) ?_
    refine lv_i2l hx hb dX11_put_21 rfl ?_
    refine lv_lconst (v := (0 : Int64)) hx hb dX11_put_22 (by decide) ?_
    refine lv_aload_n hx hb dX11_put_23 rfl (lv_at hl 1 rfl) ?_
    refine mg (k := 15) (v := .ref (a 12)) hx hb hts hin hown hK hP (by decide) f43 rfl dX11_put_24 rfl ?_
    refine lv_iload_n hx hb dX11_put_27 rfl (lv_at hl 2 rfl) ?_
    obtain ⟨n_6, heq⟩ := inr_h heq
    refine mal (k := 15) (q := 12) (n := 8) hx hb hK hP rfl n_6 dX11_put_28 ?_
    refine lv_iconst (v := (1 : Int32)) hx hb dX11_put_29 (by decide) ?_
    refine lv_isub hx hb dX11_put_30 ?_
    refine lv_i2l hx hb dX11_put_31 rfl ?_
    obtain ⟨y_7, h_8, heq⟩ := bd1_h heq
    refine g_si (own := RX11) (D := D) (As := [.long (v2.toInt64), .long (0 : Int64), .long (((gA st_2 15 v1.toNatClampNeg) - (1 : Int32)).toInt64)]) (rest := []) hx hb hml hown hts (okX11_in l D h_8) (cwS 3 hts gX11_put_X11_in rfl rfl rfl hdX11_in ⟨Nat.le_of_ble_eq_true rfl, Nat.le_of_ble_eq_true rfl⟩) hK hA hP hS rfl hl.1 rfl (Nat.le_of_ble_eq_true rfl) dX11_put_32 ⟨Nat.le_of_ble_eq_true rfl, Nat.le_of_ble_eq_true rfl⟩ (fun H locs hP hS => ?_)
    refine lv_if_ne (tgt := 41) hx hb dX11_put_35 (by decide) (fun c_9 => ?_) (fun c_9 => ?_)
    · have heq := it_f c_9 heq
      refine lv_aload_n hx hb dX11_put_41 rfl (lv_at hl 1 rfl) ?_
      refine mg (k := 16) (v := .ref (a 13)) hx hb hts hin hown hK hP (by decide) f46 rfl dX11_put_42 rfl ?_
      refine lv_bipush (v := (100 : Int32)) hx hb dX11_put_45 (by decide) ?_
      refine lv_iload_n hx hb dX11_put_47 rfl (lv_at hl 2 rfl) ?_
      refine lv_imul hx hb dX11_put_48 ?_
      refine lv_iload_n hx hb dX11_put_49 rfl (lv_at hl 3 rfl) ?_
      refine lv_iadd hx hb dX11_put_50 ?_
      refine lv_iload_n hx hb dX11_put_51 rfl (lv_at hl 4 rfl) ?_
      refine lv_aload_n hx hb dX11_put_52 rfl (lv_at hl 1 rfl) ?_
      refine mg (k := 14) (v := .ref (a 11)) hx hb hts hin hown hK hP (by decide) f40 rfl dX11_put_53 rfl ?_
      refine lv_iload_n hx hb dX11_put_56 rfl (lv_at hl 2 rfl) ?_
      obtain ⟨n_10, heq⟩ := inr_h heq
      refine mal (k := 14) (q := 11) (n := 8) hx hb hK hP rfl n_10 dX11_put_57 ?_
      obtain ⟨y_11, h_12, heq⟩ := bd1_h heq
      refine g_sl (own := RX11) (D := D) (As := [.int v3, .int (gA st_2 14 v1.toNatClampNeg)]) (rest := [.int (((100 : Int32) * v1) + v2), .ref (a 13)]) hx hb hml hown hts (okX11_narrowed l D h_12) (cwS 2 hts gX11_put_X11_narrowed rfl rfl rfl hdX11_narrowed ⟨Nat.le_of_ble_eq_true rfl, Nat.le_of_ble_eq_true rfl⟩) hK hA hP hS rfl hl.1 rfl (Nat.le_of_ble_eq_true rfl) dX11_put_58 ⟨Nat.le_of_ble_eq_true rfl, Nat.le_of_ble_eq_true rfl⟩ (fun H locs hP hS => ?_)
      obtain ⟨n_13, heq⟩ := inr_h heq
      refine mls (k := 16) (q := 13) (n := 800) hx hb hK hP hD hS rfl (maset_16 ..) n_13 dX11_put_61 (fun H locs hP hD hS => ?_)
      obtain ⟨st_14, est_14⟩ : ∃ z, z = sL st_2 16 (((100 : Int32) * v1) + v2).toNatClampNeg y_11 := ⟨_, rfl⟩
      rw [← est_14] at hP hD
      have heq := nm_h est_14 heq
      refine lv_iconst (v := (0 : Int32)) hx hb dX11_put_62 (by decide) ?_
      obtain ⟨heq, heq2⟩ := ret_h heq
      subst heq
      subst heq2
      exact hret 63 H locs ls hP hD hS rfl dX11_put_63
    have heq := it_t c_9 heq
    refine lv_bipush (v := (-13 : Int32)) hx hb dX11_put_38 (by decide) ?_
    obtain ⟨heq, heq2⟩ := ret_h heq
    subst heq
    subst heq2
    exact hret 40 H locs ls hP hD hS rfl dX11_put_40
  have heq := it_f c_5 heq
  refine lv_iload hx hb dX11_put_17 (lv_at hl 0 rfl) ?_
  obtain ⟨heq, heq2⟩ := ret_h heq
  subst heq
  subst heq2
  exact hret 19 H locs ls hP hD hS rfl dX11_put_19
set_option maxRecDepth 20000 in
theorem ggX11_element_X11_wrongRow : GoodIn wsX11_element wsX11_wrongRow := goodIn_r _ [8, 9, 10, 11, 12, 7, 13, 14, 15, 16, 17, 18, 19, 20, 21, 22, 23, 24, 25, 26, 27, 28, 29, 30, 31, 32, 33, 34, 35, 36, 37, 38, 39, 40, 41, 42, 43, 44, 45, 46, 47, 48, 49, 50] (by decide +kernel) (by decide +kernel)
set_option maxRecDepth 20000 in
theorem gX11_element_X11_wrongRow : GoodIn wsX11_element (wsV RX11 194 RX11 yX11_wrongRow wsX11_wrongRow) := goodIn_app (goodIn_of _ (by decide +kernel)) ggX11_element_X11_wrongRow
set_option maxRecDepth 20000 in
theorem ggX11_element_X11_in : GoodIn wsX11_element wsX11_in := goodIn_r _ [13] (by decide +kernel) (by decide +kernel)
set_option maxRecDepth 20000 in
theorem gX11_element_X11_in : GoodIn wsX11_element (va_wsS RX11 81 yX11_in wsX11_in) := goodIn_app (goodIn_of _ (by decide +kernel)) ggX11_element_X11_in
theorem dX11_element_0 : decode cX11_element 0 = .ok (.aload_n 0, 1) := by decide +kernel
theorem dX11_element_1 : decode cX11_element 1 = .ok (.iload_n 1, 1) := by decide +kernel
theorem dX11_element_2 : decode cX11_element 2 = .ok (.invokevirtual 194, 3) := by decide +kernel
theorem dX11_element_5 : decode cX11_element 5 = .ok (.istore_n 3, 1) := by decide +kernel
theorem dX11_element_6 : decode cX11_element 6 = .ok (.aload_n 0, 1) := by decide +kernel
theorem dX11_element_7 : decode cX11_element 7 = .ok (.iload_n 3, 1) := by decide +kernel
theorem dX11_element_8 : decode cX11_element 8 = .ok (.iconst (-1), 1) := by decide +kernel
theorem dX11_element_9 : decode cX11_element 9 = .ok (.if_icmp .ne 7, 3) := by decide +kernel
theorem dX11_element_12 : decode cX11_element 12 = .ok (.iconst 1, 1) := by decide +kernel
theorem dX11_element_13 : decode cX11_element 13 = .ok (.goto 30, 3) := by decide +kernel
theorem dX11_element_16 : decode cX11_element 16 = .ok (.iload_n 3, 1) := by decide +kernel
theorem dX11_element_17 : decode cX11_element 17 = .ok (.ifCond .lt 21, 3) := by decide +kernel
theorem dX11_element_20 : decode cX11_element 20 = .ok (.iload_n 2, 1) := by decide +kernel
theorem dX11_element_21 : decode cX11_element 21 = .ok (.i2l, 1) := by decide +kernel
theorem dX11_element_22 : decode cX11_element 22 = .ok (.lconst 0, 1) := by decide +kernel
theorem dX11_element_23 : decode cX11_element 23 = .ok (.aload_n 0, 1) := by decide +kernel
theorem dX11_element_24 : decode cX11_element 24 = .ok (.getfield 43, 3) := by decide +kernel
theorem dX11_element_27 : decode cX11_element 27 = .ok (.iload_n 1, 1) := by decide +kernel
theorem dX11_element_28 : decode cX11_element 28 = .ok (.iaload, 1) := by decide +kernel
theorem dX11_element_29 : decode cX11_element 29 = .ok (.iconst 1, 1) := by decide +kernel
theorem dX11_element_30 : decode cX11_element 30 = .ok (.isub, 1) := by decide +kernel
theorem dX11_element_31 : decode cX11_element 31 = .ok (.i2l, 1) := by decide +kernel
theorem dX11_element_32 : decode cX11_element 32 = .ok (.invokestatic 81, 3) := by decide +kernel
theorem dX11_element_35 : decode cX11_element 35 = .ok (.ifCond .ne 7, 3) := by decide +kernel
theorem dX11_element_38 : decode cX11_element 38 = .ok (.iconst 2, 1) := by decide +kernel
theorem dX11_element_39 : decode cX11_element 39 = .ok (.goto 4, 3) := by decide +kernel
theorem dX11_element_42 : decode cX11_element 42 = .ok (.iconst 0, 1) := by decide +kernel
theorem dX11_element_43 : decode cX11_element 43 = .ok (.putfield 75, 3) := by decide +kernel
theorem dX11_element_46 : decode cX11_element 46 = .ok (.aload_n 0, 1) := by decide +kernel
theorem dX11_element_47 : decode cX11_element 47 = .ok (.getfield 75, 3) := by decide +kernel
theorem dX11_element_50 : decode cX11_element 50 = .ok (.ifCond .le 7, 3) := by decide +kernel
theorem dX11_element_53 : decode cX11_element 53 = .ok (.lconst 0, 1) := by decide +kernel
theorem dX11_element_54 : decode cX11_element 54 = .ok (.goto 14, 3) := by decide +kernel
theorem dX11_element_57 : decode cX11_element 57 = .ok (.aload_n 0, 1) := by decide +kernel
theorem dX11_element_58 : decode cX11_element 58 = .ok (.getfield 46, 3) := by decide +kernel
theorem dX11_element_61 : decode cX11_element 61 = .ok (.bipush 100, 2) := by decide +kernel
theorem dX11_element_63 : decode cX11_element 63 = .ok (.iload_n 1, 1) := by decide +kernel
theorem dX11_element_64 : decode cX11_element 64 = .ok (.imul, 1) := by decide +kernel
theorem dX11_element_65 : decode cX11_element 65 = .ok (.iload_n 2, 1) := by decide +kernel
theorem dX11_element_66 : decode cX11_element 66 = .ok (.iadd, 1) := by decide +kernel
theorem dX11_element_67 : decode cX11_element 67 = .ok (.laload, 1) := by decide +kernel
theorem dX11_element_68 : decode cX11_element 68 = .ok (.lreturn, 1) := by decide +kernel
/-! element -/
def X11_element_p68 (st : MS) (t0 : Int64) : Option (Int64 × MS) :=
    some (t0, st)
def X11_element_p43 (st : MS) (v1 : Int32) (v2 : Int32) (t1 : Int32) : Option (Int64 × MS) :=
    nm (sF st 17 t1) fun st_1 =>
    if (gF st_1 17) ≤ 0 then
      (inr (((100 : Int32) * v1) + v2) 800 <|
      X11_element_p68 st_1 (gL st_1 16 (((100 : Int32) * v1) + v2).toNatClampNeg))
    else
    X11_element_p68 st_1 (0 : Int64)
def X11_element_p38 (st : MS) (v1 : Int32) (v2 : Int32) : Option (Int64 × MS) :=
    X11_element_p43 st v1 v2 (2 : Int32)
def X11_element (st : MS) (v1 : Int32) (v2 : Int32) : Option (Int64 × MS) :=
    bnd (X11_wrongRow st v1) fun y_5 st_4 =>
    if y_5 = (-1 : Int32) then
      (X11_element_p43 st_4 v1 v2 (1 : Int32))
    else
    if y_5 < 0 then
      (X11_element_p38 st_4 v1 v2)
    else
    inr v1 8 <|
    bd1 (X11_in (v2.toInt64) (0 : Int64) (((gA st_4 15 v1.toNatClampNeg) - (1 : Int32)).toInt64)) fun y_10 =>
    if y_10 = 0 then
      (X11_element_p38 st_4 v1 v2)
    else
    X11_element_p43 st_4 v1 v2 (0 : Int32)
abbrev rmX11_element : Room := { frames := 2, cells := 0, slots := 0, locals := 46 }
theorem hdX11_element : yX11_element.cls = RX11 ∧ yX11_element.cls ≠ "java/lang/invoke/MethodHandle" ∧ yX11_element.cls ≠ "java/lang/invoke/VarHandle" ∧ (parseMethodDescriptor yX11_element.desc).map (fun d => d.parameters.length) = some 2 := by decide +kernel
set_option maxRecDepth 100000 in
set_option maxHeartbeats 4000000 in
theorem okX11_element (l : Launch) (D : va_G) (a : Nat → Nat) (T : mT3) {st : MS} {v1 : Int32} {v2 : Int32} {r : Int64} {st' : MS} (heq : X11_element st v1 v2 = some (r, st')) : gCl l D (mT T) yX11_element wsX11_element rmX11_element [.ref (a 0), .int v1, .int v2] (mW a T st) r (mW a T st') := by
  refine g_body_l (by decide) rfl (Nat.le_of_ble_eq_true rfl) (fun p e s m args below meth c A Q hx hb hml hown hts hK hA hret ls hP hD hS hl => ?_)
  have hl : lv_has ls 4 [(0, .ref (a 0)), (1, .int v1), (2, .int v2)] := hl
  have hin : ∀ w ∈ wsX110, w ∈ wsX11_element := fun w h => List.mem_cons_of_mem _ (List.mem_append_right _ h)
  have f43 : (Cond.fieldLink RX11 43 RX11 (TX11 15).2.1 (TX11 15).2.2.1).before args s = true := hts (.fieldLink RX11 43 "LaidDownTheLaneModel" "rowMany" "[I") (by decide +kernel)
  have f46 : (Cond.fieldLink RX11 46 RX11 (TX11 16).2.1 (TX11 16).2.2.1).before args s = true := hts (.fieldLink RX11 46 "LaidDownTheLaneModel" "rows" "[J") (by decide +kernel)
  have f75 : (Cond.fieldLink RX11 75 RX11 (TX11 17).2.1 (TX11 17).2.2.1).before args s = true := hts (.fieldLink RX11 75 "LaidDownTheLaneModel" "thrown" "I") (by decide +kernel)
  have b68 : ∀ (st : MS) (t0 : Int64) (H : Heap) (locs : List Loc) (ls : Array Slot), va_P D vwCl (mW a T st) H → va_D A (mW a T st) → va_S A s.heap H locs → lv_has ls 4 [] → X11_element_p68  st t0 = some (r, st') → W p l e rmX11_element s m args below meth c H locs 0 0 Q (F0 m 68 ls [.long t0]) := by
    intro st t0 H locs ls hP hD hS hl heq
    unfold X11_element_p68 at heq
    obtain ⟨heq, heq2⟩ := ret_h heq
    subst heq
    subst heq2
    exact hret 68 H locs ls hP hD hS dX11_element_68
  have b43 : ∀ (st : MS) (v1 : Int32) (v2 : Int32) (t1 : Int32) (H : Heap) (locs : List Loc) (ls : Array Slot), va_P D vwCl (mW a T st) H → va_D A (mW a T st) → va_S A s.heap H locs → lv_has ls 4 [(0, .ref (a 0)), (1, .int v1), (2, .int v2)] → X11_element_p43  st v1 v2 t1 = some (r, st') → W p l e rmX11_element s m args below meth c H locs 0 0 Q (F0 m 43 ls [.int t1, .ref (a 0)]) := by
    intro st v1 v2 t1 H locs ls hP hD hS hl heq
    unfold X11_element_p43 at heq
    refine mp (k := 17) hx hb hts hin hown hK hP hD hS (by decide) f75 dX11_element_43 rfl rfl rfl rfl (mset_17 ..) (fun H locs hP hD hS => ?_)
    obtain ⟨st_1, est_1⟩ : ∃ z, z = sF st 17 t1 := ⟨_, rfl⟩
    rw [← est_1] at hP hD
    have heq := nm_h est_1 heq
    refine lv_aload_n hx hb dX11_element_46 rfl (lv_at hl 0 rfl) ?_
    refine mg (k := 17) (v := .int (gF st_1 17)) hx hb hts hin hown hK hP (by decide) f75 rfl dX11_element_47 rfl ?_
    refine lv_if_le (tgt := 57) hx hb dX11_element_50 (by decide) (fun c_2 => ?_) (fun c_2 => ?_)
    · have heq := it_t c_2 heq
      refine lv_aload_n hx hb dX11_element_57 rfl (lv_at hl 0 rfl) ?_
      refine mg (k := 16) (v := .ref (a 13)) hx hb hts hin hown hK hP (by decide) f46 rfl dX11_element_58 rfl ?_
      refine lv_bipush (v := (100 : Int32)) hx hb dX11_element_61 (by decide) ?_
      refine lv_iload_n hx hb dX11_element_63 rfl (lv_at hl 1 rfl) ?_
      refine lv_imul hx hb dX11_element_64 ?_
      refine lv_iload_n hx hb dX11_element_65 rfl (lv_at hl 2 rfl) ?_
      refine lv_iadd hx hb dX11_element_66 ?_
      obtain ⟨n_3, heq⟩ := inr_h heq
      refine mll (k := 16) (q := 13) (n := 800) hx hb hK hP rfl n_3 dX11_element_67 ?_
      exact b68 st_1 (gL st_1 16 (((100 : Int32) * v1) + v2).toNatClampNeg) H locs ls hP hD hS (lv_sub hl [] rfl) heq
    have heq := it_f c_2 heq
    refine lv_lconst (v := (0 : Int64)) hx hb dX11_element_53 (by decide) ?_
    refine lv_goto (tgt := 68) hx hb dX11_element_54 (by decide) ?_
    exact b68 st_1 (0 : Int64) H locs ls hP hD hS (lv_sub hl [] rfl) heq
  have b38 : ∀ (st : MS) (v1 : Int32) (v2 : Int32) (H : Heap) (locs : List Loc) (ls : Array Slot), va_P D vwCl (mW a T st) H → va_D A (mW a T st) → va_S A s.heap H locs → lv_has ls 4 [(0, .ref (a 0)), (1, .int v1), (2, .int v2)] → X11_element_p38  st v1 v2 = some (r, st') → W p l e rmX11_element s m args below meth c H locs 0 0 Q (F0 m 38 ls [.ref (a 0)]) := by
    intro st v1 v2 H locs ls hP hD hS hl heq
    unfold X11_element_p38 at heq
    refine lv_iconst (v := (2 : Int32)) hx hb dX11_element_38 (by decide) ?_
    refine lv_goto (tgt := 43) hx hb dX11_element_39 (by decide) ?_
    exact b43 st v1 v2 (2 : Int32) H locs ls hP hD hS (lv_sub hl [0, 1, 2] rfl) heq
  obtain ⟨H, hH⟩ : ∃ H, H = s.heap := ⟨_, rfl⟩
  obtain ⟨locs, hlocs⟩ : ∃ z : List Loc, z = [] := ⟨_, rfl⟩
  have hS : va_S A s.heap H locs := by rw [hH, hlocs]; exact hS
  have hP : va_P D vwCl (mW a T st) H := by rw [hH]; exact hP
  suffices h9 : W p l e rmX11_element s m args below meth c H locs 0 0 Q (F0 m 0 ls []) by rw [hH, hlocs] at h9; exact h9
  clear hH hlocs
  unfold X11_element at heq
  refine lv_aload_n hx hb dX11_element_0 rfl (lv_at hl 0 rfl) ?_
  refine lv_iload_n hx hb dX11_element_1 rfl (lv_at hl 1 rfl) ?_
  obtain ⟨y_5, st_4, h_6, heq⟩ := bnd_h heq
  refine g_vi (own := RX11) (As := [.int v1]) (rest := []) hx hb hml hown hts (okX11_wrongRow l D a T h_6) (cwV 1 hts gX11_element_X11_wrongRow rfl rfl rfl hdX11_wrongRow ⟨Nat.le_of_ble_eq_true rfl, Nat.le_of_ble_eq_true rfl⟩) hK hA hP hD hS (ci := 11) (q0 := 0) rfl rfl rfl hl.1 rfl (Nat.le_of_ble_eq_true rfl) dX11_element_2 ⟨Nat.le_of_ble_eq_true rfl, Nat.le_of_ble_eq_true rfl⟩ (fun H locs hP hD hS => ?_)
  refine lv_istore_n (lv' := [(3, .int y_5), (0, .ref (a 0)), (1, .int v1), (2, .int v2)]) hx hb dX11_element_5 rfl hl (by decide) rfl (fun ls hl => ?_)
  refine lv_aload_n hx hb dX11_element_6 rfl (lv_at hl 1 rfl) ?_
  refine lv_iload_n hx hb dX11_element_7 rfl (lv_at hl 0 rfl) ?_
  refine lv_iconst (v := (-1 : Int32)) hx hb dX11_element_8 (by decide) ?_
  refine lv_icmp_ne (tgt := 16) hx hb dX11_element_9 (by decide) (fun c_7 => ?_) (fun c_7 => ?_)
  · have heq := it_f c_7 heq
    refine lv_iload_n hx hb dX11_element_16 rfl (lv_at hl 0 rfl) ?_
    refine lv_if_lt (tgt := 38) hx hb dX11_element_17 (by decide) (fun c_8 => ?_) (fun c_8 => ?_)
    · have heq := it_t c_8 heq
      exact b38 st_4 v1 v2 H locs ls hP hD hS (lv_sub hl [1, 2, 3] rfl) heq
    have heq := it_f c_8 heq
    refine lv_iload_n hx hb dX11_element_20 rfl (lv_at hl 3 rfl) ?_
    refine lv_i2l hx hb dX11_element_21 rfl ?_
    refine lv_lconst (v := (0 : Int64)) hx hb dX11_element_22 (by decide) ?_
    refine lv_aload_n hx hb dX11_element_23 rfl (lv_at hl 1 rfl) ?_
    refine mg (k := 15) (v := .ref (a 12)) hx hb hts hin hown hK hP (by decide) f43 rfl dX11_element_24 rfl ?_
    refine lv_iload_n hx hb dX11_element_27 rfl (lv_at hl 2 rfl) ?_
    obtain ⟨n_9, heq⟩ := inr_h heq
    refine mal (k := 15) (q := 12) (n := 8) hx hb hK hP rfl n_9 dX11_element_28 ?_
    refine lv_iconst (v := (1 : Int32)) hx hb dX11_element_29 (by decide) ?_
    refine lv_isub hx hb dX11_element_30 ?_
    refine lv_i2l hx hb dX11_element_31 rfl ?_
    obtain ⟨y_10, h_11, heq⟩ := bd1_h heq
    refine g_si (own := RX11) (D := D) (As := [.long (v2.toInt64), .long (0 : Int64), .long (((gA st_4 15 v1.toNatClampNeg) - (1 : Int32)).toInt64)]) (rest := [.ref (a 0)]) hx hb hml hown hts (okX11_in l D h_11) (cwS 3 hts gX11_element_X11_in rfl rfl rfl hdX11_in ⟨Nat.le_of_ble_eq_true rfl, Nat.le_of_ble_eq_true rfl⟩) hK hA hP hS rfl hl.1 rfl (Nat.le_of_ble_eq_true rfl) dX11_element_32 ⟨Nat.le_of_ble_eq_true rfl, Nat.le_of_ble_eq_true rfl⟩ (fun H locs hP hS => ?_)
    refine lv_if_ne (tgt := 42) hx hb dX11_element_35 (by decide) (fun c_12 => ?_) (fun c_12 => ?_)
    · have heq := it_f c_12 heq
      refine lv_iconst (v := (0 : Int32)) hx hb dX11_element_42 (by decide) ?_
      exact b43 st_4 v1 v2 (0 : Int32) H locs ls hP hD hS (lv_sub hl [1, 2, 3] rfl) heq
    have heq := it_t c_12 heq
    exact b38 st_4 v1 v2 H locs ls hP hD hS (lv_sub hl [1, 2, 3] rfl) heq
  have heq := it_t c_7 heq
  refine lv_iconst (v := (1 : Int32)) hx hb dX11_element_12 (by decide) ?_
  refine lv_goto (tgt := 43) hx hb dX11_element_13 (by decide) ?_
  exact b43 st_4 v1 v2 (1 : Int32) H locs ls hP hD hS (lv_sub hl [1, 2, 3] rfl) heq
set_option maxRecDepth 20000 in
theorem ggX11_copy_X11_in : GoodIn wsX11_copy wsX11_in := goodIn_r _ [11] (by decide +kernel) (by decide +kernel)
set_option maxRecDepth 20000 in
theorem gX11_copy_X11_in : GoodIn wsX11_copy (va_wsS RX11 81 yX11_in wsX11_in) := goodIn_app (goodIn_of _ (by decide +kernel)) ggX11_copy_X11_in
theorem dX11_copy_0 : decode cX11_copy 0 = .ok (.aload_n 0, 1) := by decide +kernel
theorem dX11_copy_1 : decode cX11_copy 1 = .ok (.iconst 0, 1) := by decide +kernel
theorem dX11_copy_2 : decode cX11_copy 2 = .ok (.putfield 75, 3) := by decide +kernel
theorem dX11_copy_5 : decode cX11_copy 5 = .ok (.iload_n 1, 1) := by decide +kernel
theorem dX11_copy_6 : decode cX11_copy 6 = .ok (.i2l, 1) := by decide +kernel
theorem dX11_copy_7 : decode cX11_copy 7 = .ok (.lconst 0, 1) := by decide +kernel
theorem dX11_copy_8 : decode cX11_copy 8 = .ok (.ldc2_w 228, 3) := by decide +kernel
theorem dX11_copy_11 : decode cX11_copy 11 = .ok (.invokestatic 81, 3) := by decide +kernel
theorem dX11_copy_14 : decode cX11_copy 14 = .ok (.ifCond .eq 15, 3) := by decide +kernel
theorem dX11_copy_17 : decode cX11_copy 17 = .ok (.iload_n 3, 1) := by decide +kernel
theorem dX11_copy_18 : decode cX11_copy 18 = .ok (.i2l, 1) := by decide +kernel
theorem dX11_copy_19 : decode cX11_copy 19 = .ok (.lconst 0, 1) := by decide +kernel
theorem dX11_copy_20 : decode cX11_copy 20 = .ok (.ldc2_w 228, 3) := by decide +kernel
theorem dX11_copy_23 : decode cX11_copy 23 = .ok (.invokestatic 81, 3) := by decide +kernel
theorem dX11_copy_26 : decode cX11_copy 26 = .ok (.ifCond .ne 5, 3) := by decide +kernel
theorem dX11_copy_29 : decode cX11_copy 29 = .ok (.iconst (-1), 1) := by decide +kernel
theorem dX11_copy_30 : decode cX11_copy 30 = .ok (.ireturn, 1) := by decide +kernel
theorem dX11_copy_31 : decode cX11_copy 31 = .ok (.aload_n 0, 1) := by decide +kernel
theorem dX11_copy_32 : decode cX11_copy 32 = .ok (.getfield 31, 3) := by decide +kernel
theorem dX11_copy_35 : decode cX11_copy 35 = .ok (.iload_n 1, 1) := by decide +kernel
theorem dX11_copy_36 : decode cX11_copy 36 = .ok (.iaload, 1) := by decide +kernel
theorem dX11_copy_37 : decode cX11_copy 37 = .ok (.ifCond .eq 12, 3) := by decide +kernel
theorem dX11_copy_40 : decode cX11_copy 40 = .ok (.aload_n 0, 1) := by decide +kernel
theorem dX11_copy_41 : decode cX11_copy 41 = .ok (.getfield 31, 3) := by decide +kernel
theorem dX11_copy_44 : decode cX11_copy 44 = .ok (.iload_n 3, 1) := by decide +kernel
theorem dX11_copy_45 : decode cX11_copy 45 = .ok (.iaload, 1) := by decide +kernel
theorem dX11_copy_46 : decode cX11_copy 46 = .ok (.ifCond .ne 6, 3) := by decide +kernel
theorem dX11_copy_49 : decode cX11_copy 49 = .ok (.bipush (-11), 2) := by decide +kernel
theorem dX11_copy_51 : decode cX11_copy 51 = .ok (.ireturn, 1) := by decide +kernel
theorem dX11_copy_52 : decode cX11_copy 52 = .ok (.aload_n 0, 1) := by decide +kernel
theorem dX11_copy_53 : decode cX11_copy 53 = .ok (.getfield 31, 3) := by decide +kernel
theorem dX11_copy_56 : decode cX11_copy 56 = .ok (.iload_n 1, 1) := by decide +kernel
theorem dX11_copy_57 : decode cX11_copy 57 = .ok (.iaload, 1) := by decide +kernel
theorem dX11_copy_58 : decode cX11_copy 58 = .ok (.iconst 2, 1) := by decide +kernel
theorem dX11_copy_59 : decode cX11_copy 59 = .ok (.if_icmp .ne 28, 3) := by decide +kernel
theorem dX11_copy_62 : decode cX11_copy 62 = .ok (.aload_n 0, 1) := by decide +kernel
theorem dX11_copy_63 : decode cX11_copy 63 = .ok (.getfield 31, 3) := by decide +kernel
theorem dX11_copy_66 : decode cX11_copy 66 = .ok (.iload_n 3, 1) := by decide +kernel
theorem dX11_copy_67 : decode cX11_copy 67 = .ok (.iaload, 1) := by decide +kernel
theorem dX11_copy_68 : decode cX11_copy 68 = .ok (.iconst 2, 1) := by decide +kernel
theorem dX11_copy_69 : decode cX11_copy 69 = .ok (.if_icmp .ne 18, 3) := by decide +kernel
theorem dX11_copy_72 : decode cX11_copy 72 = .ok (.aload_n 0, 1) := by decide +kernel
theorem dX11_copy_73 : decode cX11_copy 73 = .ok (.getfield 40, 3) := by decide +kernel
theorem dX11_copy_76 : decode cX11_copy 76 = .ok (.iload_n 1, 1) := by decide +kernel
theorem dX11_copy_77 : decode cX11_copy 77 = .ok (.iaload, 1) := by decide +kernel
theorem dX11_copy_78 : decode cX11_copy 78 = .ok (.aload_n 0, 1) := by decide +kernel
theorem dX11_copy_79 : decode cX11_copy 79 = .ok (.getfield 40, 3) := by decide +kernel
theorem dX11_copy_82 : decode cX11_copy 82 = .ok (.iload_n 3, 1) := by decide +kernel
theorem dX11_copy_83 : decode cX11_copy 83 = .ok (.iaload, 1) := by decide +kernel
theorem dX11_copy_84 : decode cX11_copy 84 = .ok (.if_icmp .eq 6, 3) := by decide +kernel
theorem dX11_copy_87 : decode cX11_copy 87 = .ok (.bipush (-12), 2) := by decide +kernel
theorem dX11_copy_89 : decode cX11_copy 89 = .ok (.ireturn, 1) := by decide +kernel
theorem dX11_copy_90 : decode cX11_copy 90 = .ok (.iload 5, 2) := by decide +kernel
theorem dX11_copy_92 : decode cX11_copy 92 = .ok (.ifCond .lt 39, 3) := by decide +kernel
theorem dX11_copy_95 : decode cX11_copy 95 = .ok (.iload_n 2, 1) := by decide +kernel
theorem dX11_copy_96 : decode cX11_copy 96 = .ok (.ifCond .lt 35, 3) := by decide +kernel
theorem dX11_copy_99 : decode cX11_copy 99 = .ok (.iload 4, 2) := by decide +kernel
theorem dX11_copy_101 : decode cX11_copy 101 = .ok (.ifCond .lt 30, 3) := by decide +kernel
theorem dX11_copy_104 : decode cX11_copy 104 = .ok (.iload_n 2, 1) := by decide +kernel
theorem dX11_copy_105 : decode cX11_copy 105 = .ok (.aload_n 0, 1) := by decide +kernel
theorem dX11_copy_106 : decode cX11_copy 106 = .ok (.getfield 43, 3) := by decide +kernel
theorem dX11_copy_109 : decode cX11_copy 109 = .ok (.iload_n 1, 1) := by decide +kernel
theorem dX11_copy_110 : decode cX11_copy 110 = .ok (.iaload, 1) := by decide +kernel
theorem dX11_copy_111 : decode cX11_copy 111 = .ok (.iload 5, 2) := by decide +kernel
theorem dX11_copy_113 : decode cX11_copy 113 = .ok (.isub, 1) := by decide +kernel
theorem dX11_copy_114 : decode cX11_copy 114 = .ok (.if_icmp .gt 17, 3) := by decide +kernel
theorem dX11_copy_117 : decode cX11_copy 117 = .ok (.iload 4, 2) := by decide +kernel
theorem dX11_copy_119 : decode cX11_copy 119 = .ok (.aload_n 0, 1) := by decide +kernel
theorem dX11_copy_120 : decode cX11_copy 120 = .ok (.getfield 43, 3) := by decide +kernel
theorem dX11_copy_123 : decode cX11_copy 123 = .ok (.iload_n 3, 1) := by decide +kernel
theorem dX11_copy_124 : decode cX11_copy 124 = .ok (.iaload, 1) := by decide +kernel
theorem dX11_copy_125 : decode cX11_copy 125 = .ok (.iload 5, 2) := by decide +kernel
theorem dX11_copy_127 : decode cX11_copy 127 = .ok (.isub, 1) := by decide +kernel
theorem dX11_copy_128 : decode cX11_copy 128 = .ok (.if_icmp .le 6, 3) := by decide +kernel
theorem dX11_copy_131 : decode cX11_copy 131 = .ok (.bipush (-13), 2) := by decide +kernel
theorem dX11_copy_133 : decode cX11_copy 133 = .ok (.ireturn, 1) := by decide +kernel
theorem dX11_copy_134 : decode cX11_copy 134 = .ok (.iconst 0, 1) := by decide +kernel
theorem dX11_copy_135 : decode cX11_copy 135 = .ok (.istore 6, 2) := by decide +kernel
theorem dX11_copy_137 : decode cX11_copy 137 = .ok (.iload 6, 2) := by decide +kernel
theorem dX11_copy_139 : decode cX11_copy 139 = .ok (.iload 5, 2) := by decide +kernel
theorem dX11_copy_141 : decode cX11_copy 141 = .ok (.if_icmp .ge 30, 3) := by decide +kernel
theorem dX11_copy_144 : decode cX11_copy 144 = .ok (.aload_n 0, 1) := by decide +kernel
theorem dX11_copy_145 : decode cX11_copy 145 = .ok (.getfield 72, 3) := by decide +kernel
theorem dX11_copy_148 : decode cX11_copy 148 = .ok (.iload 6, 2) := by decide +kernel
theorem dX11_copy_150 : decode cX11_copy 150 = .ok (.aload_n 0, 1) := by decide +kernel
theorem dX11_copy_151 : decode cX11_copy 151 = .ok (.getfield 46, 3) := by decide +kernel
theorem dX11_copy_154 : decode cX11_copy 154 = .ok (.bipush 100, 2) := by decide +kernel
theorem dX11_copy_156 : decode cX11_copy 156 = .ok (.iload_n 1, 1) := by decide +kernel
theorem dX11_copy_157 : decode cX11_copy 157 = .ok (.imul, 1) := by decide +kernel
theorem dX11_copy_158 : decode cX11_copy 158 = .ok (.iload_n 2, 1) := by decide +kernel
theorem dX11_copy_159 : decode cX11_copy 159 = .ok (.iadd, 1) := by decide +kernel
theorem dX11_copy_160 : decode cX11_copy 160 = .ok (.iload 6, 2) := by decide +kernel
theorem dX11_copy_162 : decode cX11_copy 162 = .ok (.iadd, 1) := by decide +kernel
theorem dX11_copy_163 : decode cX11_copy 163 = .ok (.laload, 1) := by decide +kernel
theorem dX11_copy_164 : decode cX11_copy 164 = .ok (.lastore, 1) := by decide +kernel
theorem dX11_copy_165 : decode cX11_copy 165 = .ok (.iinc 6 1, 3) := by decide +kernel
theorem dX11_copy_168 : decode cX11_copy 168 = .ok (.goto (-31), 3) := by decide +kernel
theorem dX11_copy_171 : decode cX11_copy 171 = .ok (.iconst 0, 1) := by decide +kernel
theorem dX11_copy_172 : decode cX11_copy 172 = .ok (.istore 6, 2) := by decide +kernel
theorem dX11_copy_174 : decode cX11_copy 174 = .ok (.iload 6, 2) := by decide +kernel
theorem dX11_copy_176 : decode cX11_copy 176 = .ok (.iload 5, 2) := by decide +kernel
theorem dX11_copy_178 : decode cX11_copy 178 = .ok (.if_icmp .ge 31, 3) := by decide +kernel
theorem dX11_copy_181 : decode cX11_copy 181 = .ok (.aload_n 0, 1) := by decide +kernel
theorem dX11_copy_182 : decode cX11_copy 182 = .ok (.getfield 46, 3) := by decide +kernel
theorem dX11_copy_185 : decode cX11_copy 185 = .ok (.bipush 100, 2) := by decide +kernel
theorem dX11_copy_187 : decode cX11_copy 187 = .ok (.iload_n 3, 1) := by decide +kernel
theorem dX11_copy_188 : decode cX11_copy 188 = .ok (.imul, 1) := by decide +kernel
theorem dX11_copy_189 : decode cX11_copy 189 = .ok (.iload 4, 2) := by decide +kernel
theorem dX11_copy_191 : decode cX11_copy 191 = .ok (.iadd, 1) := by decide +kernel
theorem dX11_copy_192 : decode cX11_copy 192 = .ok (.iload 6, 2) := by decide +kernel
theorem dX11_copy_194 : decode cX11_copy 194 = .ok (.iadd, 1) := by decide +kernel
theorem dX11_copy_195 : decode cX11_copy 195 = .ok (.aload_n 0, 1) := by decide +kernel
theorem dX11_copy_196 : decode cX11_copy 196 = .ok (.getfield 72, 3) := by decide +kernel
theorem dX11_copy_199 : decode cX11_copy 199 = .ok (.iload 6, 2) := by decide +kernel
theorem dX11_copy_201 : decode cX11_copy 201 = .ok (.laload, 1) := by decide +kernel
theorem dX11_copy_202 : decode cX11_copy 202 = .ok (.lastore, 1) := by decide +kernel
theorem dX11_copy_203 : decode cX11_copy 203 = .ok (.iinc 6 1, 3) := by decide +kernel
theorem dX11_copy_206 : decode cX11_copy 206 = .ok (.goto (-32), 3) := by decide +kernel
theorem dX11_copy_209 : decode cX11_copy 209 = .ok (.iload 5, 2) := by decide +kernel
theorem dX11_copy_211 : decode cX11_copy 211 = .ok (.ireturn, 1) := by decide +kernel
/-! copy -/
def X11_copy_p209 (st : MS) (v5 : Int32) : Option (Int32 × MS) :=
    some (v5, st)
def X11_copy_p174 : Nat → MS → Int32 → Int32 → Int32 → Int32 → Option (Int32 × MS)
  | 0, _, _, _, _, _ => none
  | n + 1, st, v3, v4, v5, v6 =>
    if v5 ≤ v6 then
      (X11_copy_p209 st v5)
    else
    inr v6 100 <|
    inr ((((100 : Int32) * v3) + v4) + v6) 800 <|
    nm (sL st 16 ((((100 : Int32) * v3) + v4) + v6).toNatClampNeg (gL st 36 v6.toNatClampNeg)) fun st_4 =>
    nm (v6 + (1 : Int32)) fun x_5 =>
    X11_copy_p174  n st_4 v3 v4 v5 x_5
theorem X11_copy_p174_s (n : Nat) (st : MS) (v3 : Int32) (v4 : Int32) (v5 : Int32) (v6 : Int32) : X11_copy_p174  (n + 1) st v3 v4 v5 v6 =
    (if v5 ≤ v6 then
      (X11_copy_p209 st v5)
    else
    inr v6 100 <|
    inr ((((100 : Int32) * v3) + v4) + v6) 800 <|
    nm (sL st 16 ((((100 : Int32) * v3) + v4) + v6).toNatClampNeg (gL st 36 v6.toNatClampNeg)) fun st_4 =>
    nm (v6 + (1 : Int32)) fun x_5 =>
    X11_copy_p174  n st_4 v3 v4 v5 x_5) := rfl
def X11_copy_p171 (st : MS) (v3 : Int32) (v4 : Int32) (v5 : Int32) : Option (Int32 × MS) :=
    X11_copy_p174 5000 st v3 v4 v5 (0 : Int32)
def X11_copy_p137 : Nat → MS → Int32 → Int32 → Int32 → Int32 → Int32 → Int32 → Option (Int32 × MS)
  | 0, _, _, _, _, _, _, _ => none
  | n + 1, st, v1, v2, v3, v4, v5, v6 =>
    if v5 ≤ v6 then
      (X11_copy_p171 st v3 v4 v5)
    else
    inr ((((100 : Int32) * v1) + v2) + v6) 800 <|
    inr v6 100 <|
    nm (sL st 36 v6.toNatClampNeg (gL st 16 ((((100 : Int32) * v1) + v2) + v6).toNatClampNeg)) fun st_9 =>
    nm (v6 + (1 : Int32)) fun x_10 =>
    X11_copy_p137  n st_9 v1 v2 v3 v4 v5 x_10
theorem X11_copy_p137_s (n : Nat) (st : MS) (v1 : Int32) (v2 : Int32) (v3 : Int32) (v4 : Int32) (v5 : Int32) (v6 : Int32) : X11_copy_p137  (n + 1) st v1 v2 v3 v4 v5 v6 =
    (if v5 ≤ v6 then
      (X11_copy_p171 st v3 v4 v5)
    else
    inr ((((100 : Int32) * v1) + v2) + v6) 800 <|
    inr v6 100 <|
    nm (sL st 36 v6.toNatClampNeg (gL st 16 ((((100 : Int32) * v1) + v2) + v6).toNatClampNeg)) fun st_9 =>
    nm (v6 + (1 : Int32)) fun x_10 =>
    X11_copy_p137  n st_9 v1 v2 v3 v4 v5 x_10) := rfl
def X11_copy (st : MS) (v1 : Int32) (v2 : Int32) (v3 : Int32) (v4 : Int32) (v5 : Int32) : Option (Int32 × MS) :=
    nm (sF st 17 (0 : Int32)) fun st_11 =>
    bd1 (X11_in (v1.toInt64) (0 : Int64) (7 : Int64)) fun y_12 =>
    if y_12 = 0 then
      (some ((-1 : Int32), st_11))
    else
    bd1 (X11_in (v3.toInt64) (0 : Int64) (7 : Int64)) fun y_15 =>
    if y_15 = 0 then
      (some ((-1 : Int32), st_11))
    else
    inr v1 8 <|
    if (gA st_11 11 v1.toNatClampNeg) = 0 then
      (some ((-11 : Int32), st_11))
    else
    inr v3 8 <|
    if (gA st_11 11 v3.toNatClampNeg) = 0 then
      (some ((-11 : Int32), st_11))
    else
    inr v1 8 <|
    if (gA st_11 11 v1.toNatClampNeg) = (2 : Int32) then
      (inr v3 8 <|
      if (gA st_11 11 v3.toNatClampNeg) = (2 : Int32) then
        (inr v1 8 <|
        inr v3 8 <|
        if (gA st_11 14 v1.toNatClampNeg) = (gA st_11 14 v3.toNatClampNeg) then
          (if v5 < 0 then
            (some ((-13 : Int32), st_11))
          else
          if v2 < 0 then
            (some ((-13 : Int32), st_11))
          else
          if v4 < 0 then
            (some ((-13 : Int32), st_11))
          else
          inr v1 8 <|
          if ((gA st_11 15 v1.toNatClampNeg) - v5) < v2 then
            (some ((-13 : Int32), st_11))
          else
          inr v3 8 <|
          if v4 ≤ ((gA st_11 15 v3.toNatClampNeg) - v5) then
            (X11_copy_p137 5000 st_11 v1 v2 v3 v4 v5 (0 : Int32))
          else
          some ((-13 : Int32), st_11))
        else
        some ((-12 : Int32), st_11))
      else
      some ((-12 : Int32), st_11))
    else
    some ((-12 : Int32), st_11)
abbrev rmX11_copy : Room := { frames := 1, cells := 0, slots := 0, locals := 25 }
theorem hdX11_copy : yX11_copy.cls = RX11 ∧ yX11_copy.cls ≠ "java/lang/invoke/MethodHandle" ∧ yX11_copy.cls ≠ "java/lang/invoke/VarHandle" ∧ (parseMethodDescriptor yX11_copy.desc).map (fun d => d.parameters.length) = some 5 := by decide +kernel
set_option maxRecDepth 100000 in
set_option maxHeartbeats 4000000 in
theorem okX11_copy (l : Launch) (D : va_G) (a : Nat → Nat) (T : mT3) {st : MS} {v1 : Int32} {v2 : Int32} {v3 : Int32} {v4 : Int32} {v5 : Int32} {r : Int32} {st' : MS} (heq : X11_copy st v1 v2 v3 v4 v5 = some (r, st')) : gCi l D (mT T) yX11_copy wsX11_copy rmX11_copy [.ref (a 0), .int v1, .int v2, .int v3, .int v4, .int v5] (mW a T st) r (mW a T st') := by
  refine g_body_i (by decide) rfl (Nat.le_of_ble_eq_true rfl) (fun p e s m args below meth c A Q hx hb hml hown hts hK hA hret ls hP hD hS hl => ?_)
  have hl : lv_has ls 7 [(0, .ref (a 0)), (1, .int v1), (2, .int v2), (3, .int v3), (4, .int v4), (5, .int v5)] := hl
  have hin : ∀ w ∈ wsX110, w ∈ wsX11_copy := fun w h => List.mem_cons_of_mem _ (List.mem_append_right _ h)
  have f31 : (Cond.fieldLink RX11 31 RX11 (TX11 11).2.1 (TX11 11).2.2.1).before args s = true := hts (.fieldLink RX11 31 "LaidDownTheLaneModel" "holdsWhat" "[I") (by decide +kernel)
  have f40 : (Cond.fieldLink RX11 40 RX11 (TX11 14).2.1 (TX11 14).2.2.1).before args s = true := hts (.fieldLink RX11 40 "LaidDownTheLaneModel" "rowSort" "[I") (by decide +kernel)
  have f43 : (Cond.fieldLink RX11 43 RX11 (TX11 15).2.1 (TX11 15).2.2.1).before args s = true := hts (.fieldLink RX11 43 "LaidDownTheLaneModel" "rowMany" "[I") (by decide +kernel)
  have f46 : (Cond.fieldLink RX11 46 RX11 (TX11 16).2.1 (TX11 16).2.2.1).before args s = true := hts (.fieldLink RX11 46 "LaidDownTheLaneModel" "rows" "[J") (by decide +kernel)
  have f72 : (Cond.fieldLink RX11 72 RX11 (TX11 36).2.1 (TX11 36).2.2.1).before args s = true := hts (.fieldLink RX11 72 "LaidDownTheLaneModel" "between" "[J") (by decide +kernel)
  have f75 : (Cond.fieldLink RX11 75 RX11 (TX11 17).2.1 (TX11 17).2.2.1).before args s = true := hts (.fieldLink RX11 75 "LaidDownTheLaneModel" "thrown" "I") (by decide +kernel)
  have c228 := hts (.constantLong RX11 228 (7)) (by decide +kernel)
  have b209 : ∀ (st : MS) (v5 : Int32) (H : Heap) (locs : List Loc) (ls : Array Slot), va_P D vwCl (mW a T st) H → va_D A (mW a T st) → va_S A s.heap H locs → lv_has ls 7 [(5, .int v5)] → X11_copy_p209  st v5 = some (r, st') → W p l e rmX11_copy s m args below meth c H locs 0 0 Q (F0 m 209 ls []) := by
    intro st v5 H locs ls hP hD hS hl heq
    unfold X11_copy_p209 at heq
    refine lv_iload hx hb dX11_copy_209 (lv_at hl 0 rfl) ?_
    obtain ⟨heq, heq2⟩ := ret_h heq
    subst heq
    subst heq2
    exact hret 211 H locs ls hP hD hS rfl dX11_copy_211
  have b174 : ∀ (n : Nat), ∀ (st : MS) (v3 : Int32) (v4 : Int32) (v5 : Int32) (v6 : Int32) (H : Heap) (locs : List Loc) (ls : Array Slot), va_P D vwCl (mW a T st) H → va_D A (mW a T st) → va_S A s.heap H locs → lv_has ls 7 [(0, .ref (a 0)), (3, .int v3), (4, .int v4), (5, .int v5), (6, .int v6)] → X11_copy_p174  n st v3 v4 v5 v6 = some (r, st') → W p l e rmX11_copy s m args below meth c H locs 0 0 Q (F0 m 174 ls []) := by
    intro n
    induction n with
    | zero => intro st v3 v4 v5 v6 H locs ls hP hD hS hl heq; cases heq
    | succ n ih =>
      intro st v3 v4 v5 v6 H locs ls hP hD hS hl heq
      rw [X11_copy_p174_s] at heq
      refine lv_iload hx hb dX11_copy_174 (lv_at hl 4 rfl) ?_
      refine lv_iload hx hb dX11_copy_176 (lv_at hl 3 rfl) ?_
      refine lv_icmp_ge (tgt := 209) hx hb dX11_copy_178 (by decide) (fun c_1 => ?_) (fun c_1 => ?_)
      · have heq := it_t c_1 heq
        exact b209 st v5 H locs ls hP hD hS (lv_sub hl [3] rfl) heq
      have heq := it_f c_1 heq
      refine lv_aload_n hx hb dX11_copy_181 rfl (lv_at hl 0 rfl) ?_
      refine mg (k := 16) (v := .ref (a 13)) hx hb hts hin hown hK hP (by decide) f46 rfl dX11_copy_182 rfl ?_
      refine lv_bipush (v := (100 : Int32)) hx hb dX11_copy_185 (by decide) ?_
      refine lv_iload_n hx hb dX11_copy_187 rfl (lv_at hl 1 rfl) ?_
      refine lv_imul hx hb dX11_copy_188 ?_
      refine lv_iload hx hb dX11_copy_189 (lv_at hl 2 rfl) ?_
      refine lv_iadd hx hb dX11_copy_191 ?_
      refine lv_iload hx hb dX11_copy_192 (lv_at hl 4 rfl) ?_
      refine lv_iadd hx hb dX11_copy_194 ?_
      refine lv_aload_n hx hb dX11_copy_195 rfl (lv_at hl 0 rfl) ?_
      refine mg (k := 36) (v := .ref (a 21)) hx hb hts hin hown hK hP (by decide) f72 rfl dX11_copy_196 rfl ?_
      refine lv_iload hx hb dX11_copy_199 (lv_at hl 4 rfl) ?_
      obtain ⟨n_2, heq⟩ := inr_h heq
      refine mll (k := 36) (q := 21) (n := 100) hx hb hK hP rfl n_2 dX11_copy_201 ?_
      obtain ⟨n_3, heq⟩ := inr_h heq
      refine mls (k := 16) (q := 13) (n := 800) hx hb hK hP hD hS rfl (maset_16 ..) n_3 dX11_copy_202 (fun H locs hP hD hS => ?_)
      obtain ⟨st_4, est_4⟩ : ∃ z, z = sL st 16 ((((100 : Int32) * v3) + v4) + v6).toNatClampNeg (gL st 36 v6.toNatClampNeg) := ⟨_, rfl⟩
      rw [← est_4] at hP hD
      have heq := nm_h est_4 heq
      obtain ⟨x_5, ex_5⟩ : ∃ y : Int32, y = v6 + (1 : Int32) := ⟨_, rfl⟩
      have heq := nm_h ex_5 heq
      refine lv_iinc (v := x_5) (lv' := [(6, .int x_5), (0, .ref (a 0)), (3, .int v3), (4, .int v4), (5, .int v5)]) hx hb dX11_copy_203 hl (k := 4) rfl (by rw [ex_5]; rfl) (by decide) rfl (fun ls hl => ?_)
      refine lv_goto (tgt := 174) hx hb dX11_copy_206 (by decide) ?_
      exact ih st_4 v3 v4 v5 x_5 H locs ls hP hD hS (lv_sub hl [1, 2, 3, 4, 0] rfl) heq
  have b171 : ∀ (st : MS) (v3 : Int32) (v4 : Int32) (v5 : Int32) (H : Heap) (locs : List Loc) (ls : Array Slot), va_P D vwCl (mW a T st) H → va_D A (mW a T st) → va_S A s.heap H locs → lv_has ls 7 [(0, .ref (a 0)), (3, .int v3), (4, .int v4), (5, .int v5)] → X11_copy_p171  st v3 v4 v5 = some (r, st') → W p l e rmX11_copy s m args below meth c H locs 0 0 Q (F0 m 171 ls []) := by
    intro st v3 v4 v5 H locs ls hP hD hS hl heq
    unfold X11_copy_p171 at heq
    refine lv_iconst (v := (0 : Int32)) hx hb dX11_copy_171 (by decide) ?_
    refine lv_istore (lv' := [(6, .int (0 : Int32)), (0, .ref (a 0)), (3, .int v3), (4, .int v4), (5, .int v5)]) hx hb dX11_copy_172 hl (by decide) rfl (fun ls hl => ?_)
    exact b174 5000 st v3 v4 v5 (0 : Int32) H locs ls hP hD hS (lv_sub hl [1, 2, 3, 4, 0] rfl) heq
  have b137 : ∀ (n : Nat), ∀ (st : MS) (v1 : Int32) (v2 : Int32) (v3 : Int32) (v4 : Int32) (v5 : Int32) (v6 : Int32) (H : Heap) (locs : List Loc) (ls : Array Slot), va_P D vwCl (mW a T st) H → va_D A (mW a T st) → va_S A s.heap H locs → lv_has ls 7 [(0, .ref (a 0)), (1, .int v1), (2, .int v2), (3, .int v3), (4, .int v4), (5, .int v5), (6, .int v6)] → X11_copy_p137  n st v1 v2 v3 v4 v5 v6 = some (r, st') → W p l e rmX11_copy s m args below meth c H locs 0 0 Q (F0 m 137 ls []) := by
    intro n
    induction n with
    | zero => intro st v1 v2 v3 v4 v5 v6 H locs ls hP hD hS hl heq; cases heq
    | succ n ih =>
      intro st v1 v2 v3 v4 v5 v6 H locs ls hP hD hS hl heq
      rw [X11_copy_p137_s] at heq
      refine lv_iload hx hb dX11_copy_137 (lv_at hl 6 rfl) ?_
      refine lv_iload hx hb dX11_copy_139 (lv_at hl 5 rfl) ?_
      refine lv_icmp_ge (tgt := 171) hx hb dX11_copy_141 (by decide) (fun c_6 => ?_) (fun c_6 => ?_)
      · have heq := it_t c_6 heq
        exact b171 st v3 v4 v5 H locs ls hP hD hS (lv_sub hl [0, 3, 4, 5] rfl) heq
      have heq := it_f c_6 heq
      refine lv_aload_n hx hb dX11_copy_144 rfl (lv_at hl 0 rfl) ?_
      refine mg (k := 36) (v := .ref (a 21)) hx hb hts hin hown hK hP (by decide) f72 rfl dX11_copy_145 rfl ?_
      refine lv_iload hx hb dX11_copy_148 (lv_at hl 6 rfl) ?_
      refine lv_aload_n hx hb dX11_copy_150 rfl (lv_at hl 0 rfl) ?_
      refine mg (k := 16) (v := .ref (a 13)) hx hb hts hin hown hK hP (by decide) f46 rfl dX11_copy_151 rfl ?_
      refine lv_bipush (v := (100 : Int32)) hx hb dX11_copy_154 (by decide) ?_
      refine lv_iload_n hx hb dX11_copy_156 rfl (lv_at hl 1 rfl) ?_
      refine lv_imul hx hb dX11_copy_157 ?_
      refine lv_iload_n hx hb dX11_copy_158 rfl (lv_at hl 2 rfl) ?_
      refine lv_iadd hx hb dX11_copy_159 ?_
      refine lv_iload hx hb dX11_copy_160 (lv_at hl 6 rfl) ?_
      refine lv_iadd hx hb dX11_copy_162 ?_
      obtain ⟨n_7, heq⟩ := inr_h heq
      refine mll (k := 16) (q := 13) (n := 800) hx hb hK hP rfl n_7 dX11_copy_163 ?_
      obtain ⟨n_8, heq⟩ := inr_h heq
      refine mls (k := 36) (q := 21) (n := 100) hx hb hK hP hD hS rfl (maset_36 ..) n_8 dX11_copy_164 (fun H locs hP hD hS => ?_)
      obtain ⟨st_9, est_9⟩ : ∃ z, z = sL st 36 v6.toNatClampNeg (gL st 16 ((((100 : Int32) * v1) + v2) + v6).toNatClampNeg) := ⟨_, rfl⟩
      rw [← est_9] at hP hD
      have heq := nm_h est_9 heq
      obtain ⟨x_10, ex_10⟩ : ∃ y : Int32, y = v6 + (1 : Int32) := ⟨_, rfl⟩
      have heq := nm_h ex_10 heq
      refine lv_iinc (v := x_10) (lv' := [(6, .int x_10), (0, .ref (a 0)), (1, .int v1), (2, .int v2), (3, .int v3), (4, .int v4), (5, .int v5)]) hx hb dX11_copy_165 hl (k := 6) rfl (by rw [ex_10]; rfl) (by decide) rfl (fun ls hl => ?_)
      refine lv_goto (tgt := 137) hx hb dX11_copy_168 (by decide) ?_
      exact ih st_9 v1 v2 v3 v4 v5 x_10 H locs ls hP hD hS (lv_sub hl [1, 2, 3, 4, 5, 6, 0] rfl) heq
  obtain ⟨H, hH⟩ : ∃ H, H = s.heap := ⟨_, rfl⟩
  obtain ⟨locs, hlocs⟩ : ∃ z : List Loc, z = [] := ⟨_, rfl⟩
  have hS : va_S A s.heap H locs := by rw [hH, hlocs]; exact hS
  have hP : va_P D vwCl (mW a T st) H := by rw [hH]; exact hP
  suffices h9 : W p l e rmX11_copy s m args below meth c H locs 0 0 Q (F0 m 0 ls []) by rw [hH, hlocs] at h9; exact h9
  clear hH hlocs
  unfold X11_copy at heq
  refine lv_aload_n hx hb dX11_copy_0 rfl (lv_at hl 0 rfl) ?_
  refine lv_iconst (v := (0 : Int32)) hx hb dX11_copy_1 (by decide) ?_
  refine mp (k := 17) hx hb hts hin hown hK hP hD hS (by decide) f75 dX11_copy_2 rfl rfl rfl rfl (mset_17 ..) (fun H locs hP hD hS => ?_)
  obtain ⟨st_11, est_11⟩ : ∃ z, z = sF st 17 (0 : Int32) := ⟨_, rfl⟩
  rw [← est_11] at hP hD
  have heq := nm_h est_11 heq
  refine lv_iload_n hx hb dX11_copy_5 rfl (lv_at hl 1 rfl) ?_
  refine lv_i2l hx hb dX11_copy_6 rfl ?_
  refine lv_lconst (v := (0 : Int64)) hx hb dX11_copy_7 (by decide) ?_
  refine lv_ldc2 (v := (7 : Int64)) hx hb hown c228 dX11_copy_8 ?_
  obtain ⟨y_12, h_13, heq⟩ := bd1_h heq
  refine g_si (own := RX11) (D := D) (As := [.long (v1.toInt64), .long (0 : Int64), .long (7 : Int64)]) (rest := []) hx hb hml hown hts (okX11_in l D h_13) (cwS 3 hts gX11_copy_X11_in rfl rfl rfl hdX11_in ⟨Nat.le_of_ble_eq_true rfl, Nat.le_of_ble_eq_true rfl⟩) hK hA hP hS rfl hl.1 rfl (Nat.le_of_ble_eq_true rfl) dX11_copy_11 ⟨Nat.le_of_ble_eq_true rfl, Nat.le_of_ble_eq_true rfl⟩ (fun H locs hP hS => ?_)
  refine lv_if_eq (tgt := 29) hx hb dX11_copy_14 (by decide) (fun c_14 => ?_) (fun c_14 => ?_)
  · have heq := it_t c_14 heq
    refine lv_iconst (v := (-1 : Int32)) hx hb dX11_copy_29 (by decide) ?_
    obtain ⟨heq, heq2⟩ := ret_h heq
    subst heq
    subst heq2
    exact hret 30 H locs ls hP hD hS rfl dX11_copy_30
  have heq := it_f c_14 heq
  refine lv_iload_n hx hb dX11_copy_17 rfl (lv_at hl 3 rfl) ?_
  refine lv_i2l hx hb dX11_copy_18 rfl ?_
  refine lv_lconst (v := (0 : Int64)) hx hb dX11_copy_19 (by decide) ?_
  refine lv_ldc2 (v := (7 : Int64)) hx hb hown c228 dX11_copy_20 ?_
  obtain ⟨y_15, h_16, heq⟩ := bd1_h heq
  refine g_si (own := RX11) (D := D) (As := [.long (v3.toInt64), .long (0 : Int64), .long (7 : Int64)]) (rest := []) hx hb hml hown hts (okX11_in l D h_16) (cwS 3 hts gX11_copy_X11_in rfl rfl rfl hdX11_in ⟨Nat.le_of_ble_eq_true rfl, Nat.le_of_ble_eq_true rfl⟩) hK hA hP hS rfl hl.1 rfl (Nat.le_of_ble_eq_true rfl) dX11_copy_23 ⟨Nat.le_of_ble_eq_true rfl, Nat.le_of_ble_eq_true rfl⟩ (fun H locs hP hS => ?_)
  refine lv_if_ne (tgt := 31) hx hb dX11_copy_26 (by decide) (fun c_17 => ?_) (fun c_17 => ?_)
  · have heq := it_f c_17 heq
    refine lv_aload_n hx hb dX11_copy_31 rfl (lv_at hl 0 rfl) ?_
    refine mg (k := 11) (v := .ref (a 8)) hx hb hts hin hown hK hP (by decide) f31 rfl dX11_copy_32 rfl ?_
    refine lv_iload_n hx hb dX11_copy_35 rfl (lv_at hl 1 rfl) ?_
    obtain ⟨n_18, heq⟩ := inr_h heq
    refine mal (k := 11) (q := 8) (n := 8) hx hb hK hP rfl n_18 dX11_copy_36 ?_
    refine lv_if_eq (tgt := 49) hx hb dX11_copy_37 (by decide) (fun c_19 => ?_) (fun c_19 => ?_)
    · have heq := it_t c_19 heq
      refine lv_bipush (v := (-11 : Int32)) hx hb dX11_copy_49 (by decide) ?_
      obtain ⟨heq, heq2⟩ := ret_h heq
      subst heq
      subst heq2
      exact hret 51 H locs ls hP hD hS rfl dX11_copy_51
    have heq := it_f c_19 heq
    refine lv_aload_n hx hb dX11_copy_40 rfl (lv_at hl 0 rfl) ?_
    refine mg (k := 11) (v := .ref (a 8)) hx hb hts hin hown hK hP (by decide) f31 rfl dX11_copy_41 rfl ?_
    refine lv_iload_n hx hb dX11_copy_44 rfl (lv_at hl 3 rfl) ?_
    obtain ⟨n_20, heq⟩ := inr_h heq
    refine mal (k := 11) (q := 8) (n := 8) hx hb hK hP rfl n_20 dX11_copy_45 ?_
    refine lv_if_ne (tgt := 52) hx hb dX11_copy_46 (by decide) (fun c_21 => ?_) (fun c_21 => ?_)
    · have heq := it_f c_21 heq
      refine lv_aload_n hx hb dX11_copy_52 rfl (lv_at hl 0 rfl) ?_
      refine mg (k := 11) (v := .ref (a 8)) hx hb hts hin hown hK hP (by decide) f31 rfl dX11_copy_53 rfl ?_
      refine lv_iload_n hx hb dX11_copy_56 rfl (lv_at hl 1 rfl) ?_
      obtain ⟨n_22, heq⟩ := inr_h heq
      refine mal (k := 11) (q := 8) (n := 8) hx hb hK hP rfl n_22 dX11_copy_57 ?_
      refine lv_iconst (v := (2 : Int32)) hx hb dX11_copy_58 (by decide) ?_
      refine lv_icmp_ne (tgt := 87) hx hb dX11_copy_59 (by decide) (fun c_23 => ?_) (fun c_23 => ?_)
      · have heq := it_f c_23 heq
        refine lv_bipush (v := (-12 : Int32)) hx hb dX11_copy_87 (by decide) ?_
        obtain ⟨heq, heq2⟩ := ret_h heq
        subst heq
        subst heq2
        exact hret 89 H locs ls hP hD hS rfl dX11_copy_89
      have heq := it_t c_23 heq
      refine lv_aload_n hx hb dX11_copy_62 rfl (lv_at hl 0 rfl) ?_
      refine mg (k := 11) (v := .ref (a 8)) hx hb hts hin hown hK hP (by decide) f31 rfl dX11_copy_63 rfl ?_
      refine lv_iload_n hx hb dX11_copy_66 rfl (lv_at hl 3 rfl) ?_
      obtain ⟨n_24, heq⟩ := inr_h heq
      refine mal (k := 11) (q := 8) (n := 8) hx hb hK hP rfl n_24 dX11_copy_67 ?_
      refine lv_iconst (v := (2 : Int32)) hx hb dX11_copy_68 (by decide) ?_
      refine lv_icmp_ne (tgt := 87) hx hb dX11_copy_69 (by decide) (fun c_25 => ?_) (fun c_25 => ?_)
      · have heq := it_f c_25 heq
        refine lv_bipush (v := (-12 : Int32)) hx hb dX11_copy_87 (by decide) ?_
        obtain ⟨heq, heq2⟩ := ret_h heq
        subst heq
        subst heq2
        exact hret 89 H locs ls hP hD hS rfl dX11_copy_89
      have heq := it_t c_25 heq
      refine lv_aload_n hx hb dX11_copy_72 rfl (lv_at hl 0 rfl) ?_
      refine mg (k := 14) (v := .ref (a 11)) hx hb hts hin hown hK hP (by decide) f40 rfl dX11_copy_73 rfl ?_
      refine lv_iload_n hx hb dX11_copy_76 rfl (lv_at hl 1 rfl) ?_
      obtain ⟨n_26, heq⟩ := inr_h heq
      refine mal (k := 14) (q := 11) (n := 8) hx hb hK hP rfl n_26 dX11_copy_77 ?_
      refine lv_aload_n hx hb dX11_copy_78 rfl (lv_at hl 0 rfl) ?_
      refine mg (k := 14) (v := .ref (a 11)) hx hb hts hin hown hK hP (by decide) f40 rfl dX11_copy_79 rfl ?_
      refine lv_iload_n hx hb dX11_copy_82 rfl (lv_at hl 3 rfl) ?_
      obtain ⟨n_27, heq⟩ := inr_h heq
      refine mal (k := 14) (q := 11) (n := 8) hx hb hK hP rfl n_27 dX11_copy_83 ?_
      refine lv_icmp_eq (tgt := 90) hx hb dX11_copy_84 (by decide) (fun c_28 => ?_) (fun c_28 => ?_)
      · have heq := it_t c_28 heq
        refine lv_iload hx hb dX11_copy_90 (lv_at hl 5 rfl) ?_
        refine lv_if_lt (tgt := 131) hx hb dX11_copy_92 (by decide) (fun c_29 => ?_) (fun c_29 => ?_)
        · have heq := it_t c_29 heq
          refine lv_bipush (v := (-13 : Int32)) hx hb dX11_copy_131 (by decide) ?_
          obtain ⟨heq, heq2⟩ := ret_h heq
          subst heq
          subst heq2
          exact hret 133 H locs ls hP hD hS rfl dX11_copy_133
        have heq := it_f c_29 heq
        refine lv_iload_n hx hb dX11_copy_95 rfl (lv_at hl 2 rfl) ?_
        refine lv_if_lt (tgt := 131) hx hb dX11_copy_96 (by decide) (fun c_30 => ?_) (fun c_30 => ?_)
        · have heq := it_t c_30 heq
          refine lv_bipush (v := (-13 : Int32)) hx hb dX11_copy_131 (by decide) ?_
          obtain ⟨heq, heq2⟩ := ret_h heq
          subst heq
          subst heq2
          exact hret 133 H locs ls hP hD hS rfl dX11_copy_133
        have heq := it_f c_30 heq
        refine lv_iload hx hb dX11_copy_99 (lv_at hl 4 rfl) ?_
        refine lv_if_lt (tgt := 131) hx hb dX11_copy_101 (by decide) (fun c_31 => ?_) (fun c_31 => ?_)
        · have heq := it_t c_31 heq
          refine lv_bipush (v := (-13 : Int32)) hx hb dX11_copy_131 (by decide) ?_
          obtain ⟨heq, heq2⟩ := ret_h heq
          subst heq
          subst heq2
          exact hret 133 H locs ls hP hD hS rfl dX11_copy_133
        have heq := it_f c_31 heq
        refine lv_iload_n hx hb dX11_copy_104 rfl (lv_at hl 2 rfl) ?_
        refine lv_aload_n hx hb dX11_copy_105 rfl (lv_at hl 0 rfl) ?_
        refine mg (k := 15) (v := .ref (a 12)) hx hb hts hin hown hK hP (by decide) f43 rfl dX11_copy_106 rfl ?_
        refine lv_iload_n hx hb dX11_copy_109 rfl (lv_at hl 1 rfl) ?_
        obtain ⟨n_32, heq⟩ := inr_h heq
        refine mal (k := 15) (q := 12) (n := 8) hx hb hK hP rfl n_32 dX11_copy_110 ?_
        refine lv_iload hx hb dX11_copy_111 (lv_at hl 5 rfl) ?_
        refine lv_isub hx hb dX11_copy_113 ?_
        refine lv_icmp_gt (tgt := 131) hx hb dX11_copy_114 (by decide) (fun c_33 => ?_) (fun c_33 => ?_)
        · have heq := it_t c_33 heq
          refine lv_bipush (v := (-13 : Int32)) hx hb dX11_copy_131 (by decide) ?_
          obtain ⟨heq, heq2⟩ := ret_h heq
          subst heq
          subst heq2
          exact hret 133 H locs ls hP hD hS rfl dX11_copy_133
        have heq := it_f c_33 heq
        refine lv_iload hx hb dX11_copy_117 (lv_at hl 4 rfl) ?_
        refine lv_aload_n hx hb dX11_copy_119 rfl (lv_at hl 0 rfl) ?_
        refine mg (k := 15) (v := .ref (a 12)) hx hb hts hin hown hK hP (by decide) f43 rfl dX11_copy_120 rfl ?_
        refine lv_iload_n hx hb dX11_copy_123 rfl (lv_at hl 3 rfl) ?_
        obtain ⟨n_34, heq⟩ := inr_h heq
        refine mal (k := 15) (q := 12) (n := 8) hx hb hK hP rfl n_34 dX11_copy_124 ?_
        refine lv_iload hx hb dX11_copy_125 (lv_at hl 5 rfl) ?_
        refine lv_isub hx hb dX11_copy_127 ?_
        refine lv_icmp_le (tgt := 134) hx hb dX11_copy_128 (by decide) (fun c_35 => ?_) (fun c_35 => ?_)
        · have heq := it_t c_35 heq
          refine lv_iconst (v := (0 : Int32)) hx hb dX11_copy_134 (by decide) ?_
          refine lv_istore (lv' := [(6, .int (0 : Int32)), (0, .ref (a 0)), (1, .int v1), (2, .int v2), (3, .int v3), (4, .int v4), (5, .int v5)]) hx hb dX11_copy_135 hl (by decide) rfl (fun ls hl => ?_)
          exact b137 5000 st_11 v1 v2 v3 v4 v5 (0 : Int32) H locs ls hP hD hS (lv_sub hl [1, 2, 3, 4, 5, 6, 0] rfl) heq
        have heq := it_f c_35 heq
        refine lv_bipush (v := (-13 : Int32)) hx hb dX11_copy_131 (by decide) ?_
        obtain ⟨heq, heq2⟩ := ret_h heq
        subst heq
        subst heq2
        exact hret 133 H locs ls hP hD hS rfl dX11_copy_133
      have heq := it_f c_28 heq
      refine lv_bipush (v := (-12 : Int32)) hx hb dX11_copy_87 (by decide) ?_
      obtain ⟨heq, heq2⟩ := ret_h heq
      subst heq
      subst heq2
      exact hret 89 H locs ls hP hD hS rfl dX11_copy_89
    have heq := it_t c_21 heq
    refine lv_bipush (v := (-11 : Int32)) hx hb dX11_copy_49 (by decide) ?_
    obtain ⟨heq, heq2⟩ := ret_h heq
    subst heq
    subst heq2
    exact hret 51 H locs ls hP hD hS rfl dX11_copy_51
  have heq := it_t c_17 heq
  refine lv_iconst (v := (-1 : Int32)) hx hb dX11_copy_29 (by decide) ?_
  obtain ⟨heq, heq2⟩ := ret_h heq
  subst heq
  subst heq2
  exact hret 30 H locs ls hP hD hS rfl dX11_copy_30
