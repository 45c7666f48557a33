set_option maxRecDepth 20000 in
theorem ggX11_light_X11_settle : GoodIn wsX11_light wsX11_settle := goodIn_r _ [8, 3, 9, 10, 11, 7, 12, 13, 14, 15, 16, 17, 18, 19, 20, 21, 22, 23, 24, 25, 26, 27, 28, 29, 30, 31, 32, 33, 34, 35, 36, 37, 38, 39, 40, 41, 42, 43, 2, 44, 45, 46, 47, 48, 49, 50, 51, 52, 53, 54, 55, 56, 57, 58, 59, 60, 61, 62, 63, 64, 65, 66, 67, 68, 69, 70, 71, 72, 73, 74, 75, 76, 77, 78, 79, 80, 81, 82, 83, 84, 85, 86, 87, 88, 89, 90, 91, 92] (by decide +kernel) (by decide +kernel)
set_option maxRecDepth 20000 in
theorem gX11_light_X11_settle : GoodIn wsX11_light (wsV RX11 173 RX11 yX11_settle wsX11_settle) := goodIn_app (goodIn_of _ (by decide +kernel)) ggX11_light_X11_settle
set_option maxRecDepth 20000 in
theorem ggX11_light_X11_burnsOf : GoodIn wsX11_light wsX11_burnsOf := goodIn_r _ [49, 50, 51, 56, 57, 58, 59, 60, 61, 62, 63, 64, 65, 66, 67, 68, 69, 70, 71, 72, 73, 74, 75, 76, 77, 78, 79, 80, 81, 82, 83, 84, 85, 86, 87, 88, 89, 90, 91, 92] (by decide +kernel) (by decide +kernel)
set_option maxRecDepth 20000 in
theorem gX11_light_X11_burnsOf : GoodIn wsX11_light (wsV RX11 85 RX11 yX11_burnsOf wsX11_burnsOf) := goodIn_app (goodIn_of _ (by decide +kernel)) ggX11_light_X11_burnsOf
theorem dX11_light_0 : decode cX11_light 0 = .ok (.aload_n 0, 1) := by decide +kernel
theorem dX11_light_1 : decode cX11_light 1 = .ok (.iconst 0, 1) := by decide +kernel
theorem dX11_light_2 : decode cX11_light 2 = .ok (.putfield 75, 3) := by decide +kernel
theorem dX11_light_5 : decode cX11_light 5 = .ok (.aload_n 0, 1) := by decide +kernel
theorem dX11_light_6 : decode cX11_light 6 = .ok (.getfield 89, 3) := by decide +kernel
theorem dX11_light_9 : decode cX11_light 9 = .ok (.ifCond .ne 10, 3) := by decide +kernel
theorem dX11_light_12 : decode cX11_light 12 = .ok (.aload_n 0, 1) := by decide +kernel
theorem dX11_light_13 : decode cX11_light 13 = .ok (.getfield 122, 3) := by decide +kernel
theorem dX11_light_16 : decode cX11_light 16 = .ok (.ifCond .eq 6, 3) := by decide +kernel
theorem dX11_light_19 : decode cX11_light 19 = .ok (.bipush (-3), 2) := by decide +kernel
theorem dX11_light_21 : decode cX11_light 21 = .ok (.ireturn, 1) := by decide +kernel
theorem dX11_light_22 : decode cX11_light 22 = .ok (.aload_n 0, 1) := by decide +kernel
theorem dX11_light_23 : decode cX11_light 23 = .ok (.iconst 1, 1) := by decide +kernel
theorem dX11_light_24 : decode cX11_light 24 = .ok (.putfield 89, 3) := by decide +kernel
theorem dX11_light_27 : decode cX11_light 27 = .ok (.aload_n 0, 1) := by decide +kernel
theorem dX11_light_28 : decode cX11_light 28 = .ok (.invokevirtual 173, 3) := by decide +kernel
theorem dX11_light_31 : decode cX11_light 31 = .ok (.iconst 0, 1) := by decide +kernel
theorem dX11_light_32 : decode cX11_light 32 = .ok (.istore_n 1, 1) := by decide +kernel
theorem dX11_light_33 : decode cX11_light 33 = .ok (.iconst 0, 1) := by decide +kernel
theorem dX11_light_34 : decode cX11_light 34 = .ok (.istore_n 2, 1) := by decide +kernel
theorem dX11_light_35 : decode cX11_light 35 = .ok (.iload_n 2, 1) := by decide +kernel
theorem dX11_light_36 : decode cX11_light 36 = .ok (.bipush 12, 2) := by decide +kernel
theorem dX11_light_38 : decode cX11_light 38 = .ok (.if_icmp .ge 25, 3) := by decide +kernel
theorem dX11_light_41 : decode cX11_light 41 = .ok (.iload_n 1, 1) := by decide +kernel
theorem dX11_light_42 : decode cX11_light 42 = .ok (.aload_n 0, 1) := by decide +kernel
theorem dX11_light_43 : decode cX11_light 43 = .ok (.iload_n 2, 1) := by decide +kernel
theorem dX11_light_44 : decode cX11_light 44 = .ok (.invokevirtual 85, 3) := by decide +kernel
theorem dX11_light_47 : decode cX11_light 47 = .ok (.ifCond .ge 7, 3) := by decide +kernel
theorem dX11_light_50 : decode cX11_light 50 = .ok (.iconst 0, 1) := by decide +kernel
theorem dX11_light_51 : decode cX11_light 51 = .ok (.goto 4, 3) := by decide +kernel
theorem dX11_light_54 : decode cX11_light 54 = .ok (.iconst 1, 1) := by decide +kernel
theorem dX11_light_55 : decode cX11_light 55 = .ok (.iadd, 1) := by decide +kernel
theorem dX11_light_56 : decode cX11_light 56 = .ok (.istore_n 1, 1) := by decide +kernel
theorem dX11_light_57 : decode cX11_light 57 = .ok (.iinc 2 1, 3) := by decide +kernel
theorem dX11_light_60 : decode cX11_light 60 = .ok (.goto (-25), 3) := by decide +kernel
theorem dX11_light_63 : decode cX11_light 63 = .ok (.iload_n 1, 1) := by decide +kernel
theorem dX11_light_64 : decode cX11_light 64 = .ok (.ireturn, 1) := by decide +kernel
/-! light -/
def X11_light_p55 (k35 : MS → Int32 → Int32 → Option (Int32 × MS)) (st : MS) (v2 : Int32) (t0 : Int32) (t1 : Int32) : Option (Int32 × MS) :=
    nm ((t0 + t1)) fun x_1 =>
    nm (v2 + (1 : Int32)) fun x_2 =>
    k35 st x_1 x_2
def X11_light_p63 (st : MS) (v1 : Int32) : Option (Int32 × MS) :=
    some (v1, st)
def X11_light_p35 : Nat → MS → Int32 → Int32 → Option (Int32 × MS)
  | 0, _, _, _ => none
  | n + 1, st, v1, v2 =>
    if (12 : Int32) ≤ v2 then
      (X11_light_p63 st v1)
    else
    bnd (X11_burnsOf st v2) fun y_5 st_4 =>
    if 0 ≤ y_5 then
      (X11_light_p55 (fun st v1 v2 => X11_light_p35  n st v1 v2) st_4 v2 v1 (1 : Int32))
    else
    X11_light_p55 (fun st v1 v2 => X11_light_p35  n st v1 v2) st_4 v2 v1 (0 : Int32)
theorem X11_light_p35_s (n : Nat) (st : MS) (v1 : Int32) (v2 : Int32) : X11_light_p35  (n + 1) st v1 v2 =
    (if (12 : Int32) ≤ v2 then
      (X11_light_p63 st v1)
    else
    bnd (X11_burnsOf st v2) fun y_5 st_4 =>
    if 0 ≤ y_5 then
      (X11_light_p55 (fun st v1 v2 => X11_light_p35  n st v1 v2) st_4 v2 v1 (1 : Int32))
    else
    X11_light_p55 (fun st v1 v2 => X11_light_p35  n st v1 v2) st_4 v2 v1 (0 : Int32)) := rfl
def X11_light (st : MS) : Option (Int32 × MS) :=
    nm (sF st 17 (0 : Int32)) fun st_8 =>
    if (gF st_8 5) = 0 then
      (if (gF st_8 7) = 0 then
        (gz (1 : Int32) <|
        nm (sF st_8 5 (1 : Int32)) fun st_11 =>
        bnd (X11_settle st_11) fun _ st_13 =>
        X11_light_p35 13 st_13 (0 : Int32) (0 : Int32))
      else
      some ((-3 : Int32), st_8))
    else
    some ((-3 : Int32), st_8)
abbrev rmX11_light : Room := { frames := 8, cells := 0, slots := 0, locals := 171 }
theorem hdX11_light : yX11_light.cls = RX11 ∧ yX11_light.cls ≠ "java/lang/invoke/MethodHandle" ∧ yX11_light.cls ≠ "java/lang/invoke/VarHandle" ∧ (parseMethodDescriptor yX11_light.desc).map (fun d => d.parameters.length) = some 0 := by decide +kernel
set_option maxRecDepth 100000 in
set_option maxHeartbeats 4000000 in
theorem okX11_light (l : Launch) (D : va_G) (a : Nat → Nat) (T : mT3) {st : MS} {r : Int32} {st' : MS} (heq : X11_light st = some (r, st')) : gCi l D (mT T) yX11_light wsX11_light rmX11_light [.ref (a 0)] (mW a T st) r (mW a T st') := by
  refine g_body_i (by decide) rfl (Nat.le_of_ble_eq_true rfl) (fun p e s m args below meth c A Q hx hb hml hown hts hK hA hret ls hP hD hS hl => ?_)
  have hl : lv_has ls 3 [(0, .ref (a 0))] := hl
  have hin : ∀ w ∈ wsX110, w ∈ wsX11_light := fun w h => List.mem_cons_of_mem _ (List.mem_append_right _ h)
  have f75 : (Cond.fieldLink RX11 75 RX11 (TX11 17).2.1 (TX11 17).2.2.1).before args s = true := hts (.fieldLink RX11 75 "LaidDownTheLaneModel" "thrown" "I") (by decide +kernel)
  have f89 : (Cond.fieldLink RX11 89 RX11 (TX11 5).2.1 (TX11 5).2.2.1).before args s = true := hts (.fieldLink RX11 89 "LaidDownTheLaneModel" "isLit" "Z") (by decide +kernel)
  have f122 : (Cond.fieldLink RX11 122 RX11 (TX11 7).2.1 (TX11 7).2.2.1).before args s = true := hts (.fieldLink RX11 122 "LaidDownTheLaneModel" "isDown" "Z") (by decide +kernel)
  have b55 : ∀ (k35 : MS → Int32 → Int32 → Option (Int32 × MS)) (hk35 : ∀ (st : MS) (v1 : Int32) (v2 : Int32) (H : Heap) (locs : List Loc) (ls : Array Slot), va_P D vwCl (mW a T st) H → va_D A (mW a T st) → va_S A s.heap H locs → lv_has ls 3 [(0, .ref (a 0)), (1, .int v1), (2, .int v2)] → k35 st v1 v2 = some (r, st') → W p l e rmX11_light s m args below meth c H locs 0 0 Q (F0 m 35 ls [])), ∀ (st : MS) (v2 : Int32) (t0 : Int32) (t1 : Int32) (H : Heap) (locs : List Loc) (ls : Array Slot), va_P D vwCl (mW a T st) H → va_D A (mW a T st) → va_S A s.heap H locs → lv_has ls 3 [(0, .ref (a 0)), (2, .int v2)] → X11_light_p55 k35 st v2 t0 t1 = some (r, st') → W p l e rmX11_light s m args below meth c H locs 0 0 Q (F0 m 55 ls [.int t1, .int t0]) := by
    intro k35 hk35 st v2 t0 t1 H locs ls hP hD hS hl heq
    unfold X11_light_p55 at heq
    refine lv_iadd hx hb dX11_light_55 ?_
    refine lv_topi (fun x_1 ex_1 => ?_)
    have heq := nm_h ex_1 heq
    refine lv_istore_n (lv' := [(1, .int x_1), (0, .ref (a 0)), (2, .int v2)]) hx hb dX11_light_56 rfl hl (by decide) rfl (fun ls hl => ?_)
    obtain ⟨x_2, ex_2⟩ : ∃ y : Int32, y = v2 + (1 : Int32) := ⟨_, rfl⟩
    have heq := nm_h ex_2 heq
    refine lv_iinc (v := x_2) (lv' := [(2, .int x_2), (1, .int x_1), (0, .ref (a 0))]) hx hb dX11_light_57 hl (k := 2) rfl (by rw [ex_2]; rfl) (by decide) rfl (fun ls hl => ?_)
    refine lv_goto (tgt := 35) hx hb dX11_light_60 (by decide) ?_
    exact hk35 st x_1 x_2 H locs ls hP hD hS (lv_sub hl [2, 1, 0] rfl) heq
  have b63 : ∀ (st : MS) (v1 : Int32) (H : Heap) (locs : List Loc) (ls : Array Slot), va_P D vwCl (mW a T st) H → va_D A (mW a T st) → va_S A s.heap H locs → lv_has ls 3 [(1, .int v1)] → X11_light_p63  st v1 = some (r, st') → W p l e rmX11_light s m args below meth c H locs 0 0 Q (F0 m 63 ls []) := by
    intro st v1 H locs ls hP hD hS hl heq
    unfold X11_light_p63 at heq
    refine lv_iload_n hx hb dX11_light_63 rfl (lv_at hl 0 rfl) ?_
    obtain ⟨heq, heq2⟩ := ret_h heq
    subst heq
    subst heq2
    exact hret 64 H locs ls hP hD hS rfl dX11_light_64
  have b35 : ∀ (n : Nat), ∀ (st : MS) (v1 : Int32) (v2 : Int32) (H : Heap) (locs : List Loc) (ls : Array Slot), va_P D vwCl (mW a T st) H → va_D A (mW a T st) → va_S A s.heap H locs → lv_has ls 3 [(0, .ref (a 0)), (1, .int v1), (2, .int v2)] → X11_light_p35  n st v1 v2 = some (r, st') → W p l e rmX11_light s m args below meth c H locs 0 0 Q (F0 m 35 ls []) := by
    intro n
    induction n with
    | zero => intro st v1 v2 H locs ls hP hD hS hl heq; cases heq
    | succ n ih =>
      intro st v1 v2 H locs ls hP hD hS hl heq
      rw [X11_light_p35_s] at heq
      refine lv_iload_n hx hb dX11_light_35 rfl (lv_at hl 2 rfl) ?_
      refine lv_bipush (v := (12 : Int32)) hx hb dX11_light_36 (by decide) ?_
      refine lv_icmp_ge (tgt := 63) hx hb dX11_light_38 (by decide) (fun c_3 => ?_) (fun c_3 => ?_)
      · have heq := it_t c_3 heq
        exact b63 st v1 H locs ls hP hD hS (lv_sub hl [1] rfl) heq
      have heq := it_f c_3 heq
      refine lv_iload_n hx hb dX11_light_41 rfl (lv_at hl 1 rfl) ?_
      refine lv_aload_n hx hb dX11_light_42 rfl (lv_at hl 0 rfl) ?_
      refine lv_iload_n hx hb dX11_light_43 rfl (lv_at hl 2 rfl) ?_
      obtain ⟨y_5, st_4, h_6, heq⟩ := bnd_h heq
      refine g_vi (own := RX11) (As := [.int v2]) (rest := [.int v1]) hx hb hml hown hts (okX11_burnsOf l D a T h_6) (cwV 1 hts gX11_light_X11_burnsOf rfl rfl rfl hdX11_burnsOf ⟨Nat.le_of_ble_eq_true rfl, Nat.le_of_ble_eq_true rfl⟩) hK hA hP hD hS (ci := 11) (q0 := 0) rfl rfl rfl hl.1 rfl (Nat.le_of_ble_eq_true rfl) dX11_light_44 ⟨Nat.le_of_ble_eq_true rfl, Nat.le_of_ble_eq_true rfl⟩ (fun H locs hP hD hS => ?_)
      refine lv_if_ge (tgt := 54) hx hb dX11_light_47 (by decide) (fun c_7 => ?_) (fun c_7 => ?_)
      · have heq := it_t c_7 heq
        refine lv_iconst (v := (1 : Int32)) hx hb dX11_light_54 (by decide) ?_
        exact b55 (fun st v1 v2 => X11_light_p35  n st v1 v2) ih st_4 v2 v1 (1 : Int32) H locs ls hP hD hS (lv_sub hl [0, 2] rfl) heq
      have heq := it_f c_7 heq
      refine lv_iconst (v := (0 : Int32)) hx hb dX11_light_50 (by decide) ?_
      refine lv_goto (tgt := 55) hx hb dX11_light_51 (by decide) ?_
      exact b55 (fun st v1 v2 => X11_light_p35  n st v1 v2) ih st_4 v2 v1 (0 : Int32) H locs ls hP hD hS (lv_sub hl [0, 2] rfl) heq
  obtain ⟨H, hH⟩ : ∃ H, H = s.heap := ⟨_, rfl⟩
  obtain ⟨locs, hlocs⟩ : ∃ z : List Loc, z = [] := ⟨_, rfl⟩
  have hS : va_S A s.heap H locs := by rw [hH, hlocs]; exact hS
  have hP : va_P D vwCl (mW a T st) H := by rw [hH]; exact hP
  suffices h9 : W p l e rmX11_light s m args below meth c H locs 0 0 Q (F0 m 0 ls []) by rw [hH, hlocs] at h9; exact h9
  clear hH hlocs
  unfold X11_light at heq
  refine lv_aload_n hx hb dX11_light_0 rfl (lv_at hl 0 rfl) ?_
  refine lv_iconst (v := (0 : Int32)) hx hb dX11_light_1 (by decide) ?_
  refine mp (k := 17) hx hb hts hin hown hK hP hD hS (by decide) f75 dX11_light_2 rfl rfl rfl rfl (mset_17 ..) (fun H locs hP hD hS => ?_)
  obtain ⟨st_8, est_8⟩ : ∃ z, z = sF st 17 (0 : Int32) := ⟨_, rfl⟩
  rw [← est_8] at hP hD
  have heq := nm_h est_8 heq
  refine lv_aload_n hx hb dX11_light_5 rfl (lv_at hl 0 rfl) ?_
  refine mg (k := 5) (v := .int (gF st_8 5)) hx hb hts hin hown hK hP (by decide) f89 rfl dX11_light_6 rfl ?_
  refine lv_if_ne (tgt := 19) hx hb dX11_light_9 (by decide) (fun c_9 => ?_) (fun c_9 => ?_)
  · have heq := it_f c_9 heq
    refine lv_bipush (v := (-3 : Int32)) hx hb dX11_light_19 (by decide) ?_
    obtain ⟨heq, heq2⟩ := ret_h heq
    subst heq
    subst heq2
    exact hret 21 H locs ls hP hD hS rfl dX11_light_21
  have heq := it_t c_9 heq
  refine lv_aload_n hx hb dX11_light_12 rfl (lv_at hl 0 rfl) ?_
  refine mg (k := 7) (v := .int (gF st_8 7)) hx hb hts hin hown hK hP (by decide) f122 rfl dX11_light_13 rfl ?_
  refine lv_if_eq (tgt := 22) hx hb dX11_light_16 (by decide) (fun c_10 => ?_) (fun c_10 => ?_)
  · have heq := it_t c_10 heq
    refine lv_aload_n hx hb dX11_light_22 rfl (lv_at hl 0 rfl) ?_
    refine lv_iconst (v := (1 : Int32)) hx hb dX11_light_23 (by decide) ?_
    obtain ⟨n_12, n_12f, heq⟩ := gz_h heq
    refine mp (k := 5) hx hb hts hin hown hK hP hD hS (by decide) f89 dX11_light_24 rfl rfl n_12 n_12f (mset_5 ..) (fun H locs hP hD hS => ?_)
    obtain ⟨st_11, est_11⟩ : ∃ z, z = sF st_8 5 (1 : Int32) := ⟨_, rfl⟩
    rw [← est_11] at hP hD
    have heq := nm_h est_11 heq
    refine lv_aload_n hx hb dX11_light_27 rfl (lv_at hl 0 rfl) ?_
    obtain ⟨⟨⟩, st_13, h_14, heq⟩ := bnd_h heq
    refine g_vv (own := RX11) (As := []) (rest := []) hx hb hml hown hts (okX11_settle l D a T h_14) (cwV 0 hts gX11_light_X11_settle rfl rfl rfl hdX11_settle ⟨Nat.le_of_ble_eq_true rfl, Nat.le_of_ble_eq_true rfl⟩) hK hA hP hD hS (ci := 11) (q0 := 0) rfl rfl rfl hl.1 rfl (Nat.le_of_ble_eq_true rfl) dX11_light_28 ⟨Nat.le_of_ble_eq_true rfl, Nat.le_of_ble_eq_true rfl⟩ (fun H locs hP hD hS => ?_)
    refine lv_iconst (v := (0 : Int32)) hx hb dX11_light_31 (by decide) ?_
    refine lv_istore_n (lv' := [(1, .int (0 : Int32)), (0, .ref (a 0))]) hx hb dX11_light_32 rfl hl (by decide) rfl (fun ls hl => ?_)
    refine lv_iconst (v := (0 : Int32)) hx hb dX11_light_33 (by decide) ?_
    refine lv_istore_n (lv' := [(2, .int (0 : Int32)), (1, .int (0 : Int32)), (0, .ref (a 0))]) hx hb dX11_light_34 rfl hl (by decide) rfl (fun ls hl => ?_)
    exact b35 13 st_13 (0 : Int32) (0 : Int32) H locs ls hP hD hS (lv_sub hl [2, 1, 0] rfl) heq
  have heq := it_f c_10 heq
  refine lv_bipush (v := (-3 : Int32)) hx hb dX11_light_19 (by decide) ?_
  obtain ⟨heq, heq2⟩ := ret_h heq
  subst heq
  subst heq2
  exact hret 21 H locs ls hP hD hS rfl dX11_light_21
set_option maxRecDepth 20000 in
theorem ggX11_minutes_X11_in : GoodIn wsX11_minutes wsX11_in := goodIn_r _ [9] (by decide +kernel) (by decide +kernel)
set_option maxRecDepth 20000 in
theorem gX11_minutes_X11_in : GoodIn wsX11_minutes (va_wsS RX11 81 yX11_in wsX11_in) := goodIn_app (goodIn_of _ (by decide +kernel)) ggX11_minutes_X11_in
set_option maxRecDepth 20000 in
theorem ggX11_minutes_X11_goMinutes : GoodIn wsX11_minutes wsX11_goMinutes := goodIn_r _ [13, 4, 5, 14, 15, 16, 8, 17, 18, 19, 20, 21, 22, 23, 24, 25, 26, 27, 28, 29, 30, 31, 32, 33, 34, 35, 36, 37, 38, 39, 40, 41, 42, 43, 44, 45, 46, 47, 48, 49, 50, 51, 52, 3, 53, 54, 55, 56, 57, 58, 59, 60, 61, 62, 63, 64, 65, 66, 67, 68, 69, 70, 71, 72, 73, 74, 75, 76, 77, 78, 79, 80, 81, 82, 83, 84, 85, 86, 87, 88, 89, 90, 91, 92, 93, 94, 95, 96, 97, 98, 99, 100] (by decide +kernel) (by decide +kernel)
set_option maxRecDepth 20000 in
theorem gX11_minutes_X11_goMinutes : GoodIn wsX11_minutes (wsV RX11 176 RX11 yX11_goMinutes wsX11_goMinutes) := goodIn_app (goodIn_of _ (by decide +kernel)) ggX11_minutes_X11_goMinutes
theorem dX11_minutes_0 : decode cX11_minutes 0 = .ok (.aload_n 0, 1) := by decide +kernel
theorem dX11_minutes_1 : decode cX11_minutes 1 = .ok (.iconst 0, 1) := by decide +kernel
theorem dX11_minutes_2 : decode cX11_minutes 2 = .ok (.putfield 75, 3) := by decide +kernel
theorem dX11_minutes_5 : decode cX11_minutes 5 = .ok (.iload_n 1, 1) := by decide +kernel
theorem dX11_minutes_6 : decode cX11_minutes 6 = .ok (.i2l, 1) := by decide +kernel
theorem dX11_minutes_7 : decode cX11_minutes 7 = .ok (.lconst 1, 1) := by decide +kernel
theorem dX11_minutes_8 : decode cX11_minutes 8 = .ok (.ldc2_w 235, 3) := by decide +kernel
theorem dX11_minutes_11 : decode cX11_minutes 11 = .ok (.invokestatic 81, 3) := by decide +kernel
theorem dX11_minutes_14 : decode cX11_minutes 14 = .ok (.ifCond .ne 5, 3) := by decide +kernel
theorem dX11_minutes_17 : decode cX11_minutes 17 = .ok (.iconst (-1), 1) := by decide +kernel
theorem dX11_minutes_18 : decode cX11_minutes 18 = .ok (.ireturn, 1) := by decide +kernel
theorem dX11_minutes_19 : decode cX11_minutes 19 = .ok (.aload_n 0, 1) := by decide +kernel
theorem dX11_minutes_20 : decode cX11_minutes 20 = .ok (.getfield 89, 3) := by decide +kernel
theorem dX11_minutes_23 : decode cX11_minutes 23 = .ok (.ifCond .eq 22, 3) := by decide +kernel
theorem dX11_minutes_26 : decode cX11_minutes 26 = .ok (.aload_n 0, 1) := by decide +kernel
theorem dX11_minutes_27 : decode cX11_minutes 27 = .ok (.getfield 122, 3) := by decide +kernel
theorem dX11_minutes_30 : decode cX11_minutes 30 = .ok (.ifCond .ne 15, 3) := by decide +kernel
theorem dX11_minutes_33 : decode cX11_minutes 33 = .ok (.aload_n 0, 1) := by decide +kernel
theorem dX11_minutes_34 : decode cX11_minutes 34 = .ok (.getfield 93, 3) := by decide +kernel
theorem dX11_minutes_37 : decode cX11_minutes 37 = .ok (.iload_n 1, 1) := by decide +kernel
theorem dX11_minutes_38 : decode cX11_minutes 38 = .ok (.iadd, 1) := by decide +kernel
theorem dX11_minutes_39 : decode cX11_minutes 39 = .ok (.sipush 999, 3) := by decide +kernel
theorem dX11_minutes_42 : decode cX11_minutes 42 = .ok (.if_icmp .le 6, 3) := by decide +kernel
theorem dX11_minutes_45 : decode cX11_minutes 45 = .ok (.bipush (-3), 2) := by decide +kernel
theorem dX11_minutes_47 : decode cX11_minutes 47 = .ok (.ireturn, 1) := by decide +kernel
theorem dX11_minutes_48 : decode cX11_minutes 48 = .ok (.aload_n 0, 1) := by decide +kernel
theorem dX11_minutes_49 : decode cX11_minutes 49 = .ok (.iload_n 1, 1) := by decide +kernel
theorem dX11_minutes_50 : decode cX11_minutes 50 = .ok (.invokevirtual 176, 3) := by decide +kernel
theorem dX11_minutes_53 : decode cX11_minutes 53 = .ok (.aload_n 0, 1) := by decide +kernel
theorem dX11_minutes_54 : decode cX11_minutes 54 = .ok (.getfield 93, 3) := by decide +kernel
theorem dX11_minutes_57 : decode cX11_minutes 57 = .ok (.ireturn, 1) := by decide +kernel
/-! minutes -/
def X11_minutes (st : MS) (v1 : Int32) : Option (Int32 × MS) :=
    nm (sF st 17 (0 : Int32)) fun st_1 =>
    bd1 (X11_in (v1.toInt64) (1 : Int64) (99 : Int64)) fun y_2 =>
    if y_2 = 0 then
      (some ((-1 : Int32), st_1))
    else
    if (gF st_1 5) = 0 then
      (some ((-3 : Int32), st_1))
    else
    if (gF st_1 7) = 0 then
      (if ((gF st_1 6) + v1) ≤ (999 : Int32) then
        (bnd (X11_goMinutes st_1 v1) fun _ st_8 =>
        some ((gF st_8 6), st_8))
      else
      some ((-3 : Int32), st_1))
    else
    some ((-3 : Int32), st_1)
abbrev rmX11_minutes : Room := { frames := 9, cells := 0, slots := 0, locals := 193 }
theorem hdX11_minutes : yX11_minutes.cls = RX11 ∧ yX11_minutes.cls ≠ "java/lang/invoke/MethodHandle" ∧ yX11_minutes.cls ≠ "java/lang/invoke/VarHandle" ∧ (parseMethodDescriptor yX11_minutes.desc).map (fun d => d.parameters.length) = some 1 := by decide +kernel
set_option maxRecDepth 100000 in
set_option maxHeartbeats 4000000 in
theorem okX11_minutes (l : Launch) (D : va_G) (a : Nat → Nat) (T : mT3) {st : MS} {v1 : Int32} {r : Int32} {st' : MS} (heq : X11_minutes st v1 = some (r, st')) : gCi l D (mT T) yX11_minutes wsX11_minutes rmX11_minutes [.ref (a 0), .int v1] (mW a T st) r (mW a T st') := by
  refine g_body_i (by decide) rfl (Nat.le_of_ble_eq_true rfl) (fun p e s m args below meth c A Q hx hb hml hown hts hK hA hret ls hP hD hS hl => ?_)
  have hl : lv_has ls 2 [(0, .ref (a 0)), (1, .int v1)] := hl
  have hin : ∀ w ∈ wsX110, w ∈ wsX11_minutes := fun w h => List.mem_cons_of_mem _ (List.mem_append_right _ h)
  have f75 : (Cond.fieldLink RX11 75 RX11 (TX11 17).2.1 (TX11 17).2.2.1).before args s = true := hts (.fieldLink RX11 75 "LaidDownTheLaneModel" "thrown" "I") (by decide +kernel)
  have f89 : (Cond.fieldLink RX11 89 RX11 (TX11 5).2.1 (TX11 5).2.2.1).before args s = true := hts (.fieldLink RX11 89 "LaidDownTheLaneModel" "isLit" "Z") (by decide +kernel)
  have f93 : (Cond.fieldLink RX11 93 RX11 (TX11 6).2.1 (TX11 6).2.2.1).before args s = true := hts (.fieldLink RX11 93 "LaidDownTheLaneModel" "minute" "I") (by decide +kernel)
  have f122 : (Cond.fieldLink RX11 122 RX11 (TX11 7).2.1 (TX11 7).2.2.1).before args s = true := hts (.fieldLink RX11 122 "LaidDownTheLaneModel" "isDown" "Z") (by decide +kernel)
  have c235 := hts (.constantLong RX11 235 (99)) (by decide +kernel)
  obtain ⟨H, hH⟩ : ∃ H, H = s.heap := ⟨_, rfl⟩
  obtain ⟨locs, hlocs⟩ : ∃ z : List Loc, z = [] := ⟨_, rfl⟩
  have hS : va_S A s.heap H locs := by rw [hH, hlocs]; exact hS
  have hP : va_P D vwCl (mW a T st) H := by rw [hH]; exact hP
  suffices h9 : W p l e rmX11_minutes s m args below meth c H locs 0 0 Q (F0 m 0 ls []) by rw [hH, hlocs] at h9; exact h9
  clear hH hlocs
  unfold X11_minutes at heq
  refine lv_aload_n hx hb dX11_minutes_0 rfl (lv_at hl 0 rfl) ?_
  refine lv_iconst (v := (0 : Int32)) hx hb dX11_minutes_1 (by decide) ?_
  refine mp (k := 17) hx hb hts hin hown hK hP hD hS (by decide) f75 dX11_minutes_2 rfl rfl rfl rfl (mset_17 ..) (fun H locs hP hD hS => ?_)
  obtain ⟨st_1, est_1⟩ : ∃ z, z = sF st 17 (0 : Int32) := ⟨_, rfl⟩
  rw [← est_1] at hP hD
  have heq := nm_h est_1 heq
  refine lv_iload_n hx hb dX11_minutes_5 rfl (lv_at hl 1 rfl) ?_
  refine lv_i2l hx hb dX11_minutes_6 rfl ?_
  refine lv_lconst (v := (1 : Int64)) hx hb dX11_minutes_7 (by decide) ?_
  refine lv_ldc2 (v := (99 : Int64)) hx hb hown c235 dX11_minutes_8 ?_
  obtain ⟨y_2, h_3, heq⟩ := bd1_h heq
  refine g_si (own := RX11) (D := D) (As := [.long (v1.toInt64), .long (1 : Int64), .long (99 : Int64)]) (rest := []) hx hb hml hown hts (okX11_in l D h_3) (cwS 3 hts gX11_minutes_X11_in rfl rfl rfl hdX11_in ⟨Nat.le_of_ble_eq_true rfl, Nat.le_of_ble_eq_true rfl⟩) hK hA hP hS rfl hl.1 rfl (Nat.le_of_ble_eq_true rfl) dX11_minutes_11 ⟨Nat.le_of_ble_eq_true rfl, Nat.le_of_ble_eq_true rfl⟩ (fun H locs hP hS => ?_)
  refine lv_if_ne (tgt := 19) hx hb dX11_minutes_14 (by decide) (fun c_4 => ?_) (fun c_4 => ?_)
  · have heq := it_f c_4 heq
    refine lv_aload_n hx hb dX11_minutes_19 rfl (lv_at hl 0 rfl) ?_
    refine mg (k := 5) (v := .int (gF st_1 5)) hx hb hts hin hown hK hP (by decide) f89 rfl dX11_minutes_20 rfl ?_
    refine lv_if_eq (tgt := 45) hx hb dX11_minutes_23 (by decide) (fun c_5 => ?_) (fun c_5 => ?_)
    · have heq := it_t c_5 heq
      refine lv_bipush (v := (-3 : Int32)) hx hb dX11_minutes_45 (by decide) ?_
      obtain ⟨heq, heq2⟩ := ret_h heq
      subst heq
      subst heq2
      exact hret 47 H locs ls hP hD hS rfl dX11_minutes_47
    have heq := it_f c_5 heq
    refine lv_aload_n hx hb dX11_minutes_26 rfl (lv_at hl 0 rfl) ?_
    refine mg (k := 7) (v := .int (gF st_1 7)) hx hb hts hin hown hK hP (by decide) f122 rfl dX11_minutes_27 rfl ?_
    refine lv_if_ne (tgt := 45) hx hb dX11_minutes_30 (by decide) (fun c_6 => ?_) (fun c_6 => ?_)
    · have heq := it_f c_6 heq
      refine lv_bipush (v := (-3 : Int32)) hx hb dX11_minutes_45 (by decide) ?_
      obtain ⟨heq, heq2⟩ := ret_h heq
      subst heq
      subst heq2
      exact hret 47 H locs ls hP hD hS rfl dX11_minutes_47
    have heq := it_t c_6 heq
    refine lv_aload_n hx hb dX11_minutes_33 rfl (lv_at hl 0 rfl) ?_
    refine mg (k := 6) (v := .int (gF st_1 6)) hx hb hts hin hown hK hP (by decide) f93 rfl dX11_minutes_34 rfl ?_
    refine lv_iload_n hx hb dX11_minutes_37 rfl (lv_at hl 1 rfl) ?_
    refine lv_iadd hx hb dX11_minutes_38 ?_
    refine lv_sipush (v := (999 : Int32)) hx hb dX11_minutes_39 (by decide) ?_
    refine lv_icmp_le (tgt := 48) hx hb dX11_minutes_42 (by decide) (fun c_7 => ?_) (fun c_7 => ?_)
    · have heq := it_t c_7 heq
      refine lv_aload_n hx hb dX11_minutes_48 rfl (lv_at hl 0 rfl) ?_
      refine lv_iload_n hx hb dX11_minutes_49 rfl (lv_at hl 1 rfl) ?_
      obtain ⟨⟨⟩, st_8, h_9, heq⟩ := bnd_h heq
      refine g_vv (own := RX11) (As := [.int v1]) (rest := []) hx hb hml hown hts (okX11_goMinutes l D a T h_9) (cwV 1 hts gX11_minutes_X11_goMinutes rfl rfl rfl hdX11_goMinutes ⟨Nat.le_of_ble_eq_true rfl, Nat.le_of_ble_eq_true rfl⟩) hK hA hP hD hS (ci := 11) (q0 := 0) rfl rfl rfl hl.1 rfl (Nat.le_of_ble_eq_true rfl) dX11_minutes_50 ⟨Nat.le_of_ble_eq_true rfl, Nat.le_of_ble_eq_true rfl⟩ (fun H locs hP hD hS => ?_)
      refine lv_aload_n hx hb dX11_minutes_53 rfl (lv_at hl 0 rfl) ?_
      refine mg (k := 6) (v := .int (gF st_8 6)) hx hb hts hin hown hK hP (by decide) f93 rfl dX11_minutes_54 rfl ?_
      obtain ⟨heq, heq2⟩ := ret_h heq
      subst heq
      subst heq2
      exact hret 57 H locs ls hP hD hS rfl dX11_minutes_57
    have heq := it_f c_7 heq
    refine lv_bipush (v := (-3 : Int32)) hx hb dX11_minutes_45 (by decide) ?_
    obtain ⟨heq, heq2⟩ := ret_h heq
    subst heq
    subst heq2
    exact hret 47 H locs ls hP hD hS rfl dX11_minutes_47
  have heq := it_t c_4 heq
  refine lv_iconst (v := (-1 : Int32)) hx hb dX11_minutes_17 (by decide) ?_
  obtain ⟨heq, heq2⟩ := ret_h heq
  subst heq
  subst heq2
  exact hret 18 H locs ls hP hD hS rfl dX11_minutes_18
set_option maxRecDepth 20000 in
theorem ggX11_anew_X11_settle : GoodIn wsX11_anew wsX11_settle := goodIn_r _ [11, 6, 12, 13, 14, 10, 15, 16, 17, 18, 19, 20, 21, 22, 23, 24, 25, 26, 27, 28, 29, 30, 31, 32, 33, 34, 35, 36, 37, 38, 39, 40, 41, 42, 43, 44, 45, 46, 4, 5, 47, 48, 49, 50, 51, 3, 2, 52, 53, 54, 55, 56, 57, 58, 59, 60, 61, 62, 63, 64, 65, 66, 67, 68, 69, 70, 71, 72, 73, 74, 75, 76, 77, 78, 79, 80, 81, 82, 83, 84, 85, 86, 87, 88, 89, 90, 91, 92] (by decide +kernel) (by decide +kernel)
set_option maxRecDepth 20000 in
theorem gX11_anew_X11_settle : GoodIn wsX11_anew (wsV RX11 173 RX11 yX11_settle wsX11_settle) := goodIn_app (goodIn_of _ (by decide +kernel)) ggX11_anew_X11_settle
theorem dX11_anew_0 : decode cX11_anew 0 = .ok (.aload_n 0, 1) := by decide +kernel
theorem dX11_anew_1 : decode cX11_anew 1 = .ok (.iconst 0, 1) := by decide +kernel
theorem dX11_anew_2 : decode cX11_anew 2 = .ok (.putfield 75, 3) := by decide +kernel
theorem dX11_anew_5 : decode cX11_anew 5 = .ok (.iconst 0, 1) := by decide +kernel
theorem dX11_anew_6 : decode cX11_anew 6 = .ok (.istore_n 1, 1) := by decide +kernel
theorem dX11_anew_7 : decode cX11_anew 7 = .ok (.iload_n 1, 1) := by decide +kernel
theorem dX11_anew_8 : decode cX11_anew 8 = .ok (.bipush 12, 2) := by decide +kernel
theorem dX11_anew_10 : decode cX11_anew 10 = .ok (.if_icmp .ge 23, 3) := by decide +kernel
theorem dX11_anew_13 : decode cX11_anew 13 = .ok (.aload_n 0, 1) := by decide +kernel
theorem dX11_anew_14 : decode cX11_anew 14 = .ok (.getfield 16, 3) := by decide +kernel
theorem dX11_anew_17 : decode cX11_anew 17 = .ok (.iload_n 1, 1) := by decide +kernel
theorem dX11_anew_18 : decode cX11_anew 18 = .ok (.iconst 0, 1) := by decide +kernel
theorem dX11_anew_19 : decode cX11_anew 19 = .ok (.iastore, 1) := by decide +kernel
theorem dX11_anew_20 : decode cX11_anew 20 = .ok (.aload_n 0, 1) := by decide +kernel
theorem dX11_anew_21 : decode cX11_anew 21 = .ok (.getfield 19, 3) := by decide +kernel
theorem dX11_anew_24 : decode cX11_anew 24 = .ok (.iload_n 1, 1) := by decide +kernel
theorem dX11_anew_25 : decode cX11_anew 25 = .ok (.iconst 0, 1) := by decide +kernel
theorem dX11_anew_26 : decode cX11_anew 26 = .ok (.iastore, 1) := by decide +kernel
theorem dX11_anew_27 : decode cX11_anew 27 = .ok (.iinc 1 1, 3) := by decide +kernel
theorem dX11_anew_30 : decode cX11_anew 30 = .ok (.goto (-23), 3) := by decide +kernel
theorem dX11_anew_33 : decode cX11_anew 33 = .ok (.aload_n 0, 1) := by decide +kernel
theorem dX11_anew_34 : decode cX11_anew 34 = .ok (.iconst 0, 1) := by decide +kernel
theorem dX11_anew_35 : decode cX11_anew 35 = .ok (.putfield 89, 3) := by decide +kernel
theorem dX11_anew_38 : decode cX11_anew 38 = .ok (.aload_n 0, 1) := by decide +kernel
theorem dX11_anew_39 : decode cX11_anew 39 = .ok (.iconst 0, 1) := by decide +kernel
theorem dX11_anew_40 : decode cX11_anew 40 = .ok (.putfield 93, 3) := by decide +kernel
theorem dX11_anew_43 : decode cX11_anew 43 = .ok (.aload_n 0, 1) := by decide +kernel
theorem dX11_anew_44 : decode cX11_anew 44 = .ok (.iconst 0, 1) := by decide +kernel
theorem dX11_anew_45 : decode cX11_anew 45 = .ok (.putfield 122, 3) := by decide +kernel
theorem dX11_anew_48 : decode cX11_anew 48 = .ok (.aload_n 0, 1) := by decide +kernel
theorem dX11_anew_49 : decode cX11_anew 49 = .ok (.invokevirtual 173, 3) := by decide +kernel
theorem dX11_anew_52 : decode cX11_anew 52 = .ok (.iconst 0, 1) := by decide +kernel
theorem dX11_anew_53 : decode cX11_anew 53 = .ok (.ireturn, 1) := by decide +kernel
/-! anew -/
def X11_anew_p33 (st : MS) : Option (Int32 × MS) :=
    gz (0 : Int32) <|
    nm (sF st 5 (0 : Int32)) fun st_1 =>
    nm (sF st_1 6 (0 : Int32)) fun st_3 =>
    gz (0 : Int32) <|
    nm (sF st_3 7 (0 : Int32)) fun st_4 =>
    bnd (X11_settle st_4) fun _ st_6 =>
    some ((0 : Int32), st_6)
def X11_anew_p7 : Nat → MS → Int32 → Option (Int32 × MS)
  | 0, _, _ => none
  | n + 1, st, v1 =>
    if (12 : Int32) ≤ v1 then
      (X11_anew_p33 st)
    else
    inr v1 12 <|
    nm (sA st 2 v1.toNatClampNeg (0 : Int32)) fun st_10 =>
    inr v1 12 <|
    nm (sA st_10 3 v1.toNatClampNeg (0 : Int32)) fun st_12 =>
    nm (v1 + (1 : Int32)) fun x_13 =>
    X11_anew_p7  n st_12 x_13
theorem X11_anew_p7_s (n : Nat) (st : MS) (v1 : Int32) : X11_anew_p7  (n + 1) st v1 =
    (if (12 : Int32) ≤ v1 then
      (X11_anew_p33 st)
    else
    inr v1 12 <|
    nm (sA st 2 v1.toNatClampNeg (0 : Int32)) fun st_10 =>
    inr v1 12 <|
    nm (sA st_10 3 v1.toNatClampNeg (0 : Int32)) fun st_12 =>
    nm (v1 + (1 : Int32)) fun x_13 =>
    X11_anew_p7  n st_12 x_13) := rfl
def X11_anew (st : MS) : Option (Int32 × MS) :=
    nm (sF st 17 (0 : Int32)) fun st_14 =>
    X11_anew_p7 13 st_14 (0 : Int32)
abbrev rmX11_anew : Room := { frames := 8, cells := 0, slots := 0, locals := 171 }
theorem hdX11_anew : yX11_anew.cls = RX11 ∧ yX11_anew.cls ≠ "java/lang/invoke/MethodHandle" ∧ yX11_anew.cls ≠ "java/lang/invoke/VarHandle" ∧ (parseMethodDescriptor yX11_anew.desc).map (fun d => d.parameters.length) = some 0 := by decide +kernel
set_option maxRecDepth 100000 in
set_option maxHeartbeats 4000000 in
theorem okX11_anew (l : Launch) (D : va_G) (a : Nat → Nat) (T : mT3) {st : MS} {r : Int32} {st' : MS} (heq : X11_anew st = some (r, st')) : gCi l D (mT T) yX11_anew wsX11_anew rmX11_anew [.ref (a 0)] (mW a T st) r (mW a T st') := by
  refine g_body_i (by decide) rfl (Nat.le_of_ble_eq_true rfl) (fun p e s m args below meth c A Q hx hb hml hown hts hK hA hret ls hP hD hS hl => ?_)
  have hl : lv_has ls 2 [(0, .ref (a 0))] := hl
  have hin : ∀ w ∈ wsX110, w ∈ wsX11_anew := fun w h => List.mem_cons_of_mem _ (List.mem_append_right _ h)
  have f16 : (Cond.fieldLink RX11 16 RX11 (TX11 2).2.1 (TX11 2).2.2.1).before args s = true := hts (.fieldLink RX11 16 "LaidDownTheLaneModel" "kinds" "[I") (by decide +kernel)
  have f19 : (Cond.fieldLink RX11 19 RX11 (TX11 3).2.1 (TX11 3).2.2.1).before args s = true := hts (.fieldLink RX11 19 "LaidDownTheLaneModel" "figures" "[I") (by decide +kernel)
  have f75 : (Cond.fieldLink RX11 75 RX11 (TX11 17).2.1 (TX11 17).2.2.1).before args s = true := hts (.fieldLink RX11 75 "LaidDownTheLaneModel" "thrown" "I") (by decide +kernel)
  have f89 : (Cond.fieldLink RX11 89 RX11 (TX11 5).2.1 (TX11 5).2.2.1).before args s = true := hts (.fieldLink RX11 89 "LaidDownTheLaneModel" "isLit" "Z") (by decide +kernel)
  have f93 : (Cond.fieldLink RX11 93 RX11 (TX11 6).2.1 (TX11 6).2.2.1).before args s = true := hts (.fieldLink RX11 93 "LaidDownTheLaneModel" "minute" "I") (by decide +kernel)
  have f122 : (Cond.fieldLink RX11 122 RX11 (TX11 7).2.1 (TX11 7).2.2.1).before args s = true := hts (.fieldLink RX11 122 "LaidDownTheLaneModel" "isDown" "Z") (by decide +kernel)
  have b33 : ∀ (st : MS) (H : Heap) (locs : List Loc) (ls : Array Slot), va_P D vwCl (mW a T st) H → va_D A (mW a T st) → va_S A s.heap H locs → lv_has ls 2 [(0, .ref (a 0))] → X11_anew_p33  st = some (r, st') → W p l e rmX11_anew s m args below meth c H locs 0 0 Q (F0 m 33 ls []) := by
    intro st H locs ls hP hD hS hl heq
    unfold X11_anew_p33 at heq
    refine lv_aload_n hx hb dX11_anew_33 rfl (lv_at hl 0 rfl) ?_
    refine lv_iconst (v := (0 : Int32)) hx hb dX11_anew_34 (by decide) ?_
    obtain ⟨n_2, n_2f, heq⟩ := gz_h heq
    refine mp (k := 5) hx hb hts hin hown hK hP hD hS (by decide) f89 dX11_anew_35 rfl rfl n_2 n_2f (mset_5 ..) (fun H locs hP hD hS => ?_)
    obtain ⟨st_1, est_1⟩ : ∃ z, z = sF st 5 (0 : Int32) := ⟨_, rfl⟩
    rw [← est_1] at hP hD
    have heq := nm_h est_1 heq
    refine lv_aload_n hx hb dX11_anew_38 rfl (lv_at hl 0 rfl) ?_
    refine lv_iconst (v := (0 : Int32)) hx hb dX11_anew_39 (by decide) ?_
    refine mp (k := 6) hx hb hts hin hown hK hP hD hS (by decide) f93 dX11_anew_40 rfl rfl rfl rfl (mset_6 ..) (fun H locs hP hD hS => ?_)
    obtain ⟨st_3, est_3⟩ : ∃ z, z = sF st_1 6 (0 : Int32) := ⟨_, rfl⟩
    rw [← est_3] at hP hD
    have heq := nm_h est_3 heq
    refine lv_aload_n hx hb dX11_anew_43 rfl (lv_at hl 0 rfl) ?_
    refine lv_iconst (v := (0 : Int32)) hx hb dX11_anew_44 (by decide) ?_
    obtain ⟨n_5, n_5f, heq⟩ := gz_h heq
    refine mp (k := 7) hx hb hts hin hown hK hP hD hS (by decide) f122 dX11_anew_45 rfl rfl n_5 n_5f (mset_7 ..) (fun H locs hP hD hS => ?_)
    obtain ⟨st_4, est_4⟩ : ∃ z, z = sF st_3 7 (0 : Int32) := ⟨_, rfl⟩
    rw [← est_4] at hP hD
    have heq := nm_h est_4 heq
    refine lv_aload_n hx hb dX11_anew_48 rfl (lv_at hl 0 rfl) ?_
    obtain ⟨⟨⟩, st_6, h_7, heq⟩ := bnd_h heq
    refine g_vv (own := RX11) (As := []) (rest := []) hx hb hml hown hts (okX11_settle l D a T h_7) (cwV 0 hts gX11_anew_X11_settle rfl rfl rfl hdX11_settle ⟨Nat.le_of_ble_eq_true rfl, Nat.le_of_ble_eq_true rfl⟩) hK hA hP hD hS (ci := 11) (q0 := 0) rfl rfl rfl hl.1 rfl (Nat.le_of_ble_eq_true rfl) dX11_anew_49 ⟨Nat.le_of_ble_eq_true rfl, Nat.le_of_ble_eq_true rfl⟩ (fun H locs hP hD hS => ?_)
    refine lv_iconst (v := (0 : Int32)) hx hb dX11_anew_52 (by decide) ?_
    obtain ⟨heq, heq2⟩ := ret_h heq
    subst heq
    subst heq2
    exact hret 53 H locs ls hP hD hS rfl dX11_anew_53
  have b7 : ∀ (n : Nat), ∀ (st : MS) (v1 : Int32) (H : Heap) (locs : List Loc) (ls : Array Slot), va_P D vwCl (mW a T st) H → va_D A (mW a T st) → va_S A s.heap H locs → lv_has ls 2 [(0, .ref (a 0)), (1, .int v1)] → X11_anew_p7  n st v1 = some (r, st') → W p l e rmX11_anew s m args below meth c H locs 0 0 Q (F0 m 7 ls []) := by
    intro n
    induction n with
    | zero => intro st v1 H locs ls hP hD hS hl heq; cases heq
    | succ n ih =>
      intro st v1 H locs ls hP hD hS hl heq
      rw [X11_anew_p7_s] at heq
      refine lv_iload_n hx hb dX11_anew_7 rfl (lv_at hl 1 rfl) ?_
      refine lv_bipush (v := (12 : Int32)) hx hb dX11_anew_8 (by decide) ?_
      refine lv_icmp_ge (tgt := 33) hx hb dX11_anew_10 (by decide) (fun c_8 => ?_) (fun c_8 => ?_)
      · have heq := it_t c_8 heq
        exact b33 st H locs ls hP hD hS (lv_sub hl [0] rfl) heq
      have heq := it_f c_8 heq
      refine lv_aload_n hx hb dX11_anew_13 rfl (lv_at hl 0 rfl) ?_
      refine mg (k := 2) (v := .ref (a 3)) hx hb hts hin hown hK hP (by decide) f16 rfl dX11_anew_14 rfl ?_
      refine lv_iload_n hx hb dX11_anew_17 rfl (lv_at hl 1 rfl) ?_
      refine lv_iconst (v := (0 : Int32)) hx hb dX11_anew_18 (by decide) ?_
      obtain ⟨n_9, heq⟩ := inr_h heq
      refine mas (k := 2) (q := 3) (n := 12) hx hb hK hP hD hS rfl (maset_2 ..) n_9 dX11_anew_19 (fun H locs hP hD hS => ?_)
      obtain ⟨st_10, est_10⟩ : ∃ z, z = sA st 2 v1.toNatClampNeg (0 : Int32) := ⟨_, rfl⟩
      rw [← est_10] at hP hD
      have heq := nm_h est_10 heq
      refine lv_aload_n hx hb dX11_anew_20 rfl (lv_at hl 0 rfl) ?_
      refine mg (k := 3) (v := .ref (a 4)) hx hb hts hin hown hK hP (by decide) f19 rfl dX11_anew_21 rfl ?_
      refine lv_iload_n hx hb dX11_anew_24 rfl (lv_at hl 1 rfl) ?_
      refine lv_iconst (v := (0 : Int32)) hx hb dX11_anew_25 (by decide) ?_
      obtain ⟨n_11, heq⟩ := inr_h heq
      refine mas (k := 3) (q := 4) (n := 12) hx hb hK hP hD hS rfl (maset_3 ..) n_11 dX11_anew_26 (fun H locs hP hD hS => ?_)
      obtain ⟨st_12, est_12⟩ : ∃ z, z = sA st_10 3 v1.toNatClampNeg (0 : Int32) := ⟨_, rfl⟩
      rw [← est_12] at hP hD
      have heq := nm_h est_12 heq
      obtain ⟨x_13, ex_13⟩ : ∃ y : Int32, y = v1 + (1 : Int32) := ⟨_, rfl⟩
      have heq := nm_h ex_13 heq
      refine lv_iinc (v := x_13) (lv' := [(1, .int x_13), (0, .ref (a 0))]) hx hb dX11_anew_27 hl (k := 1) rfl (by rw [ex_13]; rfl) (by decide) rfl (fun ls hl => ?_)
      refine lv_goto (tgt := 7) hx hb dX11_anew_30 (by decide) ?_
      exact ih st_12 x_13 H locs ls hP hD hS (lv_sub hl [1, 0] rfl) heq
  obtain ⟨H, hH⟩ : ∃ H, H = s.heap := ⟨_, rfl⟩
  obtain ⟨locs, hlocs⟩ : ∃ z : List Loc, z = [] := ⟨_, rfl⟩
  have hS : va_S A s.heap H locs := by rw [hH, hlocs]; exact hS
  have hP : va_P D vwCl (mW a T st) H := by rw [hH]; exact hP
  suffices h9 : W p l e rmX11_anew s m args below meth c H locs 0 0 Q (F0 m 0 ls []) by rw [hH, hlocs] at h9; exact h9
  clear hH hlocs
  unfold X11_anew at heq
  refine lv_aload_n hx hb dX11_anew_0 rfl (lv_at hl 0 rfl) ?_
  refine lv_iconst (v := (0 : Int32)) hx hb dX11_anew_1 (by decide) ?_
  refine mp (k := 17) hx hb hts hin hown hK hP hD hS (by decide) f75 dX11_anew_2 rfl rfl rfl rfl (mset_17 ..) (fun H locs hP hD hS => ?_)
  obtain ⟨st_14, est_14⟩ : ∃ z, z = sF st 17 (0 : Int32) := ⟨_, rfl⟩
  rw [← est_14] at hP hD
  have heq := nm_h est_14 heq
  refine lv_iconst (v := (0 : Int32)) hx hb dX11_anew_5 (by decide) ?_
  refine lv_istore_n (lv' := [(1, .int (0 : Int32)), (0, .ref (a 0))]) hx hb dX11_anew_6 rfl hl (by decide) rfl (fun ls hl => ?_)
  exact b7 13 st_14 (0 : Int32) H locs ls hP hD hS (lv_sub hl [1, 0] rfl) heq
set_option maxRecDepth 20000 in
theorem ggX11_presses_X11_isSide : GoodIn wsX11_presses wsX11_isSide := goodIn_r _ [6, 7, 8, 9, 5, 10] (by decide +kernel) (by decide +kernel)
set_option maxRecDepth 20000 in
theorem gX11_presses_X11_isSide : GoodIn wsX11_presses (va_wsS RX11 165 yX11_isSide wsX11_isSide) := goodIn_app (goodIn_of _ (by decide +kernel)) ggX11_presses_X11_isSide
set_option maxRecDepth 20000 in
theorem ggX11_presses_X11_pressesTo : GoodIn wsX11_presses wsX11_pressesTo := goodIn_r _ [14, 15, 16, 17, 18, 5, 19, 20, 21, 22, 23, 24, 25, 26, 27, 28, 29, 30, 31, 32, 33, 34, 35, 36, 37, 38, 39, 40, 41, 42, 43, 44, 45, 46, 47, 48, 49, 50, 51, 52, 53, 54, 55, 56, 57, 58] (by decide +kernel) (by decide +kernel)
set_option maxRecDepth 20000 in
theorem gX11_presses_X11_pressesTo : GoodIn wsX11_presses (wsV RX11 106 RX11 yX11_pressesTo wsX11_pressesTo) := goodIn_app (goodIn_of _ (by decide +kernel)) ggX11_presses_X11_pressesTo
theorem dX11_presses_0 : decode cX11_presses 0 = .ok (.aload_n 0, 1) := by decide +kernel
theorem dX11_presses_1 : decode cX11_presses 1 = .ok (.iconst 0, 1) := by decide +kernel
theorem dX11_presses_2 : decode cX11_presses 2 = .ok (.putfield 75, 3) := by decide +kernel
theorem dX11_presses_5 : decode cX11_presses 5 = .ok (.iload_n 1, 1) := by decide +kernel
theorem dX11_presses_6 : decode cX11_presses 6 = .ok (.invokestatic 165, 3) := by decide +kernel
theorem dX11_presses_9 : decode cX11_presses 9 = .ok (.ifCond .eq 11, 3) := by decide +kernel
theorem dX11_presses_12 : decode cX11_presses 12 = .ok (.aload_n 0, 1) := by decide +kernel
theorem dX11_presses_13 : decode cX11_presses 13 = .ok (.iload_n 1, 1) := by decide +kernel
theorem dX11_presses_14 : decode cX11_presses 14 = .ok (.invokevirtual 106, 3) := by decide +kernel
theorem dX11_presses_17 : decode cX11_presses 17 = .ok (.goto 5, 3) := by decide +kernel
theorem dX11_presses_20 : decode cX11_presses 20 = .ok (.ldc 237, 2) := by decide +kernel
theorem dX11_presses_22 : decode cX11_presses 22 = .ok (.ireturn, 1) := by decide +kernel
/-! presses -/
def X11_presses_p22 (st : MS) (t0 : Int32) : Option (Int32 × MS) :=
    some (t0, st)
def X11_presses (st : MS) (v1 : Int32) : Option (Int32 × MS) :=
    nm (sF st 17 (0 : Int32)) fun st_1 =>
    bd1 (X11_isSide v1) fun y_2 =>
    if y_2 = 0 then
      (X11_presses_p22 st_1 (-1000000001 : Int32))
    else
    bnd (X11_pressesTo st_1 v1) fun y_6 st_5 =>
    X11_presses_p22 st_5 y_6
abbrev rmX11_presses : Room := { frames := 2, cells := 0, slots := 0, locals := 45 }
theorem hdX11_presses : yX11_presses.cls = RX11 ∧ yX11_presses.cls ≠ "java/lang/invoke/MethodHandle" ∧ yX11_presses.cls ≠ "java/lang/invoke/VarHandle" ∧ (parseMethodDescriptor yX11_presses.desc).map (fun d => d.parameters.length) = some 1 := by decide +kernel
set_option maxRecDepth 100000 in
set_option maxHeartbeats 4000000 in
theorem okX11_presses (l : Launch) (D : va_G) (a : Nat → Nat) (T : mT3) {st : MS} {v1 : Int32} {r : Int32} {st' : MS} (heq : X11_presses st v1 = some (r, st')) : gCi l D (mT T) yX11_presses wsX11_presses rmX11_presses [.ref (a 0), .int v1] (mW a T st) r (mW a T st') := by
  refine g_body_i (by decide) rfl (Nat.le_of_ble_eq_true rfl) (fun p e s m args below meth c A Q hx hb hml hown hts hK hA hret ls hP hD hS hl => ?_)
  have hl : lv_has ls 2 [(0, .ref (a 0)), (1, .int v1)] := hl
  have hin : ∀ w ∈ wsX110, w ∈ wsX11_presses := fun w h => List.mem_cons_of_mem _ (List.mem_append_right _ h)
  have f75 : (Cond.fieldLink RX11 75 RX11 (TX11 17).2.1 (TX11 17).2.2.1).before args s = true := hts (.fieldLink RX11 75 "LaidDownTheLaneModel" "thrown" "I") (by decide +kernel)
  have c237 := hts (.constant RX11 237 (-1000000001)) (by decide +kernel)
  have b22 : ∀ (st : MS) (t0 : Int32) (H : Heap) (locs : List Loc) (ls : Array Slot), va_P D vwCl (mW a T st) H → va_D A (mW a T st) → va_S A s.heap H locs → lv_has ls 2 [] → X11_presses_p22  st t0 = some (r, st') → W p l e rmX11_presses s m args below meth c H locs 0 0 Q (F0 m 22 ls [.int t0]) := by
    intro st t0 H locs ls hP hD hS hl heq
    unfold X11_presses_p22 at heq
    obtain ⟨heq, heq2⟩ := ret_h heq
    subst heq
    subst heq2
    exact hret 22 H locs ls hP hD hS rfl dX11_presses_22
  obtain ⟨H, hH⟩ : ∃ H, H = s.heap := ⟨_, rfl⟩
  obtain ⟨locs, hlocs⟩ : ∃ z : List Loc, z = [] := ⟨_, rfl⟩
  have hS : va_S A s.heap H locs := by rw [hH, hlocs]; exact hS
  have hP : va_P D vwCl (mW a T st) H := by rw [hH]; exact hP
  suffices h9 : W p l e rmX11_presses s m args below meth c H locs 0 0 Q (F0 m 0 ls []) by rw [hH, hlocs] at h9; exact h9
  clear hH hlocs
  unfold X11_presses at heq
  refine lv_aload_n hx hb dX11_presses_0 rfl (lv_at hl 0 rfl) ?_
  refine lv_iconst (v := (0 : Int32)) hx hb dX11_presses_1 (by decide) ?_
  refine mp (k := 17) hx hb hts hin hown hK hP hD hS (by decide) f75 dX11_presses_2 rfl rfl rfl rfl (mset_17 ..) (fun H locs hP hD hS => ?_)
  obtain ⟨st_1, est_1⟩ : ∃ z, z = sF st 17 (0 : Int32) := ⟨_, rfl⟩
  rw [← est_1] at hP hD
  have heq := nm_h est_1 heq
  refine lv_iload_n hx hb dX11_presses_5 rfl (lv_at hl 1 rfl) ?_
  obtain ⟨y_2, h_3, heq⟩ := bd1_h heq
  refine g_si (own := RX11) (D := D) (As := [.int v1]) (rest := []) hx hb hml hown hts (okX11_isSide l D h_3) (cwS 1 hts gX11_presses_X11_isSide rfl rfl rfl hdX11_isSide ⟨Nat.le_of_ble_eq_true rfl, Nat.le_of_ble_eq_true rfl⟩) hK hA hP hS rfl hl.1 rfl (Nat.le_of_ble_eq_true rfl) dX11_presses_6 ⟨Nat.le_of_ble_eq_true rfl, Nat.le_of_ble_eq_true rfl⟩ (fun H locs hP hS => ?_)
  refine lv_if_eq (tgt := 20) hx hb dX11_presses_9 (by decide) (fun c_4 => ?_) (fun c_4 => ?_)
  · have heq := it_t c_4 heq
    refine lv_ldc (v := (-1000000001 : Int32)) hx hb hown c237 dX11_presses_20 ?_
    exact b22 st_1 (-1000000001 : Int32) H locs ls hP hD hS (lv_sub hl [] rfl) heq
  have heq := it_f c_4 heq
  refine lv_aload_n hx hb dX11_presses_12 rfl (lv_at hl 0 rfl) ?_
  refine lv_iload_n hx hb dX11_presses_13 rfl (lv_at hl 1 rfl) ?_
  obtain ⟨y_6, st_5, h_7, heq⟩ := bnd_h heq
  refine g_vi (own := RX11) (As := [.int v1]) (rest := []) hx hb hml hown hts (okX11_pressesTo l D a T h_7) (cwV 1 hts gX11_presses_X11_pressesTo rfl rfl rfl hdX11_pressesTo ⟨Nat.le_of_ble_eq_true rfl, Nat.le_of_ble_eq_true rfl⟩) hK hA hP hD hS (ci := 11) (q0 := 0) rfl rfl rfl hl.1 rfl (Nat.le_of_ble_eq_true rfl) dX11_presses_14 ⟨Nat.le_of_ble_eq_true rfl, Nat.le_of_ble_eq_true rfl⟩ (fun H locs hP hD hS => ?_)
  refine lv_goto (tgt := 22) hx hb dX11_presses_17 (by decide) ?_
  exact b22 st_5 y_6 H locs ls hP hD hS (lv_sub hl [] rfl) heq
set_option maxRecDepth 20000 in
theorem ggX11_holds_X11_isSide : GoodIn wsX11_holds wsX11_isSide := goodIn_r _ [5, 6, 7, 8, 4, 9] (by decide +kernel) (by decide +kernel)
set_option maxRecDepth 20000 in
theorem gX11_holds_X11_isSide : GoodIn wsX11_holds (va_wsS RX11 165 yX11_isSide wsX11_isSide) := goodIn_app (goodIn_of _ (by decide +kernel)) ggX11_holds_X11_isSide
set_option maxRecDepth 20000 in
theorem ggX11_holds_X11_holdsOn : GoodIn wsX11_holds wsX11_holdsOn := goodIn_r _ [13, 14, 15, 16, 4, 17, 18, 19, 20, 21, 22, 23, 24, 25, 26, 27, 28, 29, 30, 31, 32, 33, 34, 35, 36, 37, 38, 39, 40, 41, 42, 43, 44, 45, 46, 47, 48, 49, 50, 51, 52, 53, 54, 55, 56, 57, 58, 59, 60, 61, 62, 63, 64, 65, 66, 67, 68, 69, 70, 71, 72, 73] (by decide +kernel) (by decide +kernel)
set_option maxRecDepth 20000 in
theorem gX11_holds_X11_holdsOn : GoodIn wsX11_holds (wsV RX11 109 RX11 yX11_holdsOn wsX11_holdsOn) := goodIn_app (goodIn_of _ (by decide +kernel)) ggX11_holds_X11_holdsOn
theorem dX11_holds_0 : decode cX11_holds 0 = .ok (.aload_n 0, 1) := by decide +kernel
theorem dX11_holds_1 : decode cX11_holds 1 = .ok (.iconst 0, 1) := by decide +kernel
theorem dX11_holds_2 : decode cX11_holds 2 = .ok (.putfield 75, 3) := by decide +kernel
theorem dX11_holds_5 : decode cX11_holds 5 = .ok (.iload_n 1, 1) := by decide +kernel
theorem dX11_holds_6 : decode cX11_holds 6 = .ok (.invokestatic 165, 3) := by decide +kernel
theorem dX11_holds_9 : decode cX11_holds 9 = .ok (.ifCond .eq 11, 3) := by decide +kernel
theorem dX11_holds_12 : decode cX11_holds 12 = .ok (.aload_n 0, 1) := by decide +kernel
theorem dX11_holds_13 : decode cX11_holds 13 = .ok (.iload_n 1, 1) := by decide +kernel
theorem dX11_holds_14 : decode cX11_holds 14 = .ok (.invokevirtual 109, 3) := by decide +kernel
theorem dX11_holds_17 : decode cX11_holds 17 = .ok (.goto 4, 3) := by decide +kernel
theorem dX11_holds_20 : decode cX11_holds 20 = .ok (.iconst (-1), 1) := by decide +kernel
theorem dX11_holds_21 : decode cX11_holds 21 = .ok (.ireturn, 1) := by decide +kernel
/-! holds -/
def X11_holds_p21 (st : MS) (t0 : Int32) : Option (Int32 × MS) :=
    some (t0, st)
def X11_holds (st : MS) (v1 : Int32) : Option (Int32 × MS) :=
    nm (sF st 17 (0 : Int32)) fun st_1 =>
    bd1 (X11_isSide v1) fun y_2 =>
    if y_2 = 0 then
      (X11_holds_p21 st_1 (-1 : Int32))
    else
    bnd (X11_holdsOn st_1 v1) fun y_6 st_5 =>
    X11_holds_p21 st_5 y_6
abbrev rmX11_holds : Room := { frames := 3, cells := 0, slots := 0, locals := 67 }
theorem hdX11_holds : yX11_holds.cls = RX11 ∧ yX11_holds.cls ≠ "java/lang/invoke/MethodHandle" ∧ yX11_holds.cls ≠ "java/lang/invoke/VarHandle" ∧ (parseMethodDescriptor yX11_holds.desc).map (fun d => d.parameters.length) = some 1 := by decide +kernel
set_option maxRecDepth 100000 in
set_option maxHeartbeats 4000000 in
theorem okX11_holds (l : Launch) (D : va_G) (a : Nat → Nat) (T : mT3) {st : MS} {v1 : Int32} {r : Int32} {st' : MS} (heq : X11_holds st v1 = some (r, st')) : gCi l D (mT T) yX11_holds wsX11_holds rmX11_holds [.ref (a 0), .int v1] (mW a T st) r (mW a T st') := by
  refine g_body_i (by decide) rfl (Nat.le_of_ble_eq_true rfl) (fun p e s m args below meth c A Q hx hb hml hown hts hK hA hret ls hP hD hS hl => ?_)
  have hl : lv_has ls 2 [(0, .ref (a 0)), (1, .int v1)] := hl
  have hin : ∀ w ∈ wsX110, w ∈ wsX11_holds := fun w h => List.mem_cons_of_mem _ (List.mem_append_right _ h)
  have f75 : (Cond.fieldLink RX11 75 RX11 (TX11 17).2.1 (TX11 17).2.2.1).before args s = true := hts (.fieldLink RX11 75 "LaidDownTheLaneModel" "thrown" "I") (by decide +kernel)
  have b21 : ∀ (st : MS) (t0 : Int32) (H : Heap) (locs : List Loc) (ls : Array Slot), va_P D vwCl (mW a T st) H → va_D A (mW a T st) → va_S A s.heap H locs → lv_has ls 2 [] → X11_holds_p21  st t0 = some (r, st') → W p l e rmX11_holds s m args below meth c H locs 0 0 Q (F0 m 21 ls [.int t0]) := by
    intro st t0 H locs ls hP hD hS hl heq
    unfold X11_holds_p21 at heq
    obtain ⟨heq, heq2⟩ := ret_h heq
    subst heq
    subst heq2
    exact hret 21 H locs ls hP hD hS rfl dX11_holds_21
  obtain ⟨H, hH⟩ : ∃ H, H = s.heap := ⟨_, rfl⟩
  obtain ⟨locs, hlocs⟩ : ∃ z : List Loc, z = [] := ⟨_, rfl⟩
  have hS : va_S A s.heap H locs := by rw [hH, hlocs]; exact hS
  have hP : va_P D vwCl (mW a T st) H := by rw [hH]; exact hP
  suffices h9 : W p l e rmX11_holds s m args below meth c H locs 0 0 Q (F0 m 0 ls []) by rw [hH, hlocs] at h9; exact h9
  clear hH hlocs
  unfold X11_holds at heq
  refine lv_aload_n hx hb dX11_holds_0 rfl (lv_at hl 0 rfl) ?_
  refine lv_iconst (v := (0 : Int32)) hx hb dX11_holds_1 (by decide) ?_
  refine mp (k := 17) hx hb hts hin hown hK hP hD hS (by decide) f75 dX11_holds_2 rfl rfl rfl rfl (mset_17 ..) (fun H locs hP hD hS => ?_)
  obtain ⟨st_1, est_1⟩ : ∃ z, z = sF st 17 (0 : Int32) := ⟨_, rfl⟩
  rw [← est_1] at hP hD
  have heq := nm_h est_1 heq
  refine lv_iload_n hx hb dX11_holds_5 rfl (lv_at hl 1 rfl) ?_
  obtain ⟨y_2, h_3, heq⟩ := bd1_h heq
  refine g_si (own := RX11) (D := D) (As := [.int v1]) (rest := []) hx hb hml hown hts (okX11_isSide l D h_3) (cwS 1 hts gX11_holds_X11_isSide rfl rfl rfl hdX11_isSide ⟨Nat.le_of_ble_eq_true rfl, Nat.le_of_ble_eq_true rfl⟩) hK hA hP hS rfl hl.1 rfl (Nat.le_of_ble_eq_true rfl) dX11_holds_6 ⟨Nat.le_of_ble_eq_true rfl, Nat.le_of_ble_eq_true rfl⟩ (fun H locs hP hS => ?_)
  refine lv_if_eq (tgt := 20) hx hb dX11_holds_9 (by decide) (fun c_4 => ?_) (fun c_4 => ?_)
  · have heq := it_t c_4 heq
    refine lv_iconst (v := (-1 : Int32)) hx hb dX11_holds_20 (by decide) ?_
    exact b21 st_1 (-1 : Int32) H locs ls hP hD hS (lv_sub hl [] rfl) heq
  have heq := it_f c_4 heq
  refine lv_aload_n hx hb dX11_holds_12 rfl (lv_at hl 0 rfl) ?_
  refine lv_iload_n hx hb dX11_holds_13 rfl (lv_at hl 1 rfl) ?_
  obtain ⟨y_6, st_5, h_7, heq⟩ := bnd_h heq
  refine g_vi (own := RX11) (As := [.int v1]) (rest := []) hx hb hml hown hts (okX11_holdsOn l D a T h_7) (cwV 1 hts gX11_holds_X11_holdsOn rfl rfl rfl hdX11_holdsOn ⟨Nat.le_of_ble_eq_true rfl, Nat.le_of_ble_eq_true rfl⟩) hK hA hP hD hS (ci := 11) (q0 := 0) rfl rfl rfl hl.1 rfl (Nat.le_of_ble_eq_true rfl) dX11_holds_14 ⟨Nat.le_of_ble_eq_true rfl, Nat.le_of_ble_eq_true rfl⟩ (fun H locs hP hD hS => ?_)
  refine lv_goto (tgt := 21) hx hb dX11_holds_17 (by decide) ?_
  exact b21 st_5 y_6 H locs ls hP hD hS (lv_sub hl [] rfl) heq
set_option maxRecDepth 20000 in
theorem ggX11_lacks_X11_isSide : GoodIn wsX11_lacks wsX11_isSide := goodIn_r _ [6, 7, 8, 9, 5, 10] (by decide +kernel) (by decide +kernel)
set_option maxRecDepth 20000 in
theorem gX11_lacks_X11_isSide : GoodIn wsX11_lacks (va_wsS RX11 165 yX11_isSide wsX11_isSide) := goodIn_app (goodIn_of _ (by decide +kernel)) ggX11_lacks_X11_isSide
set_option maxRecDepth 20000 in
theorem ggX11_lacks_X11_lacksOn : GoodIn wsX11_lacks wsX11_lacksOn := goodIn_r _ [14, 15, 16, 17, 5, 18, 19, 20, 21, 22, 23, 24, 25, 26, 27, 28, 29, 30, 31, 32, 33, 34, 35, 36, 37, 38, 39, 40, 41, 42, 43, 44, 45, 46, 47, 48, 49, 50, 51, 52, 53, 54, 55, 56, 57, 58, 59, 60, 61, 62, 63, 64, 65, 66, 67, 68, 69, 70, 71, 72, 73, 74, 75, 76, 77, 78, 79, 80, 81, 82, 83] (by decide +kernel) (by decide +kernel)
set_option maxRecDepth 20000 in
theorem gX11_lacks_X11_lacksOn : GoodIn wsX11_lacks (wsV RX11 112 RX11 yX11_lacksOn wsX11_lacksOn) := goodIn_app (goodIn_of _ (by decide +kernel)) ggX11_lacks_X11_lacksOn
theorem dX11_lacks_0 : decode cX11_lacks 0 = .ok (.aload_n 0, 1) := by decide +kernel
theorem dX11_lacks_1 : decode cX11_lacks 1 = .ok (.iconst 0, 1) := by decide +kernel
theorem dX11_lacks_2 : decode cX11_lacks 2 = .ok (.putfield 75, 3) := by decide +kernel
theorem dX11_lacks_5 : decode cX11_lacks 5 = .ok (.iload_n 1, 1) := by decide +kernel
theorem dX11_lacks_6 : decode cX11_lacks 6 = .ok (.invokestatic 165, 3) := by decide +kernel
theorem dX11_lacks_9 : decode cX11_lacks 9 = .ok (.ifCond .eq 11, 3) := by decide +kernel
theorem dX11_lacks_12 : decode cX11_lacks 12 = .ok (.aload_n 0, 1) := by decide +kernel
theorem dX11_lacks_13 : decode cX11_lacks 13 = .ok (.iload_n 1, 1) := by decide +kernel
theorem dX11_lacks_14 : decode cX11_lacks 14 = .ok (.invokevirtual 112, 3) := by decide +kernel
theorem dX11_lacks_17 : decode cX11_lacks 17 = .ok (.goto 5, 3) := by decide +kernel
theorem dX11_lacks_20 : decode cX11_lacks 20 = .ok (.ldc 237, 2) := by decide +kernel
theorem dX11_lacks_22 : decode cX11_lacks 22 = .ok (.ireturn, 1) := by decide +kernel
/-! lacks -/
def X11_lacks_p22 (st : MS) (t0 : Int32) : Option (Int32 × MS) :=
    some (t0, st)
def X11_lacks (st : MS) (v1 : Int32) : Option (Int32 × MS) :=
    nm (sF st 17 (0 : Int32)) fun st_1 =>
    bd1 (X11_isSide v1) fun y_2 =>
    if y_2 = 0 then
      (X11_lacks_p22 st_1 (-1000000001 : Int32))
    else
    bnd (X11_lacksOn st_1 v1) fun y_6 st_5 =>
    X11_lacks_p22 st_5 y_6
abbrev rmX11_lacks : Room := { frames := 4, cells := 0, slots := 0, locals := 88 }
theorem hdX11_lacks : yX11_lacks.cls = RX11 ∧ yX11_lacks.cls ≠ "java/lang/invoke/MethodHandle" ∧ yX11_lacks.cls ≠ "java/lang/invoke/VarHandle" ∧ (parseMethodDescriptor yX11_lacks.desc).map (fun d => d.parameters.length) = some 1 := by decide +kernel
set_option maxRecDepth 100000 in
set_option maxHeartbeats 4000000 in
theorem okX11_lacks (l : Launch) (D : va_G) (a : Nat → Nat) (T : mT3) {st : MS} {v1 : Int32} {r : Int32} {st' : MS} (heq : X11_lacks st v1 = some (r, st')) : gCi l D (mT T) yX11_lacks wsX11_lacks rmX11_lacks [.ref (a 0), .int v1] (mW a T st) r (mW a T st') := by
  refine g_body_i (by decide) rfl (Nat.le_of_ble_eq_true rfl) (fun p e s m args below meth c A Q hx hb hml hown hts hK hA hret ls hP hD hS hl => ?_)
  have hl : lv_has ls 2 [(0, .ref (a 0)), (1, .int v1)] := hl
  have hin : ∀ w ∈ wsX110, w ∈ wsX11_lacks := fun w h => List.mem_cons_of_mem _ (List.mem_append_right _ h)
  have f75 : (Cond.fieldLink RX11 75 RX11 (TX11 17).2.1 (TX11 17).2.2.1).before args s = true := hts (.fieldLink RX11 75 "LaidDownTheLaneModel" "thrown" "I") (by decide +kernel)
  have c237 := hts (.constant RX11 237 (-1000000001)) (by decide +kernel)
  have b22 : ∀ (st : MS) (t0 : Int32) (H : Heap) (locs : List Loc) (ls : Array Slot), va_P D vwCl (mW a T st) H → va_D A (mW a T st) → va_S A s.heap H locs → lv_has ls 2 [] → X11_lacks_p22  st t0 = some (r, st') → W p l e rmX11_lacks s m args below meth c H locs 0 0 Q (F0 m 22 ls [.int t0]) := by
    intro st t0 H locs ls hP hD hS hl heq
    unfold X11_lacks_p22 at heq
    obtain ⟨heq, heq2⟩ := ret_h heq
    subst heq
    subst heq2
    exact hret 22 H locs ls hP hD hS rfl dX11_lacks_22
  obtain ⟨H, hH⟩ : ∃ H, H = s.heap := ⟨_, rfl⟩
  obtain ⟨locs, hlocs⟩ : ∃ z : List Loc, z = [] := ⟨_, rfl⟩
  have hS : va_S A s.heap H locs := by rw [hH, hlocs]; exact hS
  have hP : va_P D vwCl (mW a T st) H := by rw [hH]; exact hP
  suffices h9 : W p l e rmX11_lacks s m args below meth c H locs 0 0 Q (F0 m 0 ls []) by rw [hH, hlocs] at h9; exact h9
  clear hH hlocs
  unfold X11_lacks at heq
  refine lv_aload_n hx hb dX11_lacks_0 rfl (lv_at hl 0 rfl) ?_
  refine lv_iconst (v := (0 : Int32)) hx hb dX11_lacks_1 (by decide) ?_
  refine mp (k := 17) hx hb hts hin hown hK hP hD hS (by decide) f75 dX11_lacks_2 rfl rfl rfl rfl (mset_17 ..) (fun H locs hP hD hS => ?_)
  obtain ⟨st_1, est_1⟩ : ∃ z, z = sF st 17 (0 : Int32) := ⟨_, rfl⟩
  rw [← est_1] at hP hD
  have heq := nm_h est_1 heq
  refine lv_iload_n hx hb dX11_lacks_5 rfl (lv_at hl 1 rfl) ?_
  obtain ⟨y_2, h_3, heq⟩ := bd1_h heq
  refine g_si (own := RX11) (D := D) (As := [.int v1]) (rest := []) hx hb hml hown hts (okX11_isSide l D h_3) (cwS 1 hts gX11_lacks_X11_isSide rfl rfl rfl hdX11_isSide ⟨Nat.le_of_ble_eq_true rfl, Nat.le_of_ble_eq_true rfl⟩) hK hA hP hS rfl hl.1 rfl (Nat.le_of_ble_eq_true rfl) dX11_lacks_6 ⟨Nat.le_of_ble_eq_true rfl, Nat.le_of_ble_eq_true rfl⟩ (fun H locs hP hS => ?_)
  refine lv_if_eq (tgt := 20) hx hb dX11_lacks_9 (by decide) (fun c_4 => ?_) (fun c_4 => ?_)
  · have heq := it_t c_4 heq
    refine lv_ldc (v := (-1000000001 : Int32)) hx hb hown c237 dX11_lacks_20 ?_
    exact b22 st_1 (-1000000001 : Int32) H locs ls hP hD hS (lv_sub hl [] rfl) heq
  have heq := it_f c_4 heq
  refine lv_aload_n hx hb dX11_lacks_12 rfl (lv_at hl 0 rfl) ?_
  refine lv_iload_n hx hb dX11_lacks_13 rfl (lv_at hl 1 rfl) ?_
  obtain ⟨y_6, st_5, h_7, heq⟩ := bnd_h heq
  refine g_vi (own := RX11) (As := [.int v1]) (rest := []) hx hb hml hown hts (okX11_lacksOn l D a T h_7) (cwV 1 hts gX11_lacks_X11_lacksOn rfl rfl rfl hdX11_lacksOn ⟨Nat.le_of_ble_eq_true rfl, Nat.le_of_ble_eq_true rfl⟩) hK hA hP hD hS (ci := 11) (q0 := 0) rfl rfl rfl hl.1 rfl (Nat.le_of_ble_eq_true rfl) dX11_lacks_14 ⟨Nat.le_of_ble_eq_true rfl, Nat.le_of_ble_eq_true rfl⟩ (fun H locs hP hD hS => ?_)
  refine lv_goto (tgt := 22) hx hb dX11_lacks_17 (by decide) ?_
  exact b22 st_5 y_6 H locs ls hP hD hS (lv_sub hl [] rfl) heq
set_option maxRecDepth 20000 in
theorem ggX11_falls_X11_fallSide : GoodIn wsX11_falls wsX11_fallSide := goodIn_r _ [6, 7, 8, 9, 5, 10, 11, 12, 13, 14, 15, 16, 17, 18, 19, 20, 21, 22, 23, 24, 25, 26, 27, 28, 29, 30, 31, 32, 33, 34, 35, 36, 37, 38, 39, 40, 41, 42, 43, 44, 45, 46, 47, 48, 49, 50, 51, 52, 53, 54, 55, 56, 57, 58, 59, 60, 61, 62, 63, 64, 65, 66, 67, 68, 69, 70, 71, 72, 73, 74, 75, 76, 77, 78, 79, 80, 81, 82, 83] (by decide +kernel) (by decide +kernel)
set_option maxRecDepth 20000 in
theorem gX11_falls_X11_fallSide : GoodIn wsX11_falls (wsV RX11 119 RX11 yX11_fallSide wsX11_fallSide) := goodIn_app (goodIn_of _ (by decide +kernel)) ggX11_falls_X11_fallSide
theorem dX11_falls_0 : decode cX11_falls 0 = .ok (.aload_n 0, 1) := by decide +kernel
theorem dX11_falls_1 : decode cX11_falls 1 = .ok (.iconst 0, 1) := by decide +kernel
theorem dX11_falls_2 : decode cX11_falls 2 = .ok (.putfield 75, 3) := by decide +kernel
theorem dX11_falls_5 : decode cX11_falls 5 = .ok (.aload_n 0, 1) := by decide +kernel
theorem dX11_falls_6 : decode cX11_falls 6 = .ok (.invokevirtual 119, 3) := by decide +kernel
theorem dX11_falls_9 : decode cX11_falls 9 = .ok (.ireturn, 1) := by decide +kernel
/-! falls -/
def X11_falls (st : MS) : Option (Int32 × MS) :=
    nm (sF st 17 (0 : Int32)) fun st_1 =>
    bnd (X11_fallSide st_1) fun y_3 st_2 =>
    some (y_3, st_2)
abbrev rmX11_falls : Room := { frames := 6, cells := 0, slots := 0, locals := 131 }
theorem hdX11_falls : yX11_falls.cls = RX11 ∧ yX11_falls.cls ≠ "java/lang/invoke/MethodHandle" ∧ yX11_falls.cls ≠ "java/lang/invoke/VarHandle" ∧ (parseMethodDescriptor yX11_falls.desc).map (fun d => d.parameters.length) = some 0 := by decide +kernel
set_option maxRecDepth 100000 in
set_option maxHeartbeats 4000000 in
theorem okX11_falls (l : Launch) (D : va_G) (a : Nat → Nat) (T : mT3) {st : MS} {r : Int32} {st' : MS} (heq : X11_falls st = some (r, st')) : gCi l D (mT T) yX11_falls wsX11_falls rmX11_falls [.ref (a 0)] (mW a T st) r (mW a T st') := by
  refine g_body_i (by decide) rfl (Nat.le_of_ble_eq_true rfl) (fun p e s m args below meth c A Q hx hb hml hown hts hK hA hret ls hP hD hS hl => ?_)
  have hl : lv_has ls 1 [(0, .ref (a 0))] := hl
  have hin : ∀ w ∈ wsX110, w ∈ wsX11_falls := fun w h => List.mem_cons_of_mem _ (List.mem_append_right _ h)
  have f75 : (Cond.fieldLink RX11 75 RX11 (TX11 17).2.1 (TX11 17).2.2.1).before args s = true := hts (.fieldLink RX11 75 "LaidDownTheLaneModel" "thrown" "I") (by decide +kernel)
  obtain ⟨H, hH⟩ : ∃ H, H = s.heap := ⟨_, rfl⟩
  obtain ⟨locs, hlocs⟩ : ∃ z : List Loc, z = [] := ⟨_, rfl⟩
  have hS : va_S A s.heap H locs := by rw [hH, hlocs]; exact hS
  have hP : va_P D vwCl (mW a T st) H := by rw [hH]; exact hP
  suffices h9 : W p l e rmX11_falls s m args below meth c H locs 0 0 Q (F0 m 0 ls []) by rw [hH, hlocs] at h9; exact h9
  clear hH hlocs
  unfold X11_falls at heq
  refine lv_aload_n hx hb dX11_falls_0 rfl (lv_at hl 0 rfl) ?_
  refine lv_iconst (v := (0 : Int32)) hx hb dX11_falls_1 (by decide) ?_
  refine mp (k := 17) hx hb hts hin hown hK hP hD hS (by decide) f75 dX11_falls_2 rfl rfl rfl rfl (mset_17 ..) (fun H locs hP hD hS => ?_)
  obtain ⟨st_1, est_1⟩ : ∃ z, z = sF st 17 (0 : Int32) := ⟨_, rfl⟩
  rw [← est_1] at hP hD
  have heq := nm_h est_1 heq
  refine lv_aload_n hx hb dX11_falls_5 rfl (lv_at hl 0 rfl) ?_
  obtain ⟨y_3, st_2, h_4, heq⟩ := bnd_h heq
  refine g_vi (own := RX11) (As := []) (rest := []) hx hb hml hown hts (okX11_fallSide l D a T h_4) (cwV 0 hts gX11_falls_X11_fallSide rfl rfl rfl hdX11_fallSide ⟨Nat.le_of_ble_eq_true rfl, Nat.le_of_ble_eq_true rfl⟩) hK hA hP hD hS (ci := 11) (q0 := 0) rfl rfl rfl hl.1 rfl (Nat.le_of_ble_eq_true rfl) dX11_falls_6 ⟨Nat.le_of_ble_eq_true rfl, Nat.le_of_ble_eq_true rfl⟩ (fun H locs hP hD hS => ?_)
  obtain ⟨heq, heq2⟩ := ret_h heq
  subst heq
  subst heq2
  exact hret 9 H locs ls hP hD hS rfl dX11_falls_9
set_option maxRecDepth 20000 in
theorem ggX11_canCut_X11_open : GoodIn wsX11_canCut wsX11_open := goodIn_r _ [7, 8, 9, 10, 11, 6, 12, 13, 14, 15, 16, 17, 2, 18, 19, 20, 21, 22, 23, 24, 25, 26, 27, 79, 80, 81, 82, 83, 84, 85, 86, 87, 88, 89, 90, 91, 92, 93, 94, 95, 96, 97, 98, 99, 100, 101, 102, 103, 104, 105, 106, 107, 108, 109, 110, 111, 112, 113, 114, 115] (by decide +kernel) (by decide +kernel)
set_option maxRecDepth 20000 in
theorem gX11_canCut_X11_open : GoodIn wsX11_canCut (wsV RX11 238 RX11 yX11_open wsX11_open) := goodIn_app (goodIn_of _ (by decide +kernel)) ggX11_canCut_X11_open
set_option maxRecDepth 20000 in
theorem ggX11_canCut_X11_bearsOf : GoodIn wsX11_canCut wsX11_bearsOf := goodIn_r _ [31, 16, 17, 32, 33, 34, 35, 6, 36, 21, 20, 37, 38, 39, 40, 79, 80, 81, 82, 83, 84, 85, 86, 87, 88, 89, 90, 91, 92, 93, 94, 95, 96, 97, 98, 99, 100, 101, 102, 103, 104, 105, 106, 107, 108, 109, 110, 111, 112, 113, 114, 115] (by decide +kernel) (by decide +kernel)
set_option maxRecDepth 20000 in
theorem gX11_canCut_X11_bearsOf : GoodIn wsX11_canCut (wsV RX11 103 RX11 yX11_bearsOf wsX11_bearsOf) := goodIn_app (goodIn_of _ (by decide +kernel)) ggX11_canCut_X11_bearsOf
set_option maxRecDepth 20000 in
theorem ggX11_canCut_X11_cut : GoodIn wsX11_canCut wsX11_cut := goodIn_r _ [44, 20, 21, 79, 80, 81, 82, 83, 84, 85, 86, 87, 88, 89, 90, 91, 92, 93, 94, 95, 96, 97, 98, 99, 100, 101, 102, 103, 104, 105, 106, 107, 108, 109, 110, 111, 112, 113, 114, 115] (by decide +kernel) (by decide +kernel)
set_option maxRecDepth 20000 in
theorem gX11_canCut_X11_cut : GoodIn wsX11_canCut (wsV RX11 225 RX11 yX11_cut wsX11_cut) := goodIn_app (goodIn_of _ (by decide +kernel)) ggX11_canCut_X11_cut
set_option maxRecDepth 20000 in
theorem ggX11_canCut_X11_stands : GoodIn wsX11_canCut wsX11_stands := goodIn_r _ [48, 49, 50, 51, 6, 52, 53, 54, 55, 56, 57, 58, 59, 60, 61, 62, 63, 64, 19, 65, 66, 67, 68, 69, 70, 71, 72, 73, 74, 28, 29, 30, 31, 16, 17, 32, 33, 34, 35, 36, 21, 20, 37, 38, 39, 40, 79, 80, 81, 82, 83, 84, 85, 86, 87, 88, 89, 90, 91, 92, 93, 94, 95, 96, 97, 98, 99, 100, 101, 102, 103, 104, 105, 106, 107, 108, 109, 110, 111, 112, 113, 114, 115] (by decide +kernel) (by decide +kernel)
set_option maxRecDepth 20000 in
theorem gX11_canCut_X11_stands : GoodIn wsX11_canCut (wsV RX11 125 RX11 yX11_stands wsX11_stands) := goodIn_app (goodIn_of _ (by decide +kernel)) ggX11_canCut_X11_stands
set_option maxRecDepth 20000 in
theorem ggX11_canCut_X11_close : GoodIn wsX11_canCut wsX11_close := goodIn_r _ [78, 8, 9, 10, 11, 6, 12, 13, 14, 15, 16, 17, 2, 18, 19, 20, 21, 22, 23, 24, 25, 26, 27, 79, 80, 81, 82, 83, 84, 85, 86, 87, 88, 89, 90, 91, 92, 93, 94, 95, 96, 97, 98, 99, 100, 101, 102, 103, 104, 105, 106, 107, 108, 109, 110, 111, 112, 113, 114, 115] (by decide +kernel) (by decide +kernel)
set_option maxRecDepth 20000 in
theorem gX11_canCut_X11_close : GoodIn wsX11_canCut (wsV RX11 241 RX11 yX11_close wsX11_close) := goodIn_app (goodIn_of _ (by decide +kernel)) ggX11_canCut_X11_close
theorem dX11_canCut_0 : decode cX11_canCut 0 = .ok (.aload_n 0, 1) := by decide +kernel
theorem dX11_canCut_1 : decode cX11_canCut 1 = .ok (.iconst 0, 1) := by decide +kernel
theorem dX11_canCut_2 : decode cX11_canCut 2 = .ok (.putfield 75, 3) := by decide +kernel
theorem dX11_canCut_5 : decode cX11_canCut 5 = .ok (.aload_n 0, 1) := by decide +kernel
theorem dX11_canCut_6 : decode cX11_canCut 6 = .ok (.getfield 122, 3) := by decide +kernel
theorem dX11_canCut_9 : decode cX11_canCut 9 = .ok (.ifCond .eq 6, 3) := by decide +kernel
theorem dX11_canCut_12 : decode cX11_canCut 12 = .ok (.bipush (-3), 2) := by decide +kernel
theorem dX11_canCut_14 : decode cX11_canCut 14 = .ok (.ireturn, 1) := by decide +kernel
theorem dX11_canCut_15 : decode cX11_canCut 15 = .ok (.iconst 0, 1) := by decide +kernel
theorem dX11_canCut_16 : decode cX11_canCut 16 = .ok (.istore_n 1, 1) := by decide +kernel
theorem dX11_canCut_17 : decode cX11_canCut 17 = .ok (.aload_n 0, 1) := by decide +kernel
theorem dX11_canCut_18 : decode cX11_canCut 18 = .ok (.invokevirtual 238, 3) := by decide +kernel
theorem dX11_canCut_21 : decode cX11_canCut 21 = .ok (.iconst 0, 1) := by decide +kernel
theorem dX11_canCut_22 : decode cX11_canCut 22 = .ok (.istore_n 2, 1) := by decide +kernel
theorem dX11_canCut_23 : decode cX11_canCut 23 = .ok (.iload_n 2, 1) := by decide +kernel
theorem dX11_canCut_24 : decode cX11_canCut 24 = .ok (.bipush 12, 2) := by decide +kernel
theorem dX11_canCut_26 : decode cX11_canCut 26 = .ok (.if_icmp .ge 53, 3) := by decide +kernel
theorem dX11_canCut_29 : decode cX11_canCut 29 = .ok (.aload_n 0, 1) := by decide +kernel
theorem dX11_canCut_30 : decode cX11_canCut 30 = .ok (.iload_n 2, 1) := by decide +kernel
theorem dX11_canCut_31 : decode cX11_canCut 31 = .ok (.invokevirtual 103, 3) := by decide +kernel
theorem dX11_canCut_34 : decode cX11_canCut 34 = .ok (.ifCond .le 7, 3) := by decide +kernel
theorem dX11_canCut_37 : decode cX11_canCut 37 = .ok (.iconst 1, 1) := by decide +kernel
theorem dX11_canCut_38 : decode cX11_canCut 38 = .ok (.goto 4, 3) := by decide +kernel
theorem dX11_canCut_41 : decode cX11_canCut 41 = .ok (.iconst 0, 1) := by decide +kernel
theorem dX11_canCut_42 : decode cX11_canCut 42 = .ok (.istore_n 3, 1) := by decide +kernel
theorem dX11_canCut_43 : decode cX11_canCut 43 = .ok (.aload_n 0, 1) := by decide +kernel
theorem dX11_canCut_44 : decode cX11_canCut 44 = .ok (.iload_n 2, 1) := by decide +kernel
theorem dX11_canCut_45 : decode cX11_canCut 45 = .ok (.invokevirtual 225, 3) := by decide +kernel
theorem dX11_canCut_48 : decode cX11_canCut 48 = .ok (.iload_n 1, 1) := by decide +kernel
theorem dX11_canCut_49 : decode cX11_canCut 49 = .ok (.iload_n 3, 1) := by decide +kernel
theorem dX11_canCut_50 : decode cX11_canCut 50 = .ok (.ifCond .eq 16, 3) := by decide +kernel
theorem dX11_canCut_53 : decode cX11_canCut 53 = .ok (.aload_n 0, 1) := by decide +kernel
theorem dX11_canCut_54 : decode cX11_canCut 54 = .ok (.invokevirtual 125, 3) := by decide +kernel
theorem dX11_canCut_57 : decode cX11_canCut 57 = .ok (.ifCond .eq 9, 3) := by decide +kernel
theorem dX11_canCut_60 : decode cX11_canCut 60 = .ok (.iconst 1, 1) := by decide +kernel
theorem dX11_canCut_61 : decode cX11_canCut 61 = .ok (.iload_n 2, 1) := by decide +kernel
theorem dX11_canCut_62 : decode cX11_canCut 62 = .ok (.ishl, 1) := by decide +kernel
theorem dX11_canCut_63 : decode cX11_canCut 63 = .ok (.goto 4, 3) := by decide +kernel
theorem dX11_canCut_66 : decode cX11_canCut 66 = .ok (.iconst 0, 1) := by decide +kernel
theorem dX11_canCut_67 : decode cX11_canCut 67 = .ok (.ior, 1) := by decide +kernel
theorem dX11_canCut_68 : decode cX11_canCut 68 = .ok (.istore_n 1, 1) := by decide +kernel
theorem dX11_canCut_69 : decode cX11_canCut 69 = .ok (.aload_n 0, 1) := by decide +kernel
theorem dX11_canCut_70 : decode cX11_canCut 70 = .ok (.invokevirtual 241, 3) := by decide +kernel
theorem dX11_canCut_73 : decode cX11_canCut 73 = .ok (.iinc 2 1, 3) := by decide +kernel
theorem dX11_canCut_76 : decode cX11_canCut 76 = .ok (.goto (-53), 3) := by decide +kernel
theorem dX11_canCut_79 : decode cX11_canCut 79 = .ok (.iload_n 1, 1) := by decide +kernel
theorem dX11_canCut_80 : decode cX11_canCut 80 = .ok (.ireturn, 1) := by decide +kernel
/-! canCut -/
def X11_canCut_p67 (k23 : MS → Int32 → Int32 → Option (Int32 × MS)) (st : MS) (v2 : Int32) (t0 : Int32) (t1 : Int32) : Option (Int32 × MS) :=
    nm ((t0 ||| t1)) fun x_1 =>
    bnd (X11_close st) fun _ st_2 =>
    nm (v2 + (1 : Int32)) fun x_4 =>
    k23 st_2 x_1 x_4
def X11_canCut_p66 (k23 : MS → Int32 → Int32 → Option (Int32 × MS)) (st : MS) (v2 : Int32) (t0 : Int32) : Option (Int32 × MS) :=
    X11_canCut_p67 k23 st v2 t0 (0 : Int32)
def X11_canCut_p42 (k23 : MS → Int32 → Int32 → Option (Int32 × MS)) (st : MS) (v1 : Int32) (v2 : Int32) (t0 : Int32) : Option (Int32 × MS) :=
    bnd (X11_cut st v2) fun _ st_5 =>
    if t0 = 0 then
      (X11_canCut_p66 k23 st_5 v2 v1)
    else
    bnd (X11_stands st_5) fun y_9 st_8 =>
    if y_9 = 0 then
      (X11_canCut_p66 k23 st_8 v2 v1)
    else
    X11_canCut_p67 k23 st_8 v2 v1 ((1 : Int32) <<< (v2 &&& 31))
def X11_canCut_p79 (st : MS) (v1 : Int32) : Option (Int32 × MS) :=
    some (v1, st)
def X11_canCut_p23 : Nat → MS → Int32 → Int32 → Option (Int32 × MS)
  | 0, _, _, _ => none
  | n + 1, st, v1, v2 =>
    if (12 : Int32) ≤ v2 then
      (X11_canCut_p79 st v1)
    else
    bnd (X11_bearsOf st v2) fun y_14 st_13 =>
    if y_14 ≤ 0 then
      (X11_canCut_p42 (fun st v1 v2 => X11_canCut_p23  n st v1 v2) st_13 v1 v2 (0 : Int32))
    else
    X11_canCut_p42 (fun st v1 v2 => X11_canCut_p23  n st v1 v2) st_13 v1 v2 (1 : Int32)
theorem X11_canCut_p23_s (n : Nat) (st : MS) (v1 : Int32) (v2 : Int32) : X11_canCut_p23  (n + 1) st v1 v2 =
    (if (12 : Int32) ≤ v2 then
      (X11_canCut_p79 st v1)
    else
    bnd (X11_bearsOf st v2) fun y_14 st_13 =>
    if y_14 ≤ 0 then
      (X11_canCut_p42 (fun st v1 v2 => X11_canCut_p23  n st v1 v2) st_13 v1 v2 (0 : Int32))
    else
    X11_canCut_p42 (fun st v1 v2 => X11_canCut_p23  n st v1 v2) st_13 v1 v2 (1 : Int32)) := rfl
def X11_canCut (st : MS) : Option (Int32 × MS) :=
    nm (sF st 17 (0 : Int32)) fun st_17 =>
    if (gF st_17 7) = 0 then
      (bnd (X11_open st_17) fun _ st_19 =>
      X11_canCut_p23 13 st_19 (0 : Int32) (0 : Int32))
    else
    some ((-3 : Int32), st_17)
abbrev rmX11_canCut : Room := { frames := 7, cells := 0, slots := 0, locals := 151 }
theorem hdX11_canCut : yX11_canCut.cls = RX11 ∧ yX11_canCut.cls ≠ "java/lang/invoke/MethodHandle" ∧ yX11_canCut.cls ≠ "java/lang/invoke/VarHandle" ∧ (parseMethodDescriptor yX11_canCut.desc).map (fun d => d.parameters.length) = some 0 := by decide +kernel
set_option maxRecDepth 100000 in
set_option maxHeartbeats 4000000 in
theorem okX11_canCut (l : Launch) (D : va_G) (a : Nat → Nat) (T : mT3) {st : MS} {r : Int32} {st' : MS} (heq : X11_canCut st = some (r, st')) : gCi l D (mT T) yX11_canCut wsX11_canCut rmX11_canCut [.ref (a 0)] (mW a T st) r (mW a T st') := by
  refine g_body_i (by decide) rfl (Nat.le_of_ble_eq_true rfl) (fun p e s m args below meth c A Q hx hb hml hown hts hK hA hret ls hP hD hS hl => ?_)
  have hl : lv_has ls 4 [(0, .ref (a 0))] := hl
  have hin : ∀ w ∈ wsX110, w ∈ wsX11_canCut := fun w h => List.mem_cons_of_mem _ (List.mem_append_right _ h)
  have f75 : (Cond.fieldLink RX11 75 RX11 (TX11 17).2.1 (TX11 17).2.2.1).before args s = true := hts (.fieldLink RX11 75 "LaidDownTheLaneModel" "thrown" "I") (by decide +kernel)
  have f122 : (Cond.fieldLink RX11 122 RX11 (TX11 7).2.1 (TX11 7).2.2.1).before args s = true := hts (.fieldLink RX11 122 "LaidDownTheLaneModel" "isDown" "Z") (by decide +kernel)
  have b67 : ∀ (k23 : MS → Int32 → Int32 → Option (Int32 × MS)) (hk23 : ∀ (st : MS) (v1 : Int32) (v2 : Int32) (H : Heap) (locs : List Loc) (ls : Array Slot), va_P D vwCl (mW a T st) H → va_D A (mW a T st) → va_S A s.heap H locs → lv_has ls 4 [(0, .ref (a 0)), (1, .int v1), (2, .int v2)] → k23 st v1 v2 = some (r, st') → W p l e rmX11_canCut s m args below meth c H locs 0 0 Q (F0 m 23 ls [])), ∀ (st : MS) (v2 : Int32) (t0 : Int32) (t1 : Int32) (H : Heap) (locs : List Loc) (ls : Array Slot), va_P D vwCl (mW a T st) H → va_D A (mW a T st) → va_S A s.heap H locs → lv_has ls 4 [(0, .ref (a 0)), (2, .int v2)] → X11_canCut_p67 k23 st v2 t0 t1 = some (r, st') → W p l e rmX11_canCut s m args below meth c H locs 0 0 Q (F0 m 67 ls [.int t1, .int t0]) := by
    intro k23 hk23 st v2 t0 t1 H locs ls hP hD hS hl heq
    unfold X11_canCut_p67 at heq
    refine lv_ior hx hb dX11_canCut_67 ?_
    refine lv_topi (fun x_1 ex_1 => ?_)
    have heq := nm_h ex_1 heq
    refine lv_istore_n (lv' := [(1, .int x_1), (0, .ref (a 0)), (2, .int v2)]) hx hb dX11_canCut_68 rfl hl (by decide) rfl (fun ls hl => ?_)
    refine lv_aload_n hx hb dX11_canCut_69 rfl (lv_at hl 1 rfl) ?_
    obtain ⟨⟨⟩, st_2, h_3, heq⟩ := bnd_h heq
    refine g_vv (own := RX11) (As := []) (rest := []) hx hb hml hown hts (okX11_close l D a T h_3) (cwV 0 hts gX11_canCut_X11_close rfl rfl rfl hdX11_close ⟨Nat.le_of_ble_eq_true rfl, Nat.le_of_ble_eq_true rfl⟩) hK hA hP hD hS (ci := 11) (q0 := 0) rfl rfl rfl hl.1 rfl (Nat.le_of_ble_eq_true rfl) dX11_canCut_70 ⟨Nat.le_of_ble_eq_true rfl, Nat.le_of_ble_eq_true rfl⟩ (fun H locs hP hD hS => ?_)
    obtain ⟨x_4, ex_4⟩ : ∃ y : Int32, y = v2 + (1 : Int32) := ⟨_, rfl⟩
    have heq := nm_h ex_4 heq
    refine lv_iinc (v := x_4) (lv' := [(2, .int x_4), (1, .int x_1), (0, .ref (a 0))]) hx hb dX11_canCut_73 hl (k := 2) rfl (by rw [ex_4]; rfl) (by decide) rfl (fun ls hl => ?_)
    refine lv_goto (tgt := 23) hx hb dX11_canCut_76 (by decide) ?_
    exact hk23 st_2 x_1 x_4 H locs ls hP hD hS (lv_sub hl [2, 1, 0] rfl) heq
  have b66 : ∀ (k23 : MS → Int32 → Int32 → Option (Int32 × MS)) (hk23 : ∀ (st : MS) (v1 : Int32) (v2 : Int32) (H : Heap) (locs : List Loc) (ls : Array Slot), va_P D vwCl (mW a T st) H → va_D A (mW a T st) → va_S A s.heap H locs → lv_has ls 4 [(0, .ref (a 0)), (1, .int v1), (2, .int v2)] → k23 st v1 v2 = some (r, st') → W p l e rmX11_canCut s m args below meth c H locs 0 0 Q (F0 m 23 ls [])), ∀ (st : MS) (v2 : Int32) (t0 : Int32) (H : Heap) (locs : List Loc) (ls : Array Slot), va_P D vwCl (mW a T st) H → va_D A (mW a T st) → va_S A s.heap H locs → lv_has ls 4 [(0, .ref (a 0)), (2, .int v2)] → X11_canCut_p66 k23 st v2 t0 = some (r, st') → W p l e rmX11_canCut s m args below meth c H locs 0 0 Q (F0 m 66 ls [.int t0]) := by
    intro k23 hk23 st v2 t0 H locs ls hP hD hS hl heq
    unfold X11_canCut_p66 at heq
    refine lv_iconst (v := (0 : Int32)) hx hb dX11_canCut_66 (by decide) ?_
    exact b67 k23 hk23 st v2 t0 (0 : Int32) H locs ls hP hD hS (lv_sub hl [0, 1] rfl) heq
  have b42 : ∀ (k23 : MS → Int32 → Int32 → Option (Int32 × MS)) (hk23 : ∀ (st : MS) (v1 : Int32) (v2 : Int32) (H : Heap) (locs : List Loc) (ls : Array Slot), va_P D vwCl (mW a T st) H → va_D A (mW a T st) → va_S A s.heap H locs → lv_has ls 4 [(0, .ref (a 0)), (1, .int v1), (2, .int v2)] → k23 st v1 v2 = some (r, st') → W p l e rmX11_canCut s m args below meth c H locs 0 0 Q (F0 m 23 ls [])), ∀ (st : MS) (v1 : Int32) (v2 : Int32) (t0 : Int32) (H : Heap) (locs : List Loc) (ls : Array Slot), va_P D vwCl (mW a T st) H → va_D A (mW a T st) → va_S A s.heap H locs → lv_has ls 4 [(0, .ref (a 0)), (1, .int v1), (2, .int v2)] → X11_canCut_p42 k23 st v1 v2 t0 = some (r, st') → W p l e rmX11_canCut s m args below meth c H locs 0 0 Q (F0 m 42 ls [.int t0]) := by
    intro k23 hk23 st v1 v2 t0 H locs ls hP hD hS hl heq
    unfold X11_canCut_p42 at heq
    refine lv_istore_n (lv' := [(3, .int t0), (0, .ref (a 0)), (1, .int v1), (2, .int v2)]) hx hb dX11_canCut_42 rfl hl (by decide) rfl (fun ls hl => ?_)
    refine lv_aload_n hx hb dX11_canCut_43 rfl (lv_at hl 1 rfl) ?_
    refine lv_iload_n hx hb dX11_canCut_44 rfl (lv_at hl 3 rfl) ?_
    obtain ⟨⟨⟩, st_5, h_6, heq⟩ := bnd_h heq
    refine g_vv (own := RX11) (As := [.int v2]) (rest := []) hx hb hml hown hts (okX11_cut l D a T h_6) (cwV 1 hts gX11_canCut_X11_cut rfl rfl rfl hdX11_cut ⟨Nat.le_of_ble_eq_true rfl, Nat.le_of_ble_eq_true rfl⟩) hK hA hP hD hS (ci := 11) (q0 := 0) rfl rfl rfl hl.1 rfl (Nat.le_of_ble_eq_true rfl) dX11_canCut_45 ⟨Nat.le_of_ble_eq_true rfl, Nat.le_of_ble_eq_true rfl⟩ (fun H locs hP hD hS => ?_)
    refine lv_iload_n hx hb dX11_canCut_48 rfl (lv_at hl 2 rfl) ?_
    refine lv_iload_n hx hb dX11_canCut_49 rfl (lv_at hl 0 rfl) ?_
    refine lv_if_eq (tgt := 66) hx hb dX11_canCut_50 (by decide) (fun c_7 => ?_) (fun c_7 => ?_)
    · have heq := it_t c_7 heq
      exact b66 k23 hk23 st_5 v2 v1 H locs ls hP hD hS (lv_sub hl [1, 3] rfl) heq
    have heq := it_f c_7 heq
    refine lv_aload_n hx hb dX11_canCut_53 rfl (lv_at hl 1 rfl) ?_
    obtain ⟨y_9, st_8, h_10, heq⟩ := bnd_h heq
    refine g_vi (own := RX11) (As := []) (rest := [.int v1]) hx hb hml hown hts (okX11_stands l D a T h_10) (cwV 0 hts gX11_canCut_X11_stands rfl rfl rfl hdX11_stands ⟨Nat.le_of_ble_eq_true rfl, Nat.le_of_ble_eq_true rfl⟩) hK hA hP hD hS (ci := 11) (q0 := 0) rfl rfl rfl hl.1 rfl (Nat.le_of_ble_eq_true rfl) dX11_canCut_54 ⟨Nat.le_of_ble_eq_true rfl, Nat.le_of_ble_eq_true rfl⟩ (fun H locs hP hD hS => ?_)
    refine lv_if_eq (tgt := 66) hx hb dX11_canCut_57 (by decide) (fun c_11 => ?_) (fun c_11 => ?_)
    · have heq := it_t c_11 heq
      exact b66 k23 hk23 st_8 v2 v1 H locs ls hP hD hS (lv_sub hl [1, 3] rfl) heq
    have heq := it_f c_11 heq
    refine lv_iconst (v := (1 : Int32)) hx hb dX11_canCut_60 (by decide) ?_
    refine lv_iload_n hx hb dX11_canCut_61 rfl (lv_at hl 3 rfl) ?_
    refine lv_ishl hx hb dX11_canCut_62 ?_
    refine lv_goto (tgt := 67) hx hb dX11_canCut_63 (by decide) ?_
    exact b67 k23 hk23 st_8 v2 v1 ((1 : Int32) <<< (v2 &&& 31)) H locs ls hP hD hS (lv_sub hl [1, 3] rfl) heq
  have b79 : ∀ (st : MS) (v1 : Int32) (H : Heap) (locs : List Loc) (ls : Array Slot), va_P D vwCl (mW a T st) H → va_D A (mW a T st) → va_S A s.heap H locs → lv_has ls 4 [(1, .int v1)] → X11_canCut_p79  st v1 = some (r, st') → W p l e rmX11_canCut s m args below meth c H locs 0 0 Q (F0 m 79 ls []) := by
    intro st v1 H locs ls hP hD hS hl heq
    unfold X11_canCut_p79 at heq
    refine lv_iload_n hx hb dX11_canCut_79 rfl (lv_at hl 0 rfl) ?_
    obtain ⟨heq, heq2⟩ := ret_h heq
    subst heq
    subst heq2
    exact hret 80 H locs ls hP hD hS rfl dX11_canCut_80
  have b23 : ∀ (n : Nat), ∀ (st : MS) (v1 : Int32) (v2 : Int32) (H : Heap) (locs : List Loc) (ls : Array Slot), va_P D vwCl (mW a T st) H → va_D A (mW a T st) → va_S A s.heap H locs → lv_has ls 4 [(0, .ref (a 0)), (1, .int v1), (2, .int v2)] → X11_canCut_p23  n st v1 v2 = some (r, st') → W p l e rmX11_canCut s m args below meth c H locs 0 0 Q (F0 m 23 ls []) := by
    intro n
    induction n with
    | zero => intro st v1 v2 H locs ls hP hD hS hl heq; cases heq
    | succ n ih =>
      intro st v1 v2 H locs ls hP hD hS hl heq
      rw [X11_canCut_p23_s] at heq
      refine lv_iload_n hx hb dX11_canCut_23 rfl (lv_at hl 2 rfl) ?_
      refine lv_bipush (v := (12 : Int32)) hx hb dX11_canCut_24 (by decide) ?_
      refine lv_icmp_ge (tgt := 79) hx hb dX11_canCut_26 (by decide) (fun c_12 => ?_) (fun c_12 => ?_)
      · have heq := it_t c_12 heq
        exact b79 st v1 H locs ls hP hD hS (lv_sub hl [1] rfl) heq
      have heq := it_f c_12 heq
      refine lv_aload_n hx hb dX11_canCut_29 rfl (lv_at hl 0 rfl) ?_
      refine lv_iload_n hx hb dX11_canCut_30 rfl (lv_at hl 2 rfl) ?_
      obtain ⟨y_14, st_13, h_15, heq⟩ := bnd_h heq
      refine g_vi (own := RX11) (As := [.int v2]) (rest := []) hx hb hml hown hts (okX11_bearsOf l D a T h_15) (cwV 1 hts gX11_canCut_X11_bearsOf rfl rfl rfl hdX11_bearsOf ⟨Nat.le_of_ble_eq_true rfl, Nat.le_of_ble_eq_true rfl⟩) hK hA hP hD hS (ci := 11) (q0 := 0) rfl rfl rfl hl.1 rfl (Nat.le_of_ble_eq_true rfl) dX11_canCut_31 ⟨Nat.le_of_ble_eq_true rfl, Nat.le_of_ble_eq_true rfl⟩ (fun H locs hP hD hS => ?_)
      refine lv_if_le (tgt := 41) hx hb dX11_canCut_34 (by decide) (fun c_16 => ?_) (fun c_16 => ?_)
      · have heq := it_t c_16 heq
        refine lv_iconst (v := (0 : Int32)) hx hb dX11_canCut_41 (by decide) ?_
        exact b42 (fun st v1 v2 => X11_canCut_p23  n st v1 v2) ih st_13 v1 v2 (0 : Int32) H locs ls hP hD hS (lv_sub hl [0, 1, 2] rfl) heq
      have heq := it_f c_16 heq
      refine lv_iconst (v := (1 : Int32)) hx hb dX11_canCut_37 (by decide) ?_
      refine lv_goto (tgt := 42) hx hb dX11_canCut_38 (by decide) ?_
      exact b42 (fun st v1 v2 => X11_canCut_p23  n st v1 v2) ih st_13 v1 v2 (1 : Int32) H locs ls hP hD hS (lv_sub hl [0, 1, 2] rfl) heq
  obtain ⟨H, hH⟩ : ∃ H, H = s.heap := ⟨_, rfl⟩
  obtain ⟨locs, hlocs⟩ : ∃ z : List Loc, z = [] := ⟨_, rfl⟩
  have hS : va_S A s.heap H locs := by rw [hH, hlocs]; exact hS
  have hP : va_P D vwCl (mW a T st) H := by rw [hH]; exact hP
  suffices h9 : W p l e rmX11_canCut s m args below meth c H locs 0 0 Q (F0 m 0 ls []) by rw [hH, hlocs] at h9; exact h9
  clear hH hlocs
  unfold X11_canCut at heq
  refine lv_aload_n hx hb dX11_canCut_0 rfl (lv_at hl 0 rfl) ?_
  refine lv_iconst (v := (0 : Int32)) hx hb dX11_canCut_1 (by decide) ?_
  refine mp (k := 17) hx hb hts hin hown hK hP hD hS (by decide) f75 dX11_canCut_2 rfl rfl rfl rfl (mset_17 ..) (fun H locs hP hD hS => ?_)
  obtain ⟨st_17, est_17⟩ : ∃ z, z = sF st 17 (0 : Int32) := ⟨_, rfl⟩
  rw [← est_17] at hP hD
  have heq := nm_h est_17 heq
  refine lv_aload_n hx hb dX11_canCut_5 rfl (lv_at hl 0 rfl) ?_
  refine mg (k := 7) (v := .int (gF st_17 7)) hx hb hts hin hown hK hP (by decide) f122 rfl dX11_canCut_6 rfl ?_
  refine lv_if_eq (tgt := 15) hx hb dX11_canCut_9 (by decide) (fun c_18 => ?_) (fun c_18 => ?_)
  · have heq := it_t c_18 heq
    refine lv_iconst (v := (0 : Int32)) hx hb dX11_canCut_15 (by decide) ?_
    refine lv_istore_n (lv' := [(1, .int (0 : Int32)), (0, .ref (a 0))]) hx hb dX11_canCut_16 rfl hl (by decide) rfl (fun ls hl => ?_)
    refine lv_aload_n hx hb dX11_canCut_17 rfl (lv_at hl 1 rfl) ?_
    obtain ⟨⟨⟩, st_19, h_20, heq⟩ := bnd_h heq
    refine g_vv (own := RX11) (As := []) (rest := []) hx hb hml hown hts (okX11_open l D a T h_20) (cwV 0 hts gX11_canCut_X11_open rfl rfl rfl hdX11_open ⟨Nat.le_of_ble_eq_true rfl, Nat.le_of_ble_eq_true rfl⟩) hK hA hP hD hS (ci := 11) (q0 := 0) rfl rfl rfl hl.1 rfl (Nat.le_of_ble_eq_true rfl) dX11_canCut_18 ⟨Nat.le_of_ble_eq_true rfl, Nat.le_of_ble_eq_true rfl⟩ (fun H locs hP hD hS => ?_)
    refine lv_iconst (v := (0 : Int32)) hx hb dX11_canCut_21 (by decide) ?_
    refine lv_istore_n (lv' := [(2, .int (0 : Int32)), (1, .int (0 : Int32)), (0, .ref (a 0))]) hx hb dX11_canCut_22 rfl hl (by decide) rfl (fun ls hl => ?_)
    exact b23 13 st_19 (0 : Int32) (0 : Int32) H locs ls hP hD hS (lv_sub hl [2, 1, 0] rfl) heq
  have heq := it_f c_18 heq
  refine lv_bipush (v := (-3 : Int32)) hx hb dX11_canCut_12 (by decide) ?_
  obtain ⟨heq, heq2⟩ := ret_h heq
  subst heq
  subst heq2
  exact hret 14 H locs ls hP hD hS rfl dX11_canCut_14
set_option maxRecDepth 20000 in
theorem ggX11_weakest_X11_weakestSide : GoodIn wsX11_weakest wsX11_weakestSide := goodIn_r _ [7, 8, 9, 10, 6, 11, 12, 13, 14, 15, 16, 17, 18, 19, 20, 21, 22, 23, 24, 25, 26, 27, 28, 29, 30, 31, 32, 33, 34, 35, 36, 37, 38, 39, 40, 41, 42, 43, 44, 45, 46, 47, 48, 49, 50, 51, 52, 53, 54, 55, 56, 57, 58, 59, 60, 61, 62, 63, 64, 65, 66, 67, 68, 69, 70, 71, 72, 73, 74, 75, 76, 77, 78, 79, 80] (by decide +kernel) (by decide +kernel)
set_option maxRecDepth 20000 in
theorem gX11_weakest_X11_weakestSide : GoodIn wsX11_weakest (wsV RX11 115 RX11 yX11_weakestSide wsX11_weakestSide) := goodIn_app (goodIn_of _ (by decide +kernel)) ggX11_weakest_X11_weakestSide
theorem dX11_weakest_0 : decode cX11_weakest 0 = .ok (.aload_n 0, 1) := by decide +kernel
theorem dX11_weakest_1 : decode cX11_weakest 1 = .ok (.iconst 0, 1) := by decide +kernel
theorem dX11_weakest_2 : decode cX11_weakest 2 = .ok (.putfield 75, 3) := by decide +kernel
theorem dX11_weakest_5 : decode cX11_weakest 5 = .ok (.aload_n 0, 1) := by decide +kernel
theorem dX11_weakest_6 : decode cX11_weakest 6 = .ok (.getfield 122, 3) := by decide +kernel
theorem dX11_weakest_9 : decode cX11_weakest 9 = .ok (.ifCond .eq 8, 3) := by decide +kernel
theorem dX11_weakest_12 : decode cX11_weakest 12 = .ok (.bipush (-3), 2) := by decide +kernel
theorem dX11_weakest_14 : decode cX11_weakest 14 = .ok (.goto 7, 3) := by decide +kernel
theorem dX11_weakest_17 : decode cX11_weakest 17 = .ok (.aload_n 0, 1) := by decide +kernel
theorem dX11_weakest_18 : decode cX11_weakest 18 = .ok (.invokevirtual 115, 3) := by decide +kernel
theorem dX11_weakest_21 : decode cX11_weakest 21 = .ok (.ireturn, 1) := by decide +kernel
/-! weakest -/
def X11_weakest_p21 (st : MS) (t0 : Int32) : Option (Int32 × MS) :=
    some (t0, st)
def X11_weakest (st : MS) : Option (Int32 × MS) :=
    nm (sF st 17 (0 : Int32)) fun st_1 =>
    if (gF st_1 7) = 0 then
      (bnd (X11_weakestSide st_1) fun y_4 st_3 =>
      X11_weakest_p21 st_3 y_4)
    else
    X11_weakest_p21 st_1 (-3 : Int32)
abbrev rmX11_weakest : Room := { frames := 5, cells := 0, slots := 0, locals := 110 }
theorem hdX11_weakest : yX11_weakest.cls = RX11 ∧ yX11_weakest.cls ≠ "java/lang/invoke/MethodHandle" ∧ yX11_weakest.cls ≠ "java/lang/invoke/VarHandle" ∧ (parseMethodDescriptor yX11_weakest.desc).map (fun d => d.parameters.length) = some 0 := by decide +kernel
set_option maxRecDepth 100000 in
set_option maxHeartbeats 4000000 in
theorem okX11_weakest (l : Launch) (D : va_G) (a : Nat → Nat) (T : mT3) {st : MS} {r : Int32} {st' : MS} (heq : X11_weakest st = some (r, st')) : gCi l D (mT T) yX11_weakest wsX11_weakest rmX11_weakest [.ref (a 0)] (mW a T st) r (mW a T st') := by
  refine g_body_i (by decide) rfl (Nat.le_of_ble_eq_true rfl) (fun p e s m args below meth c A Q hx hb hml hown hts hK hA hret ls hP hD hS hl => ?_)
  have hl : lv_has ls 1 [(0, .ref (a 0))] := hl
  have hin : ∀ w ∈ wsX110, w ∈ wsX11_weakest := fun w h => List.mem_cons_of_mem _ (List.mem_append_right _ h)
  have f75 : (Cond.fieldLink RX11 75 RX11 (TX11 17).2.1 (TX11 17).2.2.1).before args s = true := hts (.fieldLink RX11 75 "LaidDownTheLaneModel" "thrown" "I") (by decide +kernel)
  have f122 : (Cond.fieldLink RX11 122 RX11 (TX11 7).2.1 (TX11 7).2.2.1).before args s = true := hts (.fieldLink RX11 122 "LaidDownTheLaneModel" "isDown" "Z") (by decide +kernel)
  have b21 : ∀ (st : MS) (t0 : Int32) (H : Heap) (locs : List Loc) (ls : Array Slot), va_P D vwCl (mW a T st) H → va_D A (mW a T st) → va_S A s.heap H locs → lv_has ls 1 [] → X11_weakest_p21  st t0 = some (r, st') → W p l e rmX11_weakest s m args below meth c H locs 0 0 Q (F0 m 21 ls [.int t0]) := by
    intro st t0 H locs ls hP hD hS hl heq
    unfold X11_weakest_p21 at heq
    obtain ⟨heq, heq2⟩ := ret_h heq
    subst heq
    subst heq2
    exact hret 21 H locs ls hP hD hS rfl dX11_weakest_21
  obtain ⟨H, hH⟩ : ∃ H, H = s.heap := ⟨_, rfl⟩
  obtain ⟨locs, hlocs⟩ : ∃ z : List Loc, z = [] := ⟨_, rfl⟩
  have hS : va_S A s.heap H locs := by rw [hH, hlocs]; exact hS
  have hP : va_P D vwCl (mW a T st) H := by rw [hH]; exact hP
  suffices h9 : W p l e rmX11_weakest s m args below meth c H locs 0 0 Q (F0 m 0 ls []) by rw [hH, hlocs] at h9; exact h9
  clear hH hlocs
  unfold X11_weakest at heq
  refine lv_aload_n hx hb dX11_weakest_0 rfl (lv_at hl 0 rfl) ?_
  refine lv_iconst (v := (0 : Int32)) hx hb dX11_weakest_1 (by decide) ?_
  refine mp (k := 17) hx hb hts hin hown hK hP hD hS (by decide) f75 dX11_weakest_2 rfl rfl rfl rfl (mset_17 ..) (fun H locs hP hD hS => ?_)
  obtain ⟨st_1, est_1⟩ : ∃ z, z = sF st 17 (0 : Int32) := ⟨_, rfl⟩
  rw [← est_1] at hP hD
  have heq := nm_h est_1 heq
  refine lv_aload_n hx hb dX11_weakest_5 rfl (lv_at hl 0 rfl) ?_
  refine mg (k := 7) (v := .int (gF st_1 7)) hx hb hts hin hown hK hP (by decide) f122 rfl dX11_weakest_6 rfl ?_
  refine lv_if_eq (tgt := 17) hx hb dX11_weakest_9 (by decide) (fun c_2 => ?_) (fun c_2 => ?_)
  · have heq := it_t c_2 heq
    refine lv_aload_n hx hb dX11_weakest_17 rfl (lv_at hl 0 rfl) ?_
    obtain ⟨y_4, st_3, h_5, heq⟩ := bnd_h heq
    refine g_vi (own := RX11) (As := []) (rest := []) hx hb hml hown hts (okX11_weakestSide l D a T h_5) (cwV 0 hts gX11_weakest_X11_weakestSide rfl rfl rfl hdX11_weakestSide ⟨Nat.le_of_ble_eq_true rfl, Nat.le_of_ble_eq_true rfl⟩) hK hA hP hD hS (ci := 11) (q0 := 0) rfl rfl rfl hl.1 rfl (Nat.le_of_ble_eq_true rfl) dX11_weakest_18 ⟨Nat.le_of_ble_eq_true rfl, Nat.le_of_ble_eq_true rfl⟩ (fun H locs hP hD hS => ?_)
    exact b21 st_3 y_4 H locs ls hP hD hS (lv_sub hl [] rfl) heq
  have heq := it_f c_2 heq
  refine lv_bipush (v := (-3 : Int32)) hx hb dX11_weakest_12 (by decide) ?_
  refine lv_goto (tgt := 21) hx hb dX11_weakest_14 (by decide) ?_
  exact b21 st_1 (-3 : Int32) H locs ls hP hD hS (lv_sub hl [] rfl) heq
set_option maxRecDepth 20000 in
theorem ggX11_forLane_X11_open : GoodIn wsX11_forLane wsX11_open := goodIn_r _ [8, 9, 10, 11, 12, 7, 13, 14, 15, 16, 17, 18, 2, 19, 3, 20, 21, 22, 23, 24, 25, 26, 27, 85, 86, 87, 88, 89, 90, 91, 92, 93, 94, 95, 96, 97, 98, 99, 100, 101, 102, 103, 104, 105, 106, 107, 108, 109, 110, 111, 112, 113, 114, 115, 116, 117, 118, 119, 120, 121] (by decide +kernel) (by decide +kernel)
set_option maxRecDepth 20000 in
theorem gX11_forLane_X11_open : GoodIn wsX11_forLane (wsV RX11 238 RX11 yX11_open wsX11_open) := goodIn_app (goodIn_of _ (by decide +kernel)) ggX11_forLane_X11_open
set_option maxRecDepth 20000 in
theorem ggX11_forLane_X11_onesOf : GoodIn wsX11_forLane wsX11_onesOf := goodIn_r _ [30] (by decide +kernel) (by decide +kernel)
set_option maxRecDepth 20000 in
theorem gX11_forLane_X11_onesOf : GoodIn wsX11_forLane (va_wsS RX11 244 yX11_onesOf wsX11_onesOf) := goodIn_app (goodIn_of _ (by decide +kernel)) ggX11_forLane_X11_onesOf
set_option maxRecDepth 20000 in
theorem ggX11_forLane_X11_cutAll : GoodIn wsX11_forLane wsX11_cutAll := goodIn_r _ [34, 35, 36, 7, 37, 38, 39, 40, 41, 20, 21, 85, 86, 87, 88, 89, 90, 91, 92, 93, 94, 95, 96, 97, 98, 99, 100, 101, 102, 103, 104, 105, 106, 107, 108, 109, 110, 111, 112, 113, 114, 115, 116, 117, 118, 119, 120, 121] (by decide +kernel) (by decide +kernel)
set_option maxRecDepth 20000 in
theorem gX11_forLane_X11_cutAll : GoodIn wsX11_forLane (wsV RX11 247 RX11 yX11_cutAll wsX11_cutAll) := goodIn_app (goodIn_of _ (by decide +kernel)) ggX11_forLane_X11_cutAll
set_option maxRecDepth 20000 in
theorem ggX11_forLane_X11_fallSide : GoodIn wsX11_forLane wsX11_fallSide := goodIn_r _ [45, 46, 47, 48, 7, 49, 50, 51, 52, 53, 54, 55, 56, 57, 3, 58, 59, 60, 61, 62, 63, 64, 65, 66, 67, 68, 69, 70, 71, 17, 18, 72, 73, 74, 75, 76, 21, 20, 77, 78, 79, 80, 85, 86, 87, 88, 89, 90, 91, 92, 93, 94, 95, 96, 97, 98, 99, 100, 101, 102, 103, 104, 105, 106, 107, 108, 109, 110, 111, 112, 113, 114, 115, 116, 117, 118, 119, 120, 121] (by decide +kernel) (by decide +kernel)
set_option maxRecDepth 20000 in
theorem gX11_forLane_X11_fallSide : GoodIn wsX11_forLane (wsV RX11 119 RX11 yX11_fallSide wsX11_fallSide) := goodIn_app (goodIn_of _ (by decide +kernel)) ggX11_forLane_X11_fallSide
set_option maxRecDepth 20000 in
theorem ggX11_forLane_X11_close : GoodIn wsX11_forLane wsX11_close := goodIn_r _ [84, 9, 10, 11, 12, 7, 13, 14, 15, 16, 17, 18, 2, 19, 3, 20, 21, 22, 23, 24, 25, 26, 27, 85, 86, 87, 88, 89, 90, 91, 92, 93, 94, 95, 96, 97, 98, 99, 100, 101, 102, 103, 104, 105, 106, 107, 108, 109, 110, 111, 112, 113, 114, 115, 116, 117, 118, 119, 120, 121] (by decide +kernel) (by decide +kernel)
set_option maxRecDepth 20000 in
theorem gX11_forLane_X11_close : GoodIn wsX11_forLane (wsV RX11 241 RX11 yX11_close wsX11_close) := goodIn_app (goodIn_of _ (by decide +kernel)) ggX11_forLane_X11_close
theorem dX11_forLane_0 : decode cX11_forLane 0 = .ok (.aload_n 0, 1) := by decide +kernel
theorem dX11_forLane_1 : decode cX11_forLane 1 = .ok (.iconst 0, 1) := by decide +kernel
theorem dX11_forLane_2 : decode cX11_forLane 2 = .ok (.putfield 75, 3) := by decide +kernel
theorem dX11_forLane_5 : decode cX11_forLane 5 = .ok (.aload_n 0, 1) := by decide +kernel
theorem dX11_forLane_6 : decode cX11_forLane 6 = .ok (.getfield 122, 3) := by decide +kernel
theorem dX11_forLane_9 : decode cX11_forLane 9 = .ok (.ifCond .eq 6, 3) := by decide +kernel
theorem dX11_forLane_12 : decode cX11_forLane 12 = .ok (.bipush (-3), 2) := by decide +kernel
theorem dX11_forLane_14 : decode cX11_forLane 14 = .ok (.ireturn, 1) := by decide +kernel
theorem dX11_forLane_15 : decode cX11_forLane 15 = .ok (.bipush (-4), 2) := by decide +kernel
theorem dX11_forLane_17 : decode cX11_forLane 17 = .ok (.istore_n 1, 1) := by decide +kernel
theorem dX11_forLane_18 : decode cX11_forLane 18 = .ok (.aload_n 0, 1) := by decide +kernel
theorem dX11_forLane_19 : decode cX11_forLane 19 = .ok (.invokevirtual 238, 3) := by decide +kernel
theorem dX11_forLane_22 : decode cX11_forLane 22 = .ok (.iconst 1, 1) := by decide +kernel
theorem dX11_forLane_23 : decode cX11_forLane 23 = .ok (.istore_n 2, 1) := by decide +kernel
theorem dX11_forLane_24 : decode cX11_forLane 24 = .ok (.iload_n 2, 1) := by decide +kernel
theorem dX11_forLane_25 : decode cX11_forLane 25 = .ok (.sipush 4096, 3) := by decide +kernel
theorem dX11_forLane_28 : decode cX11_forLane 28 = .ok (.if_icmp .ge 53, 3) := by decide +kernel
theorem dX11_forLane_31 : decode cX11_forLane 31 = .ok (.iload_n 1, 1) := by decide +kernel
theorem dX11_forLane_32 : decode cX11_forLane 32 = .ok (.ifCond .lt 14, 3) := by decide +kernel
theorem dX11_forLane_35 : decode cX11_forLane 35 = .ok (.iload_n 2, 1) := by decide +kernel
theorem dX11_forLane_36 : decode cX11_forLane 36 = .ok (.invokestatic 244, 3) := by decide +kernel
theorem dX11_forLane_39 : decode cX11_forLane 39 = .ok (.iload_n 1, 1) := by decide +kernel
theorem dX11_forLane_40 : decode cX11_forLane 40 = .ok (.invokestatic 244, 3) := by decide +kernel
theorem dX11_forLane_43 : decode cX11_forLane 43 = .ok (.if_icmp .ge 32, 3) := by decide +kernel
theorem dX11_forLane_46 : decode cX11_forLane 46 = .ok (.aload_n 0, 1) := by decide +kernel
theorem dX11_forLane_47 : decode cX11_forLane 47 = .ok (.iload_n 2, 1) := by decide +kernel
theorem dX11_forLane_48 : decode cX11_forLane 48 = .ok (.invokevirtual 247, 3) := by decide +kernel
theorem dX11_forLane_51 : decode cX11_forLane 51 = .ok (.aload_n 0, 1) := by decide +kernel
theorem dX11_forLane_52 : decode cX11_forLane 52 = .ok (.invokevirtual 119, 3) := by decide +kernel
theorem dX11_forLane_55 : decode cX11_forLane 55 = .ok (.aload_n 0, 1) := by decide +kernel
theorem dX11_forLane_56 : decode cX11_forLane 56 = .ok (.getfield 22, 3) := by decide +kernel
theorem dX11_forLane_59 : decode cX11_forLane 59 = .ok (.bipush 6, 2) := by decide +kernel
theorem dX11_forLane_61 : decode cX11_forLane 61 = .ok (.iaload, 1) := by decide +kernel
theorem dX11_forLane_62 : decode cX11_forLane 62 = .ok (.if_icmp .ne 7, 3) := by decide +kernel
theorem dX11_forLane_65 : decode cX11_forLane 65 = .ok (.iload_n 2, 1) := by decide +kernel
theorem dX11_forLane_66 : decode cX11_forLane 66 = .ok (.goto 4, 3) := by decide +kernel
theorem dX11_forLane_69 : decode cX11_forLane 69 = .ok (.iload_n 1, 1) := by decide +kernel
theorem dX11_forLane_70 : decode cX11_forLane 70 = .ok (.istore_n 1, 1) := by decide +kernel
theorem dX11_forLane_71 : decode cX11_forLane 71 = .ok (.aload_n 0, 1) := by decide +kernel
theorem dX11_forLane_72 : decode cX11_forLane 72 = .ok (.invokevirtual 241, 3) := by decide +kernel
theorem dX11_forLane_75 : decode cX11_forLane 75 = .ok (.iinc 2 1, 3) := by decide +kernel
theorem dX11_forLane_78 : decode cX11_forLane 78 = .ok (.goto (-54), 3) := by decide +kernel
theorem dX11_forLane_81 : decode cX11_forLane 81 = .ok (.iload_n 1, 1) := by decide +kernel
theorem dX11_forLane_82 : decode cX11_forLane 82 = .ok (.ireturn, 1) := by decide +kernel
/-! forLane -/
def X11_forLane_p75 (k24 : MS → Int32 → Int32 → Option (Int32 × MS)) (st : MS) (v1 : Int32) (v2 : Int32) : Option (Int32 × MS) :=
    nm (v2 + (1 : Int32)) fun x_1 =>
    k24 st v1 x_1
def X11_forLane_p70 (k24 : MS → Int32 → Int32 → Option (Int32 × MS)) (st : MS) (v2 : Int32) (t0 : Int32) : Option (Int32 × MS) :=
    bnd (X11_close st) fun _ st_2 =>
    X11_forLane_p75 k24 st_2 t0 v2
def X11_forLane_p46 (k24 : MS → Int32 → Int32 → Option (Int32 × MS)) (st : MS) (v1 : Int32) (v2 : Int32) : Option (Int32 × MS) :=
    bnd (X11_cutAll st v2) fun _ st_4 =>
    bnd (X11_fallSide st_4) fun y_7 st_6 =>
    inr (6 : Int32) 7 <|
    if y_7 = (gA st_6 4 (6 : Int32).toNatClampNeg) then
      (X11_forLane_p70 k24 st_6 v2 v2)
    else
    X11_forLane_p70 k24 st_6 v2 v1
def X11_forLane_p81 (st : MS) (v1 : Int32) : Option (Int32 × MS) :=
    some (v1, st)
def X11_forLane_p24 : Nat → MS → Int32 → Int32 → Option (Int32 × MS)
  | 0, _, _, _ => none
  | n + 1, st, v1, v2 =>
    if (4096 : Int32) ≤ v2 then
      (X11_forLane_p81 st v1)
    else
    if v1 < 0 then
      (X11_forLane_p46 (fun st v1 v2 => X11_forLane_p24  n st v1 v2) st v1 v2)
    else
    bd1 (X11_onesOf v2) fun y_13 =>
    bd1 (X11_onesOf v1) fun y_15 =>
    if y_15 ≤ y_13 then
      (X11_forLane_p75 (fun st v1 v2 => X11_forLane_p24  n st v1 v2) st v1 v2)
    else
    X11_forLane_p46 (fun st v1 v2 => X11_forLane_p24  n st v1 v2) st v1 v2
theorem X11_forLane_p24_s (n : Nat) (st : MS) (v1 : Int32) (v2 : Int32) : X11_forLane_p24  (n + 1) st v1 v2 =
    (if (4096 : Int32) ≤ v2 then
      (X11_forLane_p81 st v1)
    else
    if v1 < 0 then
      (X11_forLane_p46 (fun st v1 v2 => X11_forLane_p24  n st v1 v2) st v1 v2)
    else
    bd1 (X11_onesOf v2) fun y_13 =>
    bd1 (X11_onesOf v1) fun y_15 =>
    if y_15 ≤ y_13 then
      (X11_forLane_p75 (fun st v1 v2 => X11_forLane_p24  n st v1 v2) st v1 v2)
    else
    X11_forLane_p46 (fun st v1 v2 => X11_forLane_p24  n st v1 v2) st v1 v2) := rfl
def X11_forLane (st : MS) : Option (Int32 × MS) :=
    nm (sF st 17 (0 : Int32)) fun st_18 =>
    if (gF st_18 7) = 0 then
      (bnd (X11_open st_18) fun _ st_20 =>
      X11_forLane_p24 4097 st_20 (-4 : Int32) (1 : Int32))
    else
    some ((-3 : Int32), st_18)
abbrev rmX11_forLane : Room := { frames := 6, cells := 0, slots := 0, locals := 131 }
theorem hdX11_forLane : yX11_forLane.cls = RX11 ∧ yX11_forLane.cls ≠ "java/lang/invoke/MethodHandle" ∧ yX11_forLane.cls ≠ "java/lang/invoke/VarHandle" ∧ (parseMethodDescriptor yX11_forLane.desc).map (fun d => d.parameters.length) = some 0 := by decide +kernel
set_option maxRecDepth 100000 in
set_option maxHeartbeats 4000000 in
theorem okX11_forLane (l : Launch) (D : va_G) (a : Nat → Nat) (T : mT3) {st : MS} {r : Int32} {st' : MS} (heq : X11_forLane st = some (r, st')) : gCi l D (mT T) yX11_forLane wsX11_forLane rmX11_forLane [.ref (a 0)] (mW a T st) r (mW a T st') := by
  refine g_body_i (by decide) rfl (Nat.le_of_ble_eq_true rfl) (fun p e s m args below meth c A Q hx hb hml hown hts hK hA hret ls hP hD hS hl => ?_)
  have hl : lv_has ls 3 [(0, .ref (a 0))] := hl
  have hin : ∀ w ∈ wsX110, w ∈ wsX11_forLane := fun w h => List.mem_cons_of_mem _ (List.mem_append_right _ h)
  have f22 : (Cond.fieldLink RX11 22 RX11 (TX11 4).2.1 (TX11 4).2.2.1).before args s = true := hts (.fieldLink RX11 22 "LaidDownTheLaneModel" "settings" "[I") (by decide +kernel)
  have f75 : (Cond.fieldLink RX11 75 RX11 (TX11 17).2.1 (TX11 17).2.2.1).before args s = true := hts (.fieldLink RX11 75 "LaidDownTheLaneModel" "thrown" "I") (by decide +kernel)
  have f122 : (Cond.fieldLink RX11 122 RX11 (TX11 7).2.1 (TX11 7).2.2.1).before args s = true := hts (.fieldLink RX11 122 "LaidDownTheLaneModel" "isDown" "Z") (by decide +kernel)
  have b75 : ∀ (k24 : MS → Int32 → Int32 → Option (Int32 × MS)) (hk24 : ∀ (st : MS) (v1 : Int32) (v2 : Int32) (H : Heap) (locs : List Loc) (ls : Array Slot), va_P D vwCl (mW a T st) H → va_D A (mW a T st) → va_S A s.heap H locs → lv_has ls 3 [(0, .ref (a 0)), (1, .int v1), (2, .int v2)] → k24 st v1 v2 = some (r, st') → W p l e rmX11_forLane s m args below meth c H locs 0 0 Q (F0 m 24 ls [])), ∀ (st : MS) (v1 : Int32) (v2 : Int32) (H : Heap) (locs : List Loc) (ls : Array Slot), va_P D vwCl (mW a T st) H → va_D A (mW a T st) → va_S A s.heap H locs → lv_has ls 3 [(0, .ref (a 0)), (1, .int v1), (2, .int v2)] → X11_forLane_p75 k24 st v1 v2 = some (r, st') → W p l e rmX11_forLane s m args below meth c H locs 0 0 Q (F0 m 75 ls []) := by
    intro k24 hk24 st v1 v2 H locs ls hP hD hS hl heq
    unfold X11_forLane_p75 at heq
    obtain ⟨x_1, ex_1⟩ : ∃ y : Int32, y = v2 + (1 : Int32) := ⟨_, rfl⟩
    have heq := nm_h ex_1 heq
    refine lv_iinc (v := x_1) (lv' := [(2, .int x_1), (0, .ref (a 0)), (1, .int v1)]) hx hb dX11_forLane_75 hl (k := 2) rfl (by rw [ex_1]; rfl) (by decide) rfl (fun ls hl => ?_)
    refine lv_goto (tgt := 24) hx hb dX11_forLane_78 (by decide) ?_
    exact hk24 st v1 x_1 H locs ls hP hD hS (lv_sub hl [1, 2, 0] rfl) heq
  have b70 : ∀ (k24 : MS → Int32 → Int32 → Option (Int32 × MS)) (hk24 : ∀ (st : MS) (v1 : Int32) (v2 : Int32) (H : Heap) (locs : List Loc) (ls : Array Slot), va_P D vwCl (mW a T st) H → va_D A (mW a T st) → va_S A s.heap H locs → lv_has ls 3 [(0, .ref (a 0)), (1, .int v1), (2, .int v2)] → k24 st v1 v2 = some (r, st') → W p l e rmX11_forLane s m args below meth c H locs 0 0 Q (F0 m 24 ls [])), ∀ (st : MS) (v2 : Int32) (t0 : Int32) (H : Heap) (locs : List Loc) (ls : Array Slot), va_P D vwCl (mW a T st) H → va_D A (mW a T st) → va_S A s.heap H locs → lv_has ls 3 [(0, .ref (a 0)), (2, .int v2)] → X11_forLane_p70 k24 st v2 t0 = some (r, st') → W p l e rmX11_forLane s m args below meth c H locs 0 0 Q (F0 m 70 ls [.int t0]) := by
    intro k24 hk24 st v2 t0 H locs ls hP hD hS hl heq
    unfold X11_forLane_p70 at heq
    refine lv_istore_n (lv' := [(1, .int t0), (0, .ref (a 0)), (2, .int v2)]) hx hb dX11_forLane_70 rfl hl (by decide) rfl (fun ls hl => ?_)
    refine lv_aload_n hx hb dX11_forLane_71 rfl (lv_at hl 1 rfl) ?_
    obtain ⟨⟨⟩, st_2, h_3, heq⟩ := bnd_h heq
    refine g_vv (own := RX11) (As := []) (rest := []) hx hb hml hown hts (okX11_close l D a T h_3) (cwV 0 hts gX11_forLane_X11_close rfl rfl rfl hdX11_close ⟨Nat.le_of_ble_eq_true rfl, Nat.le_of_ble_eq_true rfl⟩) hK hA hP hD hS (ci := 11) (q0 := 0) rfl rfl rfl hl.1 rfl (Nat.le_of_ble_eq_true rfl) dX11_forLane_72 ⟨Nat.le_of_ble_eq_true rfl, Nat.le_of_ble_eq_true rfl⟩ (fun H locs hP hD hS => ?_)
    exact b75 k24 hk24 st_2 t0 v2 H locs ls hP hD hS (lv_sub hl [1, 0, 2] rfl) heq
  have b46 : ∀ (k24 : MS → Int32 → Int32 → Option (Int32 × MS)) (hk24 : ∀ (st : MS) (v1 : Int32) (v2 : Int32) (H : Heap) (locs : List Loc) (ls : Array Slot), va_P D vwCl (mW a T st) H → va_D A (mW a T st) → va_S A s.heap H locs → lv_has ls 3 [(0, .ref (a 0)), (1, .int v1), (2, .int v2)] → k24 st v1 v2 = some (r, st') → W p l e rmX11_forLane s m args below meth c H locs 0 0 Q (F0 m 24 ls [])), ∀ (st : MS) (v1 : Int32) (v2 : Int32) (H : Heap) (locs : List Loc) (ls : Array Slot), va_P D vwCl (mW a T st) H → va_D A (mW a T st) → va_S A s.heap H locs → lv_has ls 3 [(0, .ref (a 0)), (1, .int v1), (2, .int v2)] → X11_forLane_p46 k24 st v1 v2 = some (r, st') → W p l e rmX11_forLane s m args below meth c H locs 0 0 Q (F0 m 46 ls []) := by
    intro k24 hk24 st v1 v2 H locs ls hP hD hS hl heq
    unfold X11_forLane_p46 at heq
    refine lv_aload_n hx hb dX11_forLane_46 rfl (lv_at hl 0 rfl) ?_
    refine lv_iload_n hx hb dX11_forLane_47 rfl (lv_at hl 2 rfl) ?_
    obtain ⟨⟨⟩, st_4, h_5, heq⟩ := bnd_h heq
    refine g_vv (own := RX11) (As := [.int v2]) (rest := []) hx hb hml hown hts (okX11_cutAll l D a T h_5) (cwV 1 hts gX11_forLane_X11_cutAll rfl rfl rfl hdX11_cutAll ⟨Nat.le_of_ble_eq_true rfl, Nat.le_of_ble_eq_true rfl⟩) hK hA hP hD hS (ci := 11) (q0 := 0) rfl rfl rfl hl.1 rfl (Nat.le_of_ble_eq_true rfl) dX11_forLane_48 ⟨Nat.le_of_ble_eq_true rfl, Nat.le_of_ble_eq_true rfl⟩ (fun H locs hP hD hS => ?_)
    refine lv_aload_n hx hb dX11_forLane_51 rfl (lv_at hl 0 rfl) ?_
    obtain ⟨y_7, st_6, h_8, heq⟩ := bnd_h heq
    refine g_vi (own := RX11) (As := []) (rest := []) hx hb hml hown hts (okX11_fallSide l D a T h_8) (cwV 0 hts gX11_forLane_X11_fallSide rfl rfl rfl hdX11_fallSide ⟨Nat.le_of_ble_eq_true rfl, Nat.le_of_ble_eq_true rfl⟩) hK hA hP hD hS (ci := 11) (q0 := 0) rfl rfl rfl hl.1 rfl (Nat.le_of_ble_eq_true rfl) dX11_forLane_52 ⟨Nat.le_of_ble_eq_true rfl, Nat.le_of_ble_eq_true rfl⟩ (fun H locs hP hD hS => ?_)
    refine lv_aload_n hx hb dX11_forLane_55 rfl (lv_at hl 0 rfl) ?_
    refine mg (k := 4) (v := .ref (a 5)) hx hb hts hin hown hK hP (by decide) f22 rfl dX11_forLane_56 rfl ?_
    refine lv_bipush (v := (6 : Int32)) hx hb dX11_forLane_59 (by decide) ?_
    obtain ⟨n_9, heq⟩ := inr_h heq
    refine mal (k := 4) (q := 5) (n := 7) hx hb hK hP rfl n_9 dX11_forLane_61 ?_
    refine lv_icmp_ne (tgt := 69) hx hb dX11_forLane_62 (by decide) (fun c_10 => ?_) (fun c_10 => ?_)
    · have heq := it_f c_10 heq
      refine lv_iload_n hx hb dX11_forLane_69 rfl (lv_at hl 1 rfl) ?_
      exact b70 k24 hk24 st_6 v2 v1 H locs ls hP hD hS (lv_sub hl [0, 2] rfl) heq
    have heq := it_t c_10 heq
    refine lv_iload_n hx hb dX11_forLane_65 rfl (lv_at hl 2 rfl) ?_
    refine lv_goto (tgt := 70) hx hb dX11_forLane_66 (by decide) ?_
    exact b70 k24 hk24 st_6 v2 v2 H locs ls hP hD hS (lv_sub hl [0, 2] rfl) heq
  have b81 : ∀ (st : MS) (v1 : Int32) (H : Heap) (locs : List Loc) (ls : Array Slot), va_P D vwCl (mW a T st) H → va_D A (mW a T st) → va_S A s.heap H locs → lv_has ls 3 [(1, .int v1)] → X11_forLane_p81  st v1 = some (r, st') → W p l e rmX11_forLane s m args below meth c H locs 0 0 Q (F0 m 81 ls []) := by
    intro st v1 H locs ls hP hD hS hl heq
    unfold X11_forLane_p81 at heq
    refine lv_iload_n hx hb dX11_forLane_81 rfl (lv_at hl 0 rfl) ?_
    obtain ⟨heq, heq2⟩ := ret_h heq
    subst heq
    subst heq2
    exact hret 82 H locs ls hP hD hS rfl dX11_forLane_82
  have b24 : ∀ (n : Nat), ∀ (st : MS) (v1 : Int32) (v2 : Int32) (H : Heap) (locs : List Loc) (ls : Array Slot), va_P D vwCl (mW a T st) H → va_D A (mW a T st) → va_S A s.heap H locs → lv_has ls 3 [(0, .ref (a 0)), (1, .int v1), (2, .int v2)] → X11_forLane_p24  n st v1 v2 = some (r, st') → W p l e rmX11_forLane s m args below meth c H locs 0 0 Q (F0 m 24 ls []) := by
    intro n
    induction n with
    | zero => intro st v1 v2 H locs ls hP hD hS hl heq; cases heq
    | succ n ih =>
      intro st v1 v2 H locs ls hP hD hS hl heq
      rw [X11_forLane_p24_s] at heq
      refine lv_iload_n hx hb dX11_forLane_24 rfl (lv_at hl 2 rfl) ?_
      refine lv_sipush (v := (4096 : Int32)) hx hb dX11_forLane_25 (by decide) ?_
      refine lv_icmp_ge (tgt := 81) hx hb dX11_forLane_28 (by decide) (fun c_11 => ?_) (fun c_11 => ?_)
      · have heq := it_t c_11 heq
        exact b81 st v1 H locs ls hP hD hS (lv_sub hl [1] rfl) heq
      have heq := it_f c_11 heq
      refine lv_iload_n hx hb dX11_forLane_31 rfl (lv_at hl 1 rfl) ?_
      refine lv_if_lt (tgt := 46) hx hb dX11_forLane_32 (by decide) (fun c_12 => ?_) (fun c_12 => ?_)
      · have heq := it_t c_12 heq
        exact b46 (fun st v1 v2 => X11_forLane_p24  n st v1 v2) ih st v1 v2 H locs ls hP hD hS (lv_sub hl [0, 1, 2] rfl) heq
      have heq := it_f c_12 heq
      refine lv_iload_n hx hb dX11_forLane_35 rfl (lv_at hl 2 rfl) ?_
      obtain ⟨y_13, h_14, heq⟩ := bd1_h heq
      refine g_si (own := RX11) (D := D) (As := [.int v2]) (rest := []) hx hb hml hown hts (okX11_onesOf l D h_14) (cwS 1 hts gX11_forLane_X11_onesOf rfl rfl rfl hdX11_onesOf ⟨Nat.le_of_ble_eq_true rfl, Nat.le_of_ble_eq_true rfl⟩) hK hA hP hS rfl hl.1 rfl (Nat.le_of_ble_eq_true rfl) dX11_forLane_36 ⟨Nat.le_of_ble_eq_true rfl, Nat.le_of_ble_eq_true rfl⟩ (fun H locs hP hS => ?_)
      refine lv_iload_n hx hb dX11_forLane_39 rfl (lv_at hl 1 rfl) ?_
      obtain ⟨y_15, h_16, heq⟩ := bd1_h heq
      refine g_si (own := RX11) (D := D) (As := [.int v1]) (rest := [.int y_13]) hx hb hml hown hts (okX11_onesOf l D h_16) (cwS 1 hts gX11_forLane_X11_onesOf rfl rfl rfl hdX11_onesOf ⟨Nat.le_of_ble_eq_true rfl, Nat.le_of_ble_eq_true rfl⟩) hK hA hP hS rfl hl.1 rfl (Nat.le_of_ble_eq_true rfl) dX11_forLane_40 ⟨Nat.le_of_ble_eq_true rfl, Nat.le_of_ble_eq_true rfl⟩ (fun H locs hP hS => ?_)
      refine lv_icmp_ge (tgt := 75) hx hb dX11_forLane_43 (by decide) (fun c_17 => ?_) (fun c_17 => ?_)
      · have heq := it_t c_17 heq
        exact b75 (fun st v1 v2 => X11_forLane_p24  n st v1 v2) ih st v1 v2 H locs ls hP hD hS (lv_sub hl [0, 1, 2] rfl) heq
      have heq := it_f c_17 heq
      exact b46 (fun st v1 v2 => X11_forLane_p24  n st v1 v2) ih st v1 v2 H locs ls hP hD hS (lv_sub hl [0, 1, 2] rfl) heq
  obtain ⟨H, hH⟩ : ∃ H, H = s.heap := ⟨_, rfl⟩
  obtain ⟨locs, hlocs⟩ : ∃ z : List Loc, z = [] := ⟨_, rfl⟩
  have hS : va_S A s.heap H locs := by rw [hH, hlocs]; exact hS
  have hP : va_P D vwCl (mW a T st) H := by rw [hH]; exact hP
  suffices h9 : W p l e rmX11_forLane s m args below meth c H locs 0 0 Q (F0 m 0 ls []) by rw [hH, hlocs] at h9; exact h9
  clear hH hlocs
  unfold X11_forLane at heq
  refine lv_aload_n hx hb dX11_forLane_0 rfl (lv_at hl 0 rfl) ?_
  refine lv_iconst (v := (0 : Int32)) hx hb dX11_forLane_1 (by decide) ?_
  refine mp (k := 17) hx hb hts hin hown hK hP hD hS (by decide) f75 dX11_forLane_2 rfl rfl rfl rfl (mset_17 ..) (fun H locs hP hD hS => ?_)
  obtain ⟨st_18, est_18⟩ : ∃ z, z = sF st 17 (0 : Int32) := ⟨_, rfl⟩
  rw [← est_18] at hP hD
  have heq := nm_h est_18 heq
  refine lv_aload_n hx hb dX11_forLane_5 rfl (lv_at hl 0 rfl) ?_
  refine mg (k := 7) (v := .int (gF st_18 7)) hx hb hts hin hown hK hP (by decide) f122 rfl dX11_forLane_6 rfl ?_
  refine lv_if_eq (tgt := 15) hx hb dX11_forLane_9 (by decide) (fun c_19 => ?_) (fun c_19 => ?_)
  · have heq := it_t c_19 heq
    refine lv_bipush (v := (-4 : Int32)) hx hb dX11_forLane_15 (by decide) ?_
    refine lv_istore_n (lv' := [(1, .int (-4 : Int32)), (0, .ref (a 0))]) hx hb dX11_forLane_17 rfl hl (by decide) rfl (fun ls hl => ?_)
    refine lv_aload_n hx hb dX11_forLane_18 rfl (lv_at hl 1 rfl) ?_
    obtain ⟨⟨⟩, st_20, h_21, heq⟩ := bnd_h heq
    refine g_vv (own := RX11) (As := []) (rest := []) hx hb hml hown hts (okX11_open l D a T h_21) (cwV 0 hts gX11_forLane_X11_open rfl rfl rfl hdX11_open ⟨Nat.le_of_ble_eq_true rfl, Nat.le_of_ble_eq_true rfl⟩) hK hA hP hD hS (ci := 11) (q0 := 0) rfl rfl rfl hl.1 rfl (Nat.le_of_ble_eq_true rfl) dX11_forLane_19 ⟨Nat.le_of_ble_eq_true rfl, Nat.le_of_ble_eq_true rfl⟩ (fun H locs hP hD hS => ?_)
    refine lv_iconst (v := (1 : Int32)) hx hb dX11_forLane_22 (by decide) ?_
    refine lv_istore_n (lv' := [(2, .int (1 : Int32)), (1, .int (-4 : Int32)), (0, .ref (a 0))]) hx hb dX11_forLane_23 rfl hl (by decide) rfl (fun ls hl => ?_)
    exact b24 4097 st_20 (-4 : Int32) (1 : Int32) H locs ls hP hD hS (lv_sub hl [2, 1, 0] rfl) heq
  have heq := it_f c_19 heq
  refine lv_bipush (v := (-3 : Int32)) hx hb dX11_forLane_12 (by decide) ?_
  obtain ⟨heq, heq2⟩ := ret_h heq
  subst heq
  subst heq2
  exact hret 14 H locs ls hP hD hS rfl dX11_forLane_14
set_option maxRecDepth 20000 in
theorem ggX11_order_X11_in : GoodIn wsX11_order wsX11_in := goodIn_r _ [8] (by decide +kernel) (by decide +kernel)
set_option maxRecDepth 20000 in
theorem gX11_order_X11_in : GoodIn wsX11_order (va_wsS RX11 81 yX11_in wsX11_in) := goodIn_app (goodIn_of _ (by decide +kernel)) ggX11_order_X11_in
set_option maxRecDepth 20000 in
theorem ggX11_order_X11_onesOf : GoodIn wsX11_order wsX11_onesOf := goodIn_r _ [11] (by decide +kernel) (by decide +kernel)
set_option maxRecDepth 20000 in
theorem gX11_order_X11_onesOf : GoodIn wsX11_order (va_wsS RX11 244 yX11_onesOf wsX11_onesOf) := goodIn_app (goodIn_of _ (by decide +kernel)) ggX11_order_X11_onesOf
set_option maxRecDepth 20000 in
theorem ggX11_order_X11_open : GoodIn wsX11_order wsX11_open := goodIn_r _ [15, 16, 17, 18, 19, 7, 20, 21, 22, 23, 24, 25, 3, 26, 27, 28, 29, 30, 31, 32, 33, 34, 35, 94, 95, 96, 97, 98, 99, 100, 101, 102, 103, 104, 105, 106, 107, 108, 109, 110, 111, 112, 113, 114, 115, 116, 117, 118, 119, 120, 121, 122, 123, 124, 125, 126, 127, 128, 129, 130] (by decide +kernel) (by decide +kernel)
set_option maxRecDepth 20000 in
theorem gX11_order_X11_open : GoodIn wsX11_order (wsV RX11 238 RX11 yX11_open wsX11_open) := goodIn_app (goodIn_of _ (by decide +kernel)) ggX11_order_X11_open
set_option maxRecDepth 20000 in
theorem ggX11_order_X11_cutAll : GoodIn wsX11_order wsX11_cutAll := goodIn_r _ [39, 40, 41, 7, 42, 43, 44, 45, 46, 28, 29, 94, 95, 96, 97, 98, 99, 100, 101, 102, 103, 104, 105, 106, 107, 108, 109, 110, 111, 112, 113, 114, 115, 116, 117, 118, 119, 120, 121, 122, 123, 124, 125, 126, 127, 128, 129, 130] (by decide +kernel) (by decide +kernel)
set_option maxRecDepth 20000 in
theorem gX11_order_X11_cutAll : GoodIn wsX11_order (wsV RX11 247 RX11 yX11_cutAll wsX11_cutAll) := goodIn_app (goodIn_of _ (by decide +kernel)) ggX11_order_X11_cutAll
set_option maxRecDepth 20000 in
theorem ggX11_order_X11_stands : GoodIn wsX11_order wsX11_stands := goodIn_r _ [50, 51, 52, 53, 7, 54, 55, 56, 57, 58, 59, 60, 61, 62, 63, 64, 65, 66, 27, 67, 68, 69, 70, 71, 72, 73, 74, 75, 76, 77, 78, 79, 80, 24, 25, 81, 82, 83, 84, 85, 29, 28, 86, 87, 88, 89, 94, 95, 96, 97, 98, 99, 100, 101, 102, 103, 104, 105, 106, 107, 108, 109, 110, 111, 112, 113, 114, 115, 116, 117, 118, 119, 120, 121, 122, 123, 124, 125, 126, 127, 128, 129, 130] (by decide +kernel) (by decide +kernel)
set_option maxRecDepth 20000 in
theorem gX11_order_X11_stands : GoodIn wsX11_order (wsV RX11 125 RX11 yX11_stands wsX11_stands) := goodIn_app (goodIn_of _ (by decide +kernel)) ggX11_order_X11_stands
set_option maxRecDepth 20000 in
theorem ggX11_order_X11_close : GoodIn wsX11_order wsX11_close := goodIn_r _ [93, 16, 17, 18, 19, 7, 20, 21, 22, 23, 24, 25, 3, 26, 27, 28, 29, 30, 31, 32, 33, 34, 35, 94, 95, 96, 97, 98, 99, 100, 101, 102, 103, 104, 105, 106, 107, 108, 109, 110, 111, 112, 113, 114, 115, 116, 117, 118, 119, 120, 121, 122, 123, 124, 125, 126, 127, 128, 129, 130] (by decide +kernel) (by decide +kernel)
set_option maxRecDepth 20000 in
theorem gX11_order_X11_close : GoodIn wsX11_order (wsV RX11 241 RX11 yX11_close wsX11_close) := goodIn_app (goodIn_of _ (by decide +kernel)) ggX11_order_X11_close
set_option maxRecDepth 20000 in
theorem ggX11_order_X11_hasBit : GoodIn wsX11_order wsX11_hasBit := goodIn_r _ [42] (by decide +kernel) (by decide +kernel)
set_option maxRecDepth 20000 in
theorem gX11_order_X11_hasBit : GoodIn wsX11_order (va_wsS RX11 222 yX11_hasBit wsX11_hasBit) := goodIn_app (goodIn_of _ (by decide +kernel)) ggX11_order_X11_hasBit
theorem dX11_order_0 : decode cX11_order 0 = .ok (.aload_n 0, 1) := by decide +kernel
theorem dX11_order_1 : decode cX11_order 1 = .ok (.iconst 0, 1) := by decide +kernel
theorem dX11_order_2 : decode cX11_order 2 = .ok (.putfield 75, 3) := by decide +kernel
theorem dX11_order_5 : decode cX11_order 5 = .ok (.iload_n 1, 1) := by decide +kernel
theorem dX11_order_6 : decode cX11_order 6 = .ok (.i2l, 1) := by decide +kernel
theorem dX11_order_7 : decode cX11_order 7 = .ok (.lconst 1, 1) := by decide +kernel
theorem dX11_order_8 : decode cX11_order 8 = .ok (.ldc2_w 250, 3) := by decide +kernel
theorem dX11_order_11 : decode cX11_order 11 = .ok (.invokestatic 81, 3) := by decide +kernel
theorem dX11_order_14 : decode cX11_order 14 = .ok (.ifCond .eq 16, 3) := by decide +kernel
theorem dX11_order_17 : decode cX11_order 17 = .ok (.iload_n 1, 1) := by decide +kernel
theorem dX11_order_18 : decode cX11_order 18 = .ok (.invokestatic 244, 3) := by decide +kernel
theorem dX11_order_21 : decode cX11_order 21 = .ok (.bipush 8, 2) := by decide +kernel
theorem dX11_order_23 : decode cX11_order 23 = .ok (.if_icmp .gt 7, 3) := by decide +kernel
theorem dX11_order_26 : decode cX11_order 26 = .ok (.iload_n 2, 1) := by decide +kernel
theorem dX11_order_27 : decode cX11_order 27 = .ok (.ifCond .ge 5, 3) := by decide +kernel
theorem dX11_order_30 : decode cX11_order 30 = .ok (.iconst (-1), 1) := by decide +kernel
theorem dX11_order_31 : decode cX11_order 31 = .ok (.ireturn, 1) := by decide +kernel
theorem dX11_order_32 : decode cX11_order 32 = .ok (.aload_n 0, 1) := by decide +kernel
theorem dX11_order_33 : decode cX11_order 33 = .ok (.getfield 122, 3) := by decide +kernel
theorem dX11_order_36 : decode cX11_order 36 = .ok (.ifCond .eq 6, 3) := by decide +kernel
theorem dX11_order_39 : decode cX11_order 39 = .ok (.bipush (-3), 2) := by decide +kernel
theorem dX11_order_41 : decode cX11_order 41 = .ok (.ireturn, 1) := by decide +kernel
theorem dX11_order_42 : decode cX11_order 42 = .ok (.aload_n 0, 1) := by decide +kernel
theorem dX11_order_43 : decode cX11_order 43 = .ok (.getfield 68, 3) := by decide +kernel
theorem dX11_order_46 : decode cX11_order 46 = .ok (.iload_n 1, 1) := by decide +kernel
theorem dX11_order_47 : decode cX11_order 47 = .ok (.iconst 1, 1) := by decide +kernel
theorem dX11_order_48 : decode cX11_order 48 = .ok (.bastore, 1) := by decide +kernel
theorem dX11_order_49 : decode cX11_order 49 = .ok (.aload_n 0, 1) := by decide +kernel
theorem dX11_order_50 : decode cX11_order 50 = .ok (.invokevirtual 238, 3) := by decide +kernel
theorem dX11_order_53 : decode cX11_order 53 = .ok (.iload_n 1, 1) := by decide +kernel
theorem dX11_order_54 : decode cX11_order 54 = .ok (.iconst 1, 1) := by decide +kernel
theorem dX11_order_55 : decode cX11_order 55 = .ok (.isub, 1) := by decide +kernel
theorem dX11_order_56 : decode cX11_order 56 = .ok (.istore_n 3, 1) := by decide +kernel
theorem dX11_order_57 : decode cX11_order 57 = .ok (.iload_n 3, 1) := by decide +kernel
theorem dX11_order_58 : decode cX11_order 58 = .ok (.ifCond .lt 123, 3) := by decide +kernel
theorem dX11_order_61 : decode cX11_order 61 = .ok (.iload_n 3, 1) := by decide +kernel
theorem dX11_order_62 : decode cX11_order 62 = .ok (.iload_n 1, 1) := by decide +kernel
theorem dX11_order_63 : decode cX11_order 63 = .ok (.iconst (-1), 1) := by decide +kernel
theorem dX11_order_64 : decode cX11_order 64 = .ok (.ixor, 1) := by decide +kernel
theorem dX11_order_65 : decode cX11_order 65 = .ok (.iand, 1) := by decide +kernel
theorem dX11_order_66 : decode cX11_order 66 = .ok (.ifCond .ne 109, 3) := by decide +kernel
theorem dX11_order_69 : decode cX11_order 69 = .ok (.aload_n 0, 1) := by decide +kernel
theorem dX11_order_70 : decode cX11_order 70 = .ok (.iload_n 3, 1) := by decide +kernel
theorem dX11_order_71 : decode cX11_order 71 = .ok (.invokevirtual 247, 3) := by decide +kernel
theorem dX11_order_74 : decode cX11_order 74 = .ok (.iload_n 3, 1) := by decide +kernel
theorem dX11_order_75 : decode cX11_order 75 = .ok (.ifCond .eq 10, 3) := by decide +kernel
theorem dX11_order_78 : decode cX11_order 78 = .ok (.aload_n 0, 1) := by decide +kernel
theorem dX11_order_79 : decode cX11_order 79 = .ok (.invokevirtual 125, 3) := by decide +kernel
theorem dX11_order_82 : decode cX11_order 82 = .ok (.ifCond .eq 7, 3) := by decide +kernel
theorem dX11_order_85 : decode cX11_order 85 = .ok (.iconst 1, 1) := by decide +kernel
theorem dX11_order_86 : decode cX11_order 86 = .ok (.goto 4, 3) := by decide +kernel
theorem dX11_order_89 : decode cX11_order 89 = .ok (.iconst 0, 1) := by decide +kernel
theorem dX11_order_90 : decode cX11_order 90 = .ok (.istore 4, 2) := by decide +kernel
theorem dX11_order_92 : decode cX11_order 92 = .ok (.aload_n 0, 1) := by decide +kernel
theorem dX11_order_93 : decode cX11_order 93 = .ok (.invokevirtual 241, 3) := by decide +kernel
theorem dX11_order_96 : decode cX11_order 96 = .ok (.iconst 0, 1) := by decide +kernel
theorem dX11_order_97 : decode cX11_order 97 = .ok (.istore 5, 2) := by decide +kernel
theorem dX11_order_99 : decode cX11_order 99 = .ok (.iconst 0, 1) := by decide +kernel
theorem dX11_order_100 : decode cX11_order 100 = .ok (.istore 6, 2) := by decide +kernel
theorem dX11_order_102 : decode cX11_order 102 = .ok (.iload 6, 2) := by decide +kernel
theorem dX11_order_104 : decode cX11_order 104 = .ok (.bipush 12, 2) := by decide +kernel
theorem dX11_order_106 : decode cX11_order 106 = .ok (.if_icmp .ge 48, 3) := by decide +kernel
theorem dX11_order_109 : decode cX11_order 109 = .ok (.iload 5, 2) := by decide +kernel
theorem dX11_order_111 : decode cX11_order 111 = .ok (.ifCond .ne 30, 3) := by decide +kernel
theorem dX11_order_114 : decode cX11_order 114 = .ok (.iload_n 1, 1) := by decide +kernel
theorem dX11_order_115 : decode cX11_order 115 = .ok (.iload_n 3, 1) := by decide +kernel
theorem dX11_order_116 : decode cX11_order 116 = .ok (.iconst (-1), 1) := by decide +kernel
theorem dX11_order_117 : decode cX11_order 117 = .ok (.ixor, 1) := by decide +kernel
theorem dX11_order_118 : decode cX11_order 118 = .ok (.iand, 1) := by decide +kernel
theorem dX11_order_119 : decode cX11_order 119 = .ok (.iload 6, 2) := by decide +kernel
theorem dX11_order_121 : decode cX11_order 121 = .ok (.invokestatic 222, 3) := by decide +kernel
theorem dX11_order_124 : decode cX11_order 124 = .ok (.ifCond .eq 21, 3) := by decide +kernel
theorem dX11_order_127 : decode cX11_order 127 = .ok (.aload_n 0, 1) := by decide +kernel
theorem dX11_order_128 : decode cX11_order 128 = .ok (.getfield 68, 3) := by decide +kernel
theorem dX11_order_131 : decode cX11_order 131 = .ok (.iload_n 3, 1) := by decide +kernel
theorem dX11_order_132 : decode cX11_order 132 = .ok (.iconst 1, 1) := by decide +kernel
theorem dX11_order_133 : decode cX11_order 133 = .ok (.iload 6, 2) := by decide +kernel
theorem dX11_order_135 : decode cX11_order 135 = .ok (.ishl, 1) := by decide +kernel
theorem dX11_order_136 : decode cX11_order 136 = .ok (.ior, 1) := by decide +kernel
theorem dX11_order_137 : decode cX11_order 137 = .ok (.baload, 1) := by decide +kernel
theorem dX11_order_138 : decode cX11_order 138 = .ok (.ifCond .eq 7, 3) := by decide +kernel
theorem dX11_order_141 : decode cX11_order 141 = .ok (.iconst 1, 1) := by decide +kernel
theorem dX11_order_142 : decode cX11_order 142 = .ok (.goto 4, 3) := by decide +kernel
theorem dX11_order_145 : decode cX11_order 145 = .ok (.iconst 0, 1) := by decide +kernel
theorem dX11_order_146 : decode cX11_order 146 = .ok (.istore 5, 2) := by decide +kernel
theorem dX11_order_148 : decode cX11_order 148 = .ok (.iinc 6 1, 3) := by decide +kernel
theorem dX11_order_151 : decode cX11_order 151 = .ok (.goto (-49), 3) := by decide +kernel
theorem dX11_order_154 : decode cX11_order 154 = .ok (.aload_n 0, 1) := by decide +kernel
theorem dX11_order_155 : decode cX11_order 155 = .ok (.getfield 68, 3) := by decide +kernel
theorem dX11_order_158 : decode cX11_order 158 = .ok (.iload_n 3, 1) := by decide +kernel
theorem dX11_order_159 : decode cX11_order 159 = .ok (.iload 4, 2) := by decide +kernel
theorem dX11_order_161 : decode cX11_order 161 = .ok (.ifCond .eq 12, 3) := by decide +kernel
theorem dX11_order_164 : decode cX11_order 164 = .ok (.iload 5, 2) := by decide +kernel
theorem dX11_order_166 : decode cX11_order 166 = .ok (.ifCond .eq 7, 3) := by decide +kernel
theorem dX11_order_169 : decode cX11_order 169 = .ok (.iconst 1, 1) := by decide +kernel
theorem dX11_order_170 : decode cX11_order 170 = .ok (.goto 4, 3) := by decide +kernel
theorem dX11_order_173 : decode cX11_order 173 = .ok (.iconst 0, 1) := by decide +kernel
theorem dX11_order_174 : decode cX11_order 174 = .ok (.bastore, 1) := by decide +kernel
theorem dX11_order_175 : decode cX11_order 175 = .ok (.iinc 3 (-1), 3) := by decide +kernel
theorem dX11_order_178 : decode cX11_order 178 = .ok (.goto (-121), 3) := by decide +kernel
theorem dX11_order_181 : decode cX11_order 181 = .ok (.aload_n 0, 1) := by decide +kernel
theorem dX11_order_182 : decode cX11_order 182 = .ok (.getfield 68, 3) := by decide +kernel
theorem dX11_order_185 : decode cX11_order 185 = .ok (.iconst 0, 1) := by decide +kernel
theorem dX11_order_186 : decode cX11_order 186 = .ok (.baload, 1) := by decide +kernel
theorem dX11_order_187 : decode cX11_order 187 = .ok (.ifCond .eq 11, 3) := by decide +kernel
theorem dX11_order_190 : decode cX11_order 190 = .ok (.iload_n 2, 1) := by decide +kernel
theorem dX11_order_191 : decode cX11_order 191 = .ok (.iload_n 1, 1) := by decide +kernel
theorem dX11_order_192 : decode cX11_order 192 = .ok (.invokestatic 244, 3) := by decide +kernel
theorem dX11_order_195 : decode cX11_order 195 = .ok (.if_icmp .lt 6, 3) := by decide +kernel
theorem dX11_order_198 : decode cX11_order 198 = .ok (.bipush (-4), 2) := by decide +kernel
theorem dX11_order_200 : decode cX11_order 200 = .ok (.ireturn, 1) := by decide +kernel
theorem dX11_order_201 : decode cX11_order 201 = .ok (.iconst 0, 1) := by decide +kernel
theorem dX11_order_202 : decode cX11_order 202 = .ok (.istore_n 3, 1) := by decide +kernel
theorem dX11_order_203 : decode cX11_order 203 = .ok (.bipush (-4), 2) := by decide +kernel
theorem dX11_order_205 : decode cX11_order 205 = .ok (.istore 4, 2) := by decide +kernel
theorem dX11_order_207 : decode cX11_order 207 = .ok (.iconst 0, 1) := by decide +kernel
theorem dX11_order_208 : decode cX11_order 208 = .ok (.istore 5, 2) := by decide +kernel
theorem dX11_order_210 : decode cX11_order 210 = .ok (.iload 5, 2) := by decide +kernel
theorem dX11_order_212 : decode cX11_order 212 = .ok (.iload_n 2, 1) := by decide +kernel
theorem dX11_order_213 : decode cX11_order 213 = .ok (.if_icmp .gt 52, 3) := by decide +kernel
theorem dX11_order_216 : decode cX11_order 216 = .ok (.iconst 0, 1) := by decide +kernel
theorem dX11_order_217 : decode cX11_order 217 = .ok (.istore 4, 2) := by decide +kernel
theorem dX11_order_219 : decode cX11_order 219 = .ok (.iload_n 1, 1) := by decide +kernel
theorem dX11_order_220 : decode cX11_order 220 = .ok (.iload_n 3, 1) := by decide +kernel
theorem dX11_order_221 : decode cX11_order 221 = .ok (.iconst (-1), 1) := by decide +kernel
theorem dX11_order_222 : decode cX11_order 222 = .ok (.ixor, 1) := by decide +kernel
theorem dX11_order_223 : decode cX11_order 223 = .ok (.iand, 1) := by decide +kernel
theorem dX11_order_224 : decode cX11_order 224 = .ok (.iload 4, 2) := by decide +kernel
theorem dX11_order_226 : decode cX11_order 226 = .ok (.invokestatic 222, 3) := by decide +kernel
theorem dX11_order_229 : decode cX11_order 229 = .ok (.ifCond .eq 17, 3) := by decide +kernel
theorem dX11_order_232 : decode cX11_order 232 = .ok (.aload_n 0, 1) := by decide +kernel
theorem dX11_order_233 : decode cX11_order 233 = .ok (.getfield 68, 3) := by decide +kernel
theorem dX11_order_236 : decode cX11_order 236 = .ok (.iload_n 3, 1) := by decide +kernel
theorem dX11_order_237 : decode cX11_order 237 = .ok (.iconst 1, 1) := by decide +kernel
theorem dX11_order_238 : decode cX11_order 238 = .ok (.iload 4, 2) := by decide +kernel
theorem dX11_order_240 : decode cX11_order 240 = .ok (.ishl, 1) := by decide +kernel
theorem dX11_order_241 : decode cX11_order 241 = .ok (.ior, 1) := by decide +kernel
theorem dX11_order_242 : decode cX11_order 242 = .ok (.baload, 1) := by decide +kernel
theorem dX11_order_243 : decode cX11_order 243 = .ok (.ifCond .ne 9, 3) := by decide +kernel
theorem dX11_order_246 : decode cX11_order 246 = .ok (.iinc 4 1, 3) := by decide +kernel
theorem dX11_order_249 : decode cX11_order 249 = .ok (.goto (-30), 3) := by decide +kernel
theorem dX11_order_252 : decode cX11_order 252 = .ok (.iload_n 3, 1) := by decide +kernel
theorem dX11_order_253 : decode cX11_order 253 = .ok (.iconst 1, 1) := by decide +kernel
theorem dX11_order_254 : decode cX11_order 254 = .ok (.iload 4, 2) := by decide +kernel
theorem dX11_order_256 : decode cX11_order 256 = .ok (.ishl, 1) := by decide +kernel
theorem dX11_order_257 : decode cX11_order 257 = .ok (.ior, 1) := by decide +kernel
theorem dX11_order_258 : decode cX11_order 258 = .ok (.istore_n 3, 1) := by decide +kernel
theorem dX11_order_259 : decode cX11_order 259 = .ok (.iinc 5 1, 3) := by decide +kernel
theorem dX11_order_262 : decode cX11_order 262 = .ok (.goto (-52), 3) := by decide +kernel
theorem dX11_order_265 : decode cX11_order 265 = .ok (.iload 4, 2) := by decide +kernel
theorem dX11_order_267 : decode cX11_order 267 = .ok (.ireturn, 1) := by decide +kernel
/-! order -/
def X11_order_p146 (k57 : MS → Int32 → Int32 → Int32 → Option (Int32 × MS)) (k102 : MS → Int32 → Int32 → Int32 → Int32 → Int32 → Int32 → Option (Int32 × MS)) (st : MS) (v1 : Int32) (v2 : Int32) (v3 : Int32) (v4 : Int32) (v6 : Int32) (t0 : Int32) : Option (Int32 × MS) :=
    nm (v6 + (1 : Int32)) fun x_1 =>
    k102 st v1 v2 v3 v4 t0 x_1
def X11_order_p141 (k57 : MS → Int32 → Int32 → Int32 → Option (Int32 × MS)) (k102 : MS → Int32 → Int32 → Int32 → Int32 → Int32 → Int32 → Option (Int32 × MS)) (st : MS) (v1 : Int32) (v2 : Int32) (v3 : Int32) (v4 : Int32) (v6 : Int32) : Option (Int32 × MS) :=
    X11_order_p146 k57 k102 st v1 v2 v3 v4 v6 (1 : Int32)
def X11_order_p145 (k57 : MS → Int32 → Int32 → Int32 → Option (Int32 × MS)) (k102 : MS → Int32 → Int32 → Int32 → Int32 → Int32 → Int32 → Option (Int32 × MS)) (st : MS) (v1 : Int32) (v2 : Int32) (v3 : Int32) (v4 : Int32) (v6 : Int32) : Option (Int32 × MS) :=
    X11_order_p146 k57 k102 st v1 v2 v3 v4 v6 (0 : Int32)
def X11_order_p175 (k57 : MS → Int32 → Int32 → Int32 → Option (Int32 × MS)) (st : MS) (v1 : Int32) (v2 : Int32) (v3 : Int32) : Option (Int32 × MS) :=
    nm (v3 + (-1 : Int32)) fun x_2 =>
    k57 st v1 v2 x_2
def X11_order_p174 (k57 : MS → Int32 → Int32 → Int32 → Option (Int32 × MS)) (st : MS) (v1 : Int32) (v2 : Int32) (v3 : Int32) (t1 : Int32) (t2 : Int32) : Option (Int32 × MS) :=
    inr t1 4096 <|
    nm (sA st 32 t1.toNatClampNeg (vp_nar .boolean t2)) fun st_4 =>
    X11_order_p175 k57 st_4 v1 v2 v3
def X11_order_p173 (k57 : MS → Int32 → Int32 → Int32 → Option (Int32 × MS)) (st : MS) (v1 : Int32) (v2 : Int32) (v3 : Int32) (t1 : Int32) : Option (Int32 × MS) :=
    X11_order_p174 k57 st v1 v2 v3 t1 (0 : Int32)
def X11_order_p154 (k57 : MS → Int32 → Int32 → Int32 → Option (Int32 × MS)) (st : MS) (v1 : Int32) (v2 : Int32) (v3 : Int32) (v4 : Int32) (v5 : Int32) : Option (Int32 × MS) :=
    if v4 = 0 then
      (X11_order_p173 k57 st v1 v2 v3 v3)
    else
    if v5 = 0 then
      (X11_order_p173 k57 st v1 v2 v3 v3)
    else
    X11_order_p174 k57 st v1 v2 v3 v3 (1 : Int32)
def X11_order_p102 (k57 : MS → Int32 → Int32 → Int32 → Option (Int32 × MS)) : Nat → MS → Int32 → Int32 → Int32 → Int32 → Int32 → Int32 → Option (Int32 × MS)
  | 0, _, _, _, _, _, _, _ => none
  | n + 1, st, v1, v2, v3, v4, v5, v6 =>
    if (12 : Int32) ≤ v6 then
      (X11_order_p154 k57 st v1 v2 v3 v4 v5)
    else
    if v5 = 0 then
      (bd1 (X11_hasBit (v1 &&& (v3 ^^^ (-1 : Int32))) v6) fun y_9 =>
      if y_9 = 0 then
        (X11_order_p145 k57 (fun st v1 v2 v3 v4 v5 v6 => X11_order_p102 k57 n st v1 v2 v3 v4 v5 v6) st v1 v2 v3 v4 v6)
      else
      inr (v3 ||| ((1 : Int32) <<< (v6 &&& 31))) 4096 <|
      if (gA st 32 (v3 ||| ((1 : Int32) <<< (v6 &&& 31))).toNatClampNeg) = 0 then
        (X11_order_p145 k57 (fun st v1 v2 v3 v4 v5 v6 => X11_order_p102 k57 n st v1 v2 v3 v4 v5 v6) st v1 v2 v3 v4 v6)
      else
      X11_order_p141 k57 (fun st v1 v2 v3 v4 v5 v6 => X11_order_p102 k57 n st v1 v2 v3 v4 v5 v6) st v1 v2 v3 v4 v6)
    else
    X11_order_p141 k57 (fun st v1 v2 v3 v4 v5 v6 => X11_order_p102 k57 n st v1 v2 v3 v4 v5 v6) st v1 v2 v3 v4 v6
theorem X11_order_p102_s (k57 : MS → Int32 → Int32 → Int32 → Option (Int32 × MS)) (n : Nat) (st : MS) (v1 : Int32) (v2 : Int32) (v3 : Int32) (v4 : Int32) (v5 : Int32) (v6 : Int32) : X11_order_p102 k57 (n + 1) st v1 v2 v3 v4 v5 v6 =
    (if (12 : Int32) ≤ v6 then
      (X11_order_p154 k57 st v1 v2 v3 v4 v5)
    else
    if v5 = 0 then
      (bd1 (X11_hasBit (v1 &&& (v3 ^^^ (-1 : Int32))) v6) fun y_9 =>
      if y_9 = 0 then
        (X11_order_p145 k57 (fun st v1 v2 v3 v4 v5 v6 => X11_order_p102 k57 n st v1 v2 v3 v4 v5 v6) st v1 v2 v3 v4 v6)
      else
      inr (v3 ||| ((1 : Int32) <<< (v6 &&& 31))) 4096 <|
      if (gA st 32 (v3 ||| ((1 : Int32) <<< (v6 &&& 31))).toNatClampNeg) = 0 then
        (X11_order_p145 k57 (fun st v1 v2 v3 v4 v5 v6 => X11_order_p102 k57 n st v1 v2 v3 v4 v5 v6) st v1 v2 v3 v4 v6)
      else
      X11_order_p141 k57 (fun st v1 v2 v3 v4 v5 v6 => X11_order_p102 k57 n st v1 v2 v3 v4 v5 v6) st v1 v2 v3 v4 v6)
    else
    X11_order_p141 k57 (fun st v1 v2 v3 v4 v5 v6 => X11_order_p102 k57 n st v1 v2 v3 v4 v5 v6) st v1 v2 v3 v4 v6) := rfl
def X11_order_p90 (k57 : MS → Int32 → Int32 → Int32 → Option (Int32 × MS)) (st : MS) (v1 : Int32) (v2 : Int32) (v3 : Int32) (t0 : Int32) : Option (Int32 × MS) :=
    bnd (X11_close st) fun _ st_14 =>
    X11_order_p102 k57 13 st_14 v1 v2 v3 t0 (0 : Int32) (0 : Int32)
def X11_order_p85 (k57 : MS → Int32 → Int32 → Int32 → Option (Int32 × MS)) (st : MS) (v1 : Int32) (v2 : Int32) (v3 : Int32) : Option (Int32 × MS) :=
    X11_order_p90 k57 st v1 v2 v3 (1 : Int32)
def X11_order_p246 (k210 : MS → Int32 → Int32 → Int32 → Int32 → Int32 → Option (Int32 × MS)) (k219 : MS → Int32 → Int32 → Int32 → Int32 → Int32 → Option (Int32 × MS)) (st : MS) (v1 : Int32) (v2 : Int32) (v3 : Int32) (v4 : Int32) (v5 : Int32) : Option (Int32 × MS) :=
    nm (v4 + (1 : Int32)) fun x_16 =>
    k219 st v1 v2 v3 x_16 v5
def X11_order_p252 (k210 : MS → Int32 → Int32 → Int32 → Int32 → Int32 → Option (Int32 × MS)) (st : MS) (v1 : Int32) (v2 : Int32) (v3 : Int32) (v4 : Int32) (v5 : Int32) : Option (Int32 × MS) :=
    nm ((v3 ||| ((1 : Int32) <<< (v4 &&& 31)))) fun x_17 =>
    nm (v5 + (1 : Int32)) fun x_18 =>
    k210 st v1 v2 x_17 v4 x_18
def X11_order_p219 (k210 : MS → Int32 → Int32 → Int32 → Int32 → Int32 → Option (Int32 × MS)) : Nat → MS → Int32 → Int32 → Int32 → Int32 → Int32 → Option (Int32 × MS)
  | 0, _, _, _, _, _, _ => none
  | n + 1, st, v1, v2, v3, v4, v5 =>
    bd1 (X11_hasBit (v1 &&& (v3 ^^^ (-1 : Int32))) v4) fun y_19 =>
    if y_19 = 0 then
      (X11_order_p246 k210 (fun st v1 v2 v3 v4 v5 => X11_order_p219 k210 n st v1 v2 v3 v4 v5) st v1 v2 v3 v4 v5)
    else
    inr (v3 ||| ((1 : Int32) <<< (v4 &&& 31))) 4096 <|
    if (gA st 32 (v3 ||| ((1 : Int32) <<< (v4 &&& 31))).toNatClampNeg) = 0 then
      (X11_order_p246 k210 (fun st v1 v2 v3 v4 v5 => X11_order_p219 k210 n st v1 v2 v3 v4 v5) st v1 v2 v3 v4 v5)
    else
    X11_order_p252 k210 st v1 v2 v3 v4 v5
theorem X11_order_p219_s (k210 : MS → Int32 → Int32 → Int32 → Int32 → Int32 → Option (Int32 × MS)) (n : Nat) (st : MS) (v1 : Int32) (v2 : Int32) (v3 : Int32) (v4 : Int32) (v5 : Int32) : X11_order_p219 k210 (n + 1) st v1 v2 v3 v4 v5 =
    (bd1 (X11_hasBit (v1 &&& (v3 ^^^ (-1 : Int32))) v4) fun y_19 =>
    if y_19 = 0 then
      (X11_order_p246 k210 (fun st v1 v2 v3 v4 v5 => X11_order_p219 k210 n st v1 v2 v3 v4 v5) st v1 v2 v3 v4 v5)
    else
    inr (v3 ||| ((1 : Int32) <<< (v4 &&& 31))) 4096 <|
    if (gA st 32 (v3 ||| ((1 : Int32) <<< (v4 &&& 31))).toNatClampNeg) = 0 then
      (X11_order_p246 k210 (fun st v1 v2 v3 v4 v5 => X11_order_p219 k210 n st v1 v2 v3 v4 v5) st v1 v2 v3 v4 v5)
    else
    X11_order_p252 k210 st v1 v2 v3 v4 v5) := rfl
def X11_order_p265 (st : MS) (v4 : Int32) : Option (Int32 × MS) :=
    some (v4, st)
def X11_order_p210 : Nat → MS → Int32 → Int32 → Int32 → Int32 → Int32 → Option (Int32 × MS)
  | 0, _, _, _, _, _, _ => none
  | n + 1, st, v1, v2, v3, v4, v5 =>
    if v2 < v5 then
      (X11_order_p265 st v4)
    else
    X11_order_p219 (fun st v1 v2 v3 v4 v5 => X11_order_p210  n st v1 v2 v3 v4 v5) 5000 st v1 v2 v3 (0 : Int32) v5
theorem X11_order_p210_s (n : Nat) (st : MS) (v1 : Int32) (v2 : Int32) (v3 : Int32) (v4 : Int32) (v5 : Int32) : X11_order_p210  (n + 1) st v1 v2 v3 v4 v5 =
    (if v2 < v5 then
      (X11_order_p265 st v4)
    else
    X11_order_p219 (fun st v1 v2 v3 v4 v5 => X11_order_p210  n st v1 v2 v3 v4 v5) 5000 st v1 v2 v3 (0 : Int32) v5) := rfl
def X11_order_p181 (st : MS) (v1 : Int32) (v2 : Int32) : Option (Int32 × MS) :=
    inr (0 : Int32) 4096 <|
    if (gA st 32 (0 : Int32).toNatClampNeg) = 0 then
      (some ((-4 : Int32), st))
    else
    bd1 (X11_onesOf v1) fun y_27 =>
    if v2 < y_27 then
      (X11_order_p210 5000 st v1 v2 (0 : Int32) (-4 : Int32) (0 : Int32))
    else
    some ((-4 : Int32), st)
def X11_order_p57 : Nat → MS → Int32 → Int32 → Int32 → Option (Int32 × MS)
  | 0, _, _, _, _ => none
  | n + 1, st, v1, v2, v3 =>
    if v3 < 0 then
      (X11_order_p181 st v1 v2)
    else
    if (v3 &&& (v1 ^^^ (-1 : Int32))) = 0 then
      (bnd (X11_cutAll st v3) fun _ st_32 =>
      if v3 = 0 then
        (X11_order_p85 (fun st v1 v2 v3 => X11_order_p57  n st v1 v2 v3) st_32 v1 v2 v3)
      else
      bnd (X11_stands st_32) fun y_36 st_35 =>
      if y_36 = 0 then
        (X11_order_p90 (fun st v1 v2 v3 => X11_order_p57  n st v1 v2 v3) st_35 v1 v2 v3 (0 : Int32))
      else
      X11_order_p85 (fun st v1 v2 v3 => X11_order_p57  n st v1 v2 v3) st_35 v1 v2 v3)
    else
    X11_order_p175 (fun st v1 v2 v3 => X11_order_p57  n st v1 v2 v3) st v1 v2 v3
theorem X11_order_p57_s (n : Nat) (st : MS) (v1 : Int32) (v2 : Int32) (v3 : Int32) : X11_order_p57  (n + 1) st v1 v2 v3 =
    (if v3 < 0 then
      (X11_order_p181 st v1 v2)
    else
    if (v3 &&& (v1 ^^^ (-1 : Int32))) = 0 then
      (bnd (X11_cutAll st v3) fun _ st_32 =>
      if v3 = 0 then
        (X11_order_p85 (fun st v1 v2 v3 => X11_order_p57  n st v1 v2 v3) st_32 v1 v2 v3)
      else
      bnd (X11_stands st_32) fun y_36 st_35 =>
      if y_36 = 0 then
        (X11_order_p90 (fun st v1 v2 v3 => X11_order_p57  n st v1 v2 v3) st_35 v1 v2 v3 (0 : Int32))
      else
      X11_order_p85 (fun st v1 v2 v3 => X11_order_p57  n st v1 v2 v3) st_35 v1 v2 v3)
    else
    X11_order_p175 (fun st v1 v2 v3 => X11_order_p57  n st v1 v2 v3) st v1 v2 v3) := rfl
def X11_order (st : MS) (v1 : Int32) (v2 : Int32) : Option (Int32 × MS) :=
    nm (sF st 17 (0 : Int32)) fun st_39 =>
    bd1 (X11_in (v1.toInt64) (1 : Int64) (4095 : Int64)) fun y_40 =>
    if y_40 = 0 then
      (some ((-1 : Int32), st_39))
    else
    bd1 (X11_onesOf v1) fun y_43 =>
    if (8 : Int32) < y_43 then
      (some ((-1 : Int32), st_39))
    else
    if 0 ≤ v2 then
      (if (gF st_39 7) = 0 then
        (inr v1 4096 <|
        nm (sA st_39 32 v1.toNatClampNeg (vp_nar .boolean (1 : Int32))) fun st_49 =>
        bnd (X11_open st_49) fun _ st_50 =>
        nm ((v1 - (1 : Int32))) fun x_52 =>
        X11_order_p57 5000 st_50 v1 v2 x_52)
      else
      some ((-3 : Int32), st_39))
    else
    some ((-1 : Int32), st_39)
abbrev rmX11_order : Room := { frames := 7, cells := 0, slots := 0, locals := 151 }
theorem hdX11_order : yX11_order.cls = RX11 ∧ yX11_order.cls ≠ "java/lang/invoke/MethodHandle" ∧ yX11_order.cls ≠ "java/lang/invoke/VarHandle" ∧ (parseMethodDescriptor yX11_order.desc).map (fun d => d.parameters.length) = some 2 := by decide +kernel
set_option maxRecDepth 100000 in
set_option maxHeartbeats 4000000 in
theorem okX11_order (l : Launch) (D : va_G) (a : Nat → Nat) (T : mT3) {st : MS} {v1 : Int32} {v2 : Int32} {r : Int32} {st' : MS} (heq : X11_order st v1 v2 = some (r, st')) : gCi l D (mT T) yX11_order wsX11_order rmX11_order [.ref (a 0), .int v1, .int v2] (mW a T st) r (mW a T st') := by
  refine g_body_i (by decide) rfl (Nat.le_of_ble_eq_true rfl) (fun p e s m args below meth c A Q hx hb hml hown hts hK hA hret ls hP hD hS hl => ?_)
  have hl : lv_has ls 7 [(0, .ref (a 0)), (1, .int v1), (2, .int v2)] := hl
  have hin : ∀ w ∈ wsX110, w ∈ wsX11_order := fun w h => List.mem_cons_of_mem _ (List.mem_append_right _ h)
  have f68 : (Cond.fieldLink RX11 68 RX11 (TX11 32).2.1 (TX11 32).2.2.1).before args s = true := hts (.fieldLink RX11 68 "LaidDownTheLaneModel" "canEnd" "[Z") (by decide +kernel)
  have f75 : (Cond.fieldLink RX11 75 RX11 (TX11 17).2.1 (TX11 17).2.2.1).before args s = true := hts (.fieldLink RX11 75 "LaidDownTheLaneModel" "thrown" "I") (by decide +kernel)
  have f122 : (Cond.fieldLink RX11 122 RX11 (TX11 7).2.1 (TX11 7).2.2.1).before args s = true := hts (.fieldLink RX11 122 "LaidDownTheLaneModel" "isDown" "Z") (by decide +kernel)
  have c250 := hts (.constantLong RX11 250 (4095)) (by decide +kernel)
  have b146 : ∀ (k57 : MS → Int32 → Int32 → Int32 → Option (Int32 × MS)) (hk57 : ∀ (st : MS) (v1 : Int32) (v2 : Int32) (v3 : Int32) (H : Heap) (locs : List Loc) (ls : Array Slot), va_P D vwCl (mW a T st) H → va_D A (mW a T st) → va_S A s.heap H locs → lv_has ls 7 [(0, .ref (a 0)), (1, .int v1), (2, .int v2), (3, .int v3)] → k57 st v1 v2 v3 = some (r, st') → W p l e rmX11_order s m args below meth c H locs 0 0 Q (F0 m 57 ls [])) (k102 : MS → Int32 → Int32 → Int32 → Int32 → Int32 → Int32 → Option (Int32 × MS)) (hk102 : ∀ (st : MS) (v1 : Int32) (v2 : Int32) (v3 : Int32) (v4 : Int32) (v5 : Int32) (v6 : Int32) (H : Heap) (locs : List Loc) (ls : Array Slot), va_P D vwCl (mW a T st) H → va_D A (mW a T st) → va_S A s.heap H locs → lv_has ls 7 [(0, .ref (a 0)), (1, .int v1), (2, .int v2), (3, .int v3), (4, .int v4), (5, .int v5), (6, .int v6)] → k102 st v1 v2 v3 v4 v5 v6 = some (r, st') → W p l e rmX11_order s m args below meth c H locs 0 0 Q (F0 m 102 ls [])), ∀ (st : MS) (v1 : Int32) (v2 : Int32) (v3 : Int32) (v4 : Int32) (v6 : Int32) (t0 : Int32) (H : Heap) (locs : List Loc) (ls : Array Slot), va_P D vwCl (mW a T st) H → va_D A (mW a T st) → va_S A s.heap H locs → lv_has ls 7 [(0, .ref (a 0)), (1, .int v1), (2, .int v2), (3, .int v3), (4, .int v4), (6, .int v6)] → X11_order_p146 k57 k102 st v1 v2 v3 v4 v6 t0 = some (r, st') → W p l e rmX11_order s m args below meth c H locs 0 0 Q (F0 m 146 ls [.int t0]) := by
    intro k57 hk57 k102 hk102 st v1 v2 v3 v4 v6 t0 H locs ls hP hD hS hl heq
    unfold X11_order_p146 at heq
    refine lv_istore (lv' := [(5, .int t0), (0, .ref (a 0)), (1, .int v1), (2, .int v2), (3, .int v3), (4, .int v4), (6, .int v6)]) hx hb dX11_order_146 hl (by decide) rfl (fun ls hl => ?_)
    obtain ⟨x_1, ex_1⟩ : ∃ y : Int32, y = v6 + (1 : Int32) := ⟨_, rfl⟩
    have heq := nm_h ex_1 heq
    refine lv_iinc (v := x_1) (lv' := [(6, .int x_1), (5, .int t0), (0, .ref (a 0)), (1, .int v1), (2, .int v2), (3, .int v3), (4, .int v4)]) hx hb dX11_order_148 hl (k := 6) rfl (by rw [ex_1]; rfl) (by decide) rfl (fun ls hl => ?_)
    refine lv_goto (tgt := 102) hx hb dX11_order_151 (by decide) ?_
    exact hk102 st v1 v2 v3 v4 t0 x_1 H locs ls hP hD hS (lv_sub hl [2, 3, 4, 5, 6, 1, 0] rfl) heq
  have b141 : ∀ (k57 : MS → Int32 → Int32 → Int32 → Option (Int32 × MS)) (hk57 : ∀ (st : MS) (v1 : Int32) (v2 : Int32) (v3 : Int32) (H : Heap) (locs : List Loc) (ls : Array Slot), va_P D vwCl (mW a T st) H → va_D A (mW a T st) → va_S A s.heap H locs → lv_has ls 7 [(0, .ref (a 0)), (1, .int v1), (2, .int v2), (3, .int v3)] → k57 st v1 v2 v3 = some (r, st') → W p l e rmX11_order s m args below meth c H locs 0 0 Q (F0 m 57 ls [])) (k102 : MS → Int32 → Int32 → Int32 → Int32 → Int32 → Int32 → Option (Int32 × MS)) (hk102 : ∀ (st : MS) (v1 : Int32) (v2 : Int32) (v3 : Int32) (v4 : Int32) (v5 : Int32) (v6 : Int32) (H : Heap) (locs : List Loc) (ls : Array Slot), va_P D vwCl (mW a T st) H → va_D A (mW a T st) → va_S A s.heap H locs → lv_has ls 7 [(0, .ref (a 0)), (1, .int v1), (2, .int v2), (3, .int v3), (4, .int v4), (5, .int v5), (6, .int v6)] → k102 st v1 v2 v3 v4 v5 v6 = some (r, st') → W p l e rmX11_order s m args below meth c H locs 0 0 Q (F0 m 102 ls [])), ∀ (st : MS) (v1 : Int32) (v2 : Int32) (v3 : Int32) (v4 : Int32) (v6 : Int32) (H : Heap) (locs : List Loc) (ls : Array Slot), va_P D vwCl (mW a T st) H → va_D A (mW a T st) → va_S A s.heap H locs → lv_has ls 7 [(0, .ref (a 0)), (1, .int v1), (2, .int v2), (3, .int v3), (4, .int v4), (6, .int v6)] → X11_order_p141 k57 k102 st v1 v2 v3 v4 v6 = some (r, st') → W p l e rmX11_order s m args below meth c H locs 0 0 Q (F0 m 141 ls []) := by
    intro k57 hk57 k102 hk102 st v1 v2 v3 v4 v6 H locs ls hP hD hS hl heq
    unfold X11_order_p141 at heq
    refine lv_iconst (v := (1 : Int32)) hx hb dX11_order_141 (by decide) ?_
    refine lv_goto (tgt := 146) hx hb dX11_order_142 (by decide) ?_
    exact b146 k57 hk57 k102 hk102 st v1 v2 v3 v4 v6 (1 : Int32) H locs ls hP hD hS (lv_sub hl [0, 1, 2, 3, 4, 5] rfl) heq
  have b145 : ∀ (k57 : MS → Int32 → Int32 → Int32 → Option (Int32 × MS)) (hk57 : ∀ (st : MS) (v1 : Int32) (v2 : Int32) (v3 : Int32) (H : Heap) (locs : List Loc) (ls : Array Slot), va_P D vwCl (mW a T st) H → va_D A (mW a T st) → va_S A s.heap H locs → lv_has ls 7 [(0, .ref (a 0)), (1, .int v1), (2, .int v2), (3, .int v3)] → k57 st v1 v2 v3 = some (r, st') → W p l e rmX11_order s m args below meth c H locs 0 0 Q (F0 m 57 ls [])) (k102 : MS → Int32 → Int32 → Int32 → Int32 → Int32 → Int32 → Option (Int32 × MS)) (hk102 : ∀ (st : MS) (v1 : Int32) (v2 : Int32) (v3 : Int32) (v4 : Int32) (v5 : Int32) (v6 : Int32) (H : Heap) (locs : List Loc) (ls : Array Slot), va_P D vwCl (mW a T st) H → va_D A (mW a T st) → va_S A s.heap H locs → lv_has ls 7 [(0, .ref (a 0)), (1, .int v1), (2, .int v2), (3, .int v3), (4, .int v4), (5, .int v5), (6, .int v6)] → k102 st v1 v2 v3 v4 v5 v6 = some (r, st') → W p l e rmX11_order s m args below meth c H locs 0 0 Q (F0 m 102 ls [])), ∀ (st : MS) (v1 : Int32) (v2 : Int32) (v3 : Int32) (v4 : Int32) (v6 : Int32) (H : Heap) (locs : List Loc) (ls : Array Slot), va_P D vwCl (mW a T st) H → va_D A (mW a T st) → va_S A s.heap H locs → lv_has ls 7 [(0, .ref (a 0)), (1, .int v1), (2, .int v2), (3, .int v3), (4, .int v4), (6, .int v6)] → X11_order_p145 k57 k102 st v1 v2 v3 v4 v6 = some (r, st') → W p l e rmX11_order s m args below meth c H locs 0 0 Q (F0 m 145 ls []) := by
    intro k57 hk57 k102 hk102 st v1 v2 v3 v4 v6 H locs ls hP hD hS hl heq
    unfold X11_order_p145 at heq
    refine lv_iconst (v := (0 : Int32)) hx hb dX11_order_145 (by decide) ?_
    exact b146 k57 hk57 k102 hk102 st v1 v2 v3 v4 v6 (0 : Int32) H locs ls hP hD hS (lv_sub hl [0, 1, 2, 3, 4, 5] rfl) heq
  have b175 : ∀ (k57 : MS → Int32 → Int32 → Int32 → Option (Int32 × MS)) (hk57 : ∀ (st : MS) (v1 : Int32) (v2 : Int32) (v3 : Int32) (H : Heap) (locs : List Loc) (ls : Array Slot), va_P D vwCl (mW a T st) H → va_D A (mW a T st) → va_S A s.heap H locs → lv_has ls 7 [(0, .ref (a 0)), (1, .int v1), (2, .int v2), (3, .int v3)] → k57 st v1 v2 v3 = some (r, st') → W p l e rmX11_order s m args below meth c H locs 0 0 Q (F0 m 57 ls [])), ∀ (st : MS) (v1 : Int32) (v2 : Int32) (v3 : Int32) (H : Heap) (locs : List Loc) (ls : Array Slot), va_P D vwCl (mW a T st) H → va_D A (mW a T st) → va_S A s.heap H locs → lv_has ls 7 [(0, .ref (a 0)), (1, .int v1), (2, .int v2), (3, .int v3)] → X11_order_p175 k57 st v1 v2 v3 = some (r, st') → W p l e rmX11_order s m args below meth c H locs 0 0 Q (F0 m 175 ls []) := by
    intro k57 hk57 st v1 v2 v3 H locs ls hP hD hS hl heq
    unfold X11_order_p175 at heq
    obtain ⟨x_2, ex_2⟩ : ∃ y : Int32, y = v3 + (-1 : Int32) := ⟨_, rfl⟩
    have heq := nm_h ex_2 heq
    refine lv_iinc (v := x_2) (lv' := [(3, .int x_2), (0, .ref (a 0)), (1, .int v1), (2, .int v2)]) hx hb dX11_order_175 hl (k := 3) rfl (by rw [ex_2]; rfl) (by decide) rfl (fun ls hl => ?_)
    refine lv_goto (tgt := 57) hx hb dX11_order_178 (by decide) ?_
    exact hk57 st v1 v2 x_2 H locs ls hP hD hS (lv_sub hl [1, 2, 3, 0] rfl) heq
  have b174 : ∀ (k57 : MS → Int32 → Int32 → Int32 → Option (Int32 × MS)) (hk57 : ∀ (st : MS) (v1 : Int32) (v2 : Int32) (v3 : Int32) (H : Heap) (locs : List Loc) (ls : Array Slot), va_P D vwCl (mW a T st) H → va_D A (mW a T st) → va_S A s.heap H locs → lv_has ls 7 [(0, .ref (a 0)), (1, .int v1), (2, .int v2), (3, .int v3)] → k57 st v1 v2 v3 = some (r, st') → W p l e rmX11_order s m args below meth c H locs 0 0 Q (F0 m 57 ls [])), ∀ (st : MS) (v1 : Int32) (v2 : Int32) (v3 : Int32) (t1 : Int32) (t2 : Int32) (H : Heap) (locs : List Loc) (ls : Array Slot), va_P D vwCl (mW a T st) H → va_D A (mW a T st) → va_S A s.heap H locs → lv_has ls 7 [(0, .ref (a 0)), (1, .int v1), (2, .int v2), (3, .int v3)] → X11_order_p174 k57 st v1 v2 v3 t1 t2 = some (r, st') → W p l e rmX11_order s m args below meth c H locs 0 0 Q (F0 m 174 ls [.int t2, .int t1, .ref (a 20)]) := by
    intro k57 hk57 st v1 v2 v3 t1 t2 H locs ls hP hD hS hl heq
    unfold X11_order_p174 at heq
    obtain ⟨n_3, heq⟩ := inr_h heq
    refine mzs (k := 32) (q := 20) (n := 4096) hx hb hK hP hD hS rfl (maset_32 ..) n_3 dX11_order_174 (fun H locs hP hD hS => ?_)
    obtain ⟨st_4, est_4⟩ : ∃ z, z = sA st 32 t1.toNatClampNeg (vp_nar .boolean t2) := ⟨_, rfl⟩
    rw [← est_4] at hP hD
    have heq := nm_h est_4 heq
    exact b175 k57 hk57 st_4 v1 v2 v3 H locs ls hP hD hS (lv_sub hl [0, 1, 2, 3] rfl) heq
  have b173 : ∀ (k57 : MS → Int32 → Int32 → Int32 → Option (Int32 × MS)) (hk57 : ∀ (st : MS) (v1 : Int32) (v2 : Int32) (v3 : Int32) (H : Heap) (locs : List Loc) (ls : Array Slot), va_P D vwCl (mW a T st) H → va_D A (mW a T st) → va_S A s.heap H locs → lv_has ls 7 [(0, .ref (a 0)), (1, .int v1), (2, .int v2), (3, .int v3)] → k57 st v1 v2 v3 = some (r, st') → W p l e rmX11_order s m args below meth c H locs 0 0 Q (F0 m 57 ls [])), ∀ (st : MS) (v1 : Int32) (v2 : Int32) (v3 : Int32) (t1 : Int32) (H : Heap) (locs : List Loc) (ls : Array Slot), va_P D vwCl (mW a T st) H → va_D A (mW a T st) → va_S A s.heap H locs → lv_has ls 7 [(0, .ref (a 0)), (1, .int v1), (2, .int v2), (3, .int v3)] → X11_order_p173 k57 st v1 v2 v3 t1 = some (r, st') → W p l e rmX11_order s m args below meth c H locs 0 0 Q (F0 m 173 ls [.int t1, .ref (a 20)]) := by
    intro k57 hk57 st v1 v2 v3 t1 H locs ls hP hD hS hl heq
    unfold X11_order_p173 at heq
    refine lv_iconst (v := (0 : Int32)) hx hb dX11_order_173 (by decide) ?_
    exact b174 k57 hk57 st v1 v2 v3 t1 (0 : Int32) H locs ls hP hD hS (lv_sub hl [0, 1, 2, 3] rfl) heq
  have b154 : ∀ (k57 : MS → Int32 → Int32 → Int32 → Option (Int32 × MS)) (hk57 : ∀ (st : MS) (v1 : Int32) (v2 : Int32) (v3 : Int32) (H : Heap) (locs : List Loc) (ls : Array Slot), va_P D vwCl (mW a T st) H → va_D A (mW a T st) → va_S A s.heap H locs → lv_has ls 7 [(0, .ref (a 0)), (1, .int v1), (2, .int v2), (3, .int v3)] → k57 st v1 v2 v3 = some (r, st') → W p l e rmX11_order s m args below meth c H locs 0 0 Q (F0 m 57 ls [])), ∀ (st : MS) (v1 : Int32) (v2 : Int32) (v3 : Int32) (v4 : Int32) (v5 : Int32) (H : Heap) (locs : List Loc) (ls : Array Slot), va_P D vwCl (mW a T st) H → va_D A (mW a T st) → va_S A s.heap H locs → lv_has ls 7 [(0, .ref (a 0)), (1, .int v1), (2, .int v2), (3, .int v3), (4, .int v4), (5, .int v5)] → X11_order_p154 k57 st v1 v2 v3 v4 v5 = some (r, st') → W p l e rmX11_order s m args below meth c H locs 0 0 Q (F0 m 154 ls []) := by
    intro k57 hk57 st v1 v2 v3 v4 v5 H locs ls hP hD hS hl heq
    unfold X11_order_p154 at heq
    refine lv_aload_n hx hb dX11_order_154 rfl (lv_at hl 0 rfl) ?_
    refine mg (k := 32) (v := .ref (a 20)) hx hb hts hin hown hK hP (by decide) f68 rfl dX11_order_155 rfl ?_
    refine lv_iload_n hx hb dX11_order_158 rfl (lv_at hl 3 rfl) ?_
    refine lv_iload hx hb dX11_order_159 (lv_at hl 4 rfl) ?_
    refine lv_if_eq (tgt := 173) hx hb dX11_order_161 (by decide) (fun c_5 => ?_) (fun c_5 => ?_)
    · have heq := it_t c_5 heq
      exact b173 k57 hk57 st v1 v2 v3 v3 H locs ls hP hD hS (lv_sub hl [0, 1, 2, 3] rfl) heq
    have heq := it_f c_5 heq
    refine lv_iload hx hb dX11_order_164 (lv_at hl 5 rfl) ?_
    refine lv_if_eq (tgt := 173) hx hb dX11_order_166 (by decide) (fun c_6 => ?_) (fun c_6 => ?_)
    · have heq := it_t c_6 heq
      exact b173 k57 hk57 st v1 v2 v3 v3 H locs ls hP hD hS (lv_sub hl [0, 1, 2, 3] rfl) heq
    have heq := it_f c_6 heq
    refine lv_iconst (v := (1 : Int32)) hx hb dX11_order_169 (by decide) ?_
    refine lv_goto (tgt := 174) hx hb dX11_order_170 (by decide) ?_
    exact b174 k57 hk57 st v1 v2 v3 v3 (1 : Int32) H locs ls hP hD hS (lv_sub hl [0, 1, 2, 3] rfl) heq
  have b102 : ∀ (k57 : MS → Int32 → Int32 → Int32 → Option (Int32 × MS)) (hk57 : ∀ (st : MS) (v1 : Int32) (v2 : Int32) (v3 : Int32) (H : Heap) (locs : List Loc) (ls : Array Slot), va_P D vwCl (mW a T st) H → va_D A (mW a T st) → va_S A s.heap H locs → lv_has ls 7 [(0, .ref (a 0)), (1, .int v1), (2, .int v2), (3, .int v3)] → k57 st v1 v2 v3 = some (r, st') → W p l e rmX11_order s m args below meth c H locs 0 0 Q (F0 m 57 ls [])), ∀ (n : Nat), ∀ (st : MS) (v1 : Int32) (v2 : Int32) (v3 : Int32) (v4 : Int32) (v5 : Int32) (v6 : Int32) (H : Heap) (locs : List Loc) (ls : Array Slot), va_P D vwCl (mW a T st) H → va_D A (mW a T st) → va_S A s.heap H locs → lv_has ls 7 [(0, .ref (a 0)), (1, .int v1), (2, .int v2), (3, .int v3), (4, .int v4), (5, .int v5), (6, .int v6)] → X11_order_p102 k57 n st v1 v2 v3 v4 v5 v6 = some (r, st') → W p l e rmX11_order s m args below meth c H locs 0 0 Q (F0 m 102 ls []) := by
    intro k57 hk57 n
    induction n with
    | zero => intro st v1 v2 v3 v4 v5 v6 H locs ls hP hD hS hl heq; cases heq
    | succ n ih =>
      intro st v1 v2 v3 v4 v5 v6 H locs ls hP hD hS hl heq
      rw [X11_order_p102_s] at heq
      refine lv_iload hx hb dX11_order_102 (lv_at hl 6 rfl) ?_
      refine lv_bipush (v := (12 : Int32)) hx hb dX11_order_104 (by decide) ?_
      refine lv_icmp_ge (tgt := 154) hx hb dX11_order_106 (by decide) (fun c_7 => ?_) (fun c_7 => ?_)
      · have heq := it_t c_7 heq
        exact b154 k57 hk57 st v1 v2 v3 v4 v5 H locs ls hP hD hS (lv_sub hl [0, 1, 2, 3, 4, 5] rfl) heq
      have heq := it_f c_7 heq
      refine lv_iload hx hb dX11_order_109 (lv_at hl 5 rfl) ?_
      refine lv_if_ne (tgt := 141) hx hb dX11_order_111 (by decide) (fun c_8 => ?_) (fun c_8 => ?_)
      · have heq := it_f c_8 heq
        exact b141 k57 hk57 (fun st v1 v2 v3 v4 v5 v6 => X11_order_p102 k57 n st v1 v2 v3 v4 v5 v6) ih st v1 v2 v3 v4 v6 H locs ls hP hD hS (lv_sub hl [0, 1, 2, 3, 4, 6] rfl) heq
      have heq := it_t c_8 heq
      refine lv_iload_n hx hb dX11_order_114 rfl (lv_at hl 1 rfl) ?_
      refine lv_iload_n hx hb dX11_order_115 rfl (lv_at hl 3 rfl) ?_
      refine lv_iconst (v := (-1 : Int32)) hx hb dX11_order_116 (by decide) ?_
      refine lv_ixor hx hb dX11_order_117 ?_
      refine lv_iand hx hb dX11_order_118 ?_
      refine lv_iload hx hb dX11_order_119 (lv_at hl 6 rfl) ?_
      obtain ⟨y_9, h_10, heq⟩ := bd1_h heq
      refine g_si (own := RX11) (D := D) (As := [.int (v1 &&& (v3 ^^^ (-1 : Int32))), .int v6]) (rest := []) hx hb hml hown hts (okX11_hasBit l D h_10) (cwS 2 hts gX11_order_X11_hasBit rfl rfl rfl hdX11_hasBit ⟨Nat.le_of_ble_eq_true rfl, Nat.le_of_ble_eq_true rfl⟩) hK hA hP hS rfl hl.1 rfl (Nat.le_of_ble_eq_true rfl) dX11_order_121 ⟨Nat.le_of_ble_eq_true rfl, Nat.le_of_ble_eq_true rfl⟩ (fun H locs hP hS => ?_)
      refine lv_if_eq (tgt := 145) hx hb dX11_order_124 (by decide) (fun c_11 => ?_) (fun c_11 => ?_)
      · have heq := it_t c_11 heq
        exact b145 k57 hk57 (fun st v1 v2 v3 v4 v5 v6 => X11_order_p102 k57 n st v1 v2 v3 v4 v5 v6) ih st v1 v2 v3 v4 v6 H locs ls hP hD hS (lv_sub hl [0, 1, 2, 3, 4, 6] rfl) heq
      have heq := it_f c_11 heq
      refine lv_aload_n hx hb dX11_order_127 rfl (lv_at hl 0 rfl) ?_
      refine mg (k := 32) (v := .ref (a 20)) hx hb hts hin hown hK hP (by decide) f68 rfl dX11_order_128 rfl ?_
      refine lv_iload_n hx hb dX11_order_131 rfl (lv_at hl 3 rfl) ?_
      refine lv_iconst (v := (1 : Int32)) hx hb dX11_order_132 (by decide) ?_
      refine lv_iload hx hb dX11_order_133 (lv_at hl 6 rfl) ?_
      refine lv_ishl hx hb dX11_order_135 ?_
      refine lv_ior hx hb dX11_order_136 ?_
      obtain ⟨n_12, heq⟩ := inr_h heq
      refine mzl (k := 32) (q := 20) (n := 4096) hx hb hK hP rfl n_12 dX11_order_137 ?_
      refine lv_if_eq (tgt := 145) hx hb dX11_order_138 (by decide) (fun c_13 => ?_) (fun c_13 => ?_)
      · have heq := it_t c_13 heq
        exact b145 k57 hk57 (fun st v1 v2 v3 v4 v5 v6 => X11_order_p102 k57 n st v1 v2 v3 v4 v5 v6) ih st v1 v2 v3 v4 v6 H locs ls hP hD hS (lv_sub hl [0, 1, 2, 3, 4, 6] rfl) heq
      have heq := it_f c_13 heq
      exact b141 k57 hk57 (fun st v1 v2 v3 v4 v5 v6 => X11_order_p102 k57 n st v1 v2 v3 v4 v5 v6) ih st v1 v2 v3 v4 v6 H locs ls hP hD hS (lv_sub hl [0, 1, 2, 3, 4, 6] rfl) heq
  have b90 : ∀ (k57 : MS → Int32 → Int32 → Int32 → Option (Int32 × MS)) (hk57 : ∀ (st : MS) (v1 : Int32) (v2 : Int32) (v3 : Int32) (H : Heap) (locs : List Loc) (ls : Array Slot), va_P D vwCl (mW a T st) H → va_D A (mW a T st) → va_S A s.heap H locs → lv_has ls 7 [(0, .ref (a 0)), (1, .int v1), (2, .int v2), (3, .int v3)] → k57 st v1 v2 v3 = some (r, st') → W p l e rmX11_order s m args below meth c H locs 0 0 Q (F0 m 57 ls [])), ∀ (st : MS) (v1 : Int32) (v2 : Int32) (v3 : Int32) (t0 : Int32) (H : Heap) (locs : List Loc) (ls : Array Slot), va_P D vwCl (mW a T st) H → va_D A (mW a T st) → va_S A s.heap H locs → lv_has ls 7 [(0, .ref (a 0)), (1, .int v1), (2, .int v2), (3, .int v3)] → X11_order_p90 k57 st v1 v2 v3 t0 = some (r, st') → W p l e rmX11_order s m args below meth c H locs 0 0 Q (F0 m 90 ls [.int t0]) := by
    intro k57 hk57 st v1 v2 v3 t0 H locs ls hP hD hS hl heq
    unfold X11_order_p90 at heq
    refine lv_istore (lv' := [(4, .int t0), (0, .ref (a 0)), (1, .int v1), (2, .int v2), (3, .int v3)]) hx hb dX11_order_90 hl (by decide) rfl (fun ls hl => ?_)
    refine lv_aload_n hx hb dX11_order_92 rfl (lv_at hl 1 rfl) ?_
    obtain ⟨⟨⟩, st_14, h_15, heq⟩ := bnd_h heq
    refine g_vv (own := RX11) (As := []) (rest := []) hx hb hml hown hts (okX11_close l D a T h_15) (cwV 0 hts gX11_order_X11_close rfl rfl rfl hdX11_close ⟨Nat.le_of_ble_eq_true rfl, Nat.le_of_ble_eq_true rfl⟩) hK hA hP hD hS (ci := 11) (q0 := 0) rfl rfl rfl hl.1 rfl (Nat.le_of_ble_eq_true rfl) dX11_order_93 ⟨Nat.le_of_ble_eq_true rfl, Nat.le_of_ble_eq_true rfl⟩ (fun H locs hP hD hS => ?_)
    refine lv_iconst (v := (0 : Int32)) hx hb dX11_order_96 (by decide) ?_
    refine lv_istore (lv' := [(5, .int (0 : Int32)), (4, .int t0), (0, .ref (a 0)), (1, .int v1), (2, .int v2), (3, .int v3)]) hx hb dX11_order_97 hl (by decide) rfl (fun ls hl => ?_)
    refine lv_iconst (v := (0 : Int32)) hx hb dX11_order_99 (by decide) ?_
    refine lv_istore (lv' := [(6, .int (0 : Int32)), (5, .int (0 : Int32)), (4, .int t0), (0, .ref (a 0)), (1, .int v1), (2, .int v2), (3, .int v3)]) hx hb dX11_order_100 hl (by decide) rfl (fun ls hl => ?_)
    exact b102 k57 hk57 13 st_14 v1 v2 v3 t0 (0 : Int32) (0 : Int32) H locs ls hP hD hS (lv_sub hl [3, 4, 5, 6, 2, 1, 0] rfl) heq
  have b85 : ∀ (k57 : MS → Int32 → Int32 → Int32 → Option (Int32 × MS)) (hk57 : ∀ (st : MS) (v1 : Int32) (v2 : Int32) (v3 : Int32) (H : Heap) (locs : List Loc) (ls : Array Slot), va_P D vwCl (mW a T st) H → va_D A (mW a T st) → va_S A s.heap H locs → lv_has ls 7 [(0, .ref (a 0)), (1, .int v1), (2, .int v2), (3, .int v3)] → k57 st v1 v2 v3 = some (r, st') → W p l e rmX11_order s m args below meth c H locs 0 0 Q (F0 m 57 ls [])), ∀ (st : MS) (v1 : Int32) (v2 : Int32) (v3 : Int32) (H : Heap) (locs : List Loc) (ls : Array Slot), va_P D vwCl (mW a T st) H → va_D A (mW a T st) → va_S A s.heap H locs → lv_has ls 7 [(0, .ref (a 0)), (1, .int v1), (2, .int v2), (3, .int v3)] → X11_order_p85 k57 st v1 v2 v3 = some (r, st') → W p l e rmX11_order s m args below meth c H locs 0 0 Q (F0 m 85 ls []) := by
    intro k57 hk57 st v1 v2 v3 H locs ls hP hD hS hl heq
    unfold X11_order_p85 at heq
    refine lv_iconst (v := (1 : Int32)) hx hb dX11_order_85 (by decide) ?_
    refine lv_goto (tgt := 90) hx hb dX11_order_86 (by decide) ?_
    exact b90 k57 hk57 st v1 v2 v3 (1 : Int32) H locs ls hP hD hS (lv_sub hl [0, 1, 2, 3] rfl) heq
  have b246 : ∀ (k210 : MS → Int32 → Int32 → Int32 → Int32 → Int32 → Option (Int32 × MS)) (hk210 : ∀ (st : MS) (v1 : Int32) (v2 : Int32) (v3 : Int32) (v4 : Int32) (v5 : Int32) (H : Heap) (locs : List Loc) (ls : Array Slot), va_P D vwCl (mW a T st) H → va_D A (mW a T st) → va_S A s.heap H locs → lv_has ls 7 [(0, .ref (a 0)), (1, .int v1), (2, .int v2), (3, .int v3), (4, .int v4), (5, .int v5)] → k210 st v1 v2 v3 v4 v5 = some (r, st') → W p l e rmX11_order s m args below meth c H locs 0 0 Q (F0 m 210 ls [])) (k219 : MS → Int32 → Int32 → Int32 → Int32 → Int32 → Option (Int32 × MS)) (hk219 : ∀ (st : MS) (v1 : Int32) (v2 : Int32) (v3 : Int32) (v4 : Int32) (v5 : Int32) (H : Heap) (locs : List Loc) (ls : Array Slot), va_P D vwCl (mW a T st) H → va_D A (mW a T st) → va_S A s.heap H locs → lv_has ls 7 [(0, .ref (a 0)), (1, .int v1), (2, .int v2), (3, .int v3), (4, .int v4), (5, .int v5)] → k219 st v1 v2 v3 v4 v5 = some (r, st') → W p l e rmX11_order s m args below meth c H locs 0 0 Q (F0 m 219 ls [])), ∀ (st : MS) (v1 : Int32) (v2 : Int32) (v3 : Int32) (v4 : Int32) (v5 : Int32) (H : Heap) (locs : List Loc) (ls : Array Slot), va_P D vwCl (mW a T st) H → va_D A (mW a T st) → va_S A s.heap H locs → lv_has ls 7 [(0, .ref (a 0)), (1, .int v1), (2, .int v2), (3, .int v3), (4, .int v4), (5, .int v5)] → X11_order_p246 k210 k219 st v1 v2 v3 v4 v5 = some (r, st') → W p l e rmX11_order s m args below meth c H locs 0 0 Q (F0 m 246 ls []) := by
    intro k210 hk210 k219 hk219 st v1 v2 v3 v4 v5 H locs ls hP hD hS hl heq
    unfold X11_order_p246 at heq
    obtain ⟨x_16, ex_16⟩ : ∃ y : Int32, y = v4 + (1 : Int32) := ⟨_, rfl⟩
    have heq := nm_h ex_16 heq
    refine lv_iinc (v := x_16) (lv' := [(4, .int x_16), (0, .ref (a 0)), (1, .int v1), (2, .int v2), (3, .int v3), (5, .int v5)]) hx hb dX11_order_246 hl (k := 4) rfl (by rw [ex_16]; rfl) (by decide) rfl (fun ls hl => ?_)
    refine lv_goto (tgt := 219) hx hb dX11_order_249 (by decide) ?_
    exact hk219 st v1 v2 v3 x_16 v5 H locs ls hP hD hS (lv_sub hl [1, 2, 3, 4, 0, 5] rfl) heq
  have b252 : ∀ (k210 : MS → Int32 → Int32 → Int32 → Int32 → Int32 → Option (Int32 × MS)) (hk210 : ∀ (st : MS) (v1 : Int32) (v2 : Int32) (v3 : Int32) (v4 : Int32) (v5 : Int32) (H : Heap) (locs : List Loc) (ls : Array Slot), va_P D vwCl (mW a T st) H → va_D A (mW a T st) → va_S A s.heap H locs → lv_has ls 7 [(0, .ref (a 0)), (1, .int v1), (2, .int v2), (3, .int v3), (4, .int v4), (5, .int v5)] → k210 st v1 v2 v3 v4 v5 = some (r, st') → W p l e rmX11_order s m args below meth c H locs 0 0 Q (F0 m 210 ls [])), ∀ (st : MS) (v1 : Int32) (v2 : Int32) (v3 : Int32) (v4 : Int32) (v5 : Int32) (H : Heap) (locs : List Loc) (ls : Array Slot), va_P D vwCl (mW a T st) H → va_D A (mW a T st) → va_S A s.heap H locs → lv_has ls 7 [(0, .ref (a 0)), (1, .int v1), (2, .int v2), (3, .int v3), (4, .int v4), (5, .int v5)] → X11_order_p252 k210 st v1 v2 v3 v4 v5 = some (r, st') → W p l e rmX11_order s m args below meth c H locs 0 0 Q (F0 m 252 ls []) := by
    intro k210 hk210 st v1 v2 v3 v4 v5 H locs ls hP hD hS hl heq
    unfold X11_order_p252 at heq
    refine lv_iload_n hx hb dX11_order_252 rfl (lv_at hl 3 rfl) ?_
    refine lv_iconst (v := (1 : Int32)) hx hb dX11_order_253 (by decide) ?_
    refine lv_iload hx hb dX11_order_254 (lv_at hl 4 rfl) ?_
    refine lv_ishl hx hb dX11_order_256 ?_
    refine lv_ior hx hb dX11_order_257 ?_
    refine lv_topi (fun x_17 ex_17 => ?_)
    have heq := nm_h ex_17 heq
    refine lv_istore_n (lv' := [(3, .int x_17), (0, .ref (a 0)), (1, .int v1), (2, .int v2), (4, .int v4), (5, .int v5)]) hx hb dX11_order_258 rfl hl (by decide) rfl (fun ls hl => ?_)
    obtain ⟨x_18, ex_18⟩ : ∃ y : Int32, y = v5 + (1 : Int32) := ⟨_, rfl⟩
    have heq := nm_h ex_18 heq
    refine lv_iinc (v := x_18) (lv' := [(5, .int x_18), (3, .int x_17), (0, .ref (a 0)), (1, .int v1), (2, .int v2), (4, .int v4)]) hx hb dX11_order_259 hl (k := 5) rfl (by rw [ex_18]; rfl) (by decide) rfl (fun ls hl => ?_)
    refine lv_goto (tgt := 210) hx hb dX11_order_262 (by decide) ?_
    exact hk210 st v1 v2 x_17 v4 x_18 H locs ls hP hD hS (lv_sub hl [2, 3, 4, 1, 5, 0] rfl) heq
  have b219 : ∀ (k210 : MS → Int32 → Int32 → Int32 → Int32 → Int32 → Option (Int32 × MS)) (hk210 : ∀ (st : MS) (v1 : Int32) (v2 : Int32) (v3 : Int32) (v4 : Int32) (v5 : Int32) (H : Heap) (locs : List Loc) (ls : Array Slot), va_P D vwCl (mW a T st) H → va_D A (mW a T st) → va_S A s.heap H locs → lv_has ls 7 [(0, .ref (a 0)), (1, .int v1), (2, .int v2), (3, .int v3), (4, .int v4), (5, .int v5)] → k210 st v1 v2 v3 v4 v5 = some (r, st') → W p l e rmX11_order s m args below meth c H locs 0 0 Q (F0 m 210 ls [])), ∀ (n : Nat), ∀ (st : MS) (v1 : Int32) (v2 : Int32) (v3 : Int32) (v4 : Int32) (v5 : Int32) (H : Heap) (locs : List Loc) (ls : Array Slot), va_P D vwCl (mW a T st) H → va_D A (mW a T st) → va_S A s.heap H locs → lv_has ls 7 [(0, .ref (a 0)), (1, .int v1), (2, .int v2), (3, .int v3), (4, .int v4), (5, .int v5)] → X11_order_p219 k210 n st v1 v2 v3 v4 v5 = some (r, st') → W p l e rmX11_order s m args below meth c H locs 0 0 Q (F0 m 219 ls []) := by
    intro k210 hk210 n
    induction n with
    | zero => intro st v1 v2 v3 v4 v5 H locs ls hP hD hS hl heq; cases heq
    | succ n ih =>
      intro st v1 v2 v3 v4 v5 H locs ls hP hD hS hl heq
      rw [X11_order_p219_s] at heq
      refine lv_iload_n hx hb dX11_order_219 rfl (lv_at hl 1 rfl) ?_
      refine lv_iload_n hx hb dX11_order_220 rfl (lv_at hl 3 rfl) ?_
      refine lv_iconst (v := (-1 : Int32)) hx hb dX11_order_221 (by decide) ?_
      refine lv_ixor hx hb dX11_order_222 ?_
      refine lv_iand hx hb dX11_order_223 ?_
      refine lv_iload hx hb dX11_order_224 (lv_at hl 4 rfl) ?_
      obtain ⟨y_19, h_20, heq⟩ := bd1_h heq
      refine g_si (own := RX11) (D := D) (As := [.int (v1 &&& (v3 ^^^ (-1 : Int32))), .int v4]) (rest := []) hx hb hml hown hts (okX11_hasBit l D h_20) (cwS 2 hts gX11_order_X11_hasBit rfl rfl rfl hdX11_hasBit ⟨Nat.le_of_ble_eq_true rfl, Nat.le_of_ble_eq_true rfl⟩) hK hA hP hS rfl hl.1 rfl (Nat.le_of_ble_eq_true rfl) dX11_order_226 ⟨Nat.le_of_ble_eq_true rfl, Nat.le_of_ble_eq_true rfl⟩ (fun H locs hP hS => ?_)
      refine lv_if_eq (tgt := 246) hx hb dX11_order_229 (by decide) (fun c_21 => ?_) (fun c_21 => ?_)
      · have heq := it_t c_21 heq
        exact b246 k210 hk210 (fun st v1 v2 v3 v4 v5 => X11_order_p219 k210 n st v1 v2 v3 v4 v5) ih st v1 v2 v3 v4 v5 H locs ls hP hD hS (lv_sub hl [0, 1, 2, 3, 4, 5] rfl) heq
      have heq := it_f c_21 heq
      refine lv_aload_n hx hb dX11_order_232 rfl (lv_at hl 0 rfl) ?_
      refine mg (k := 32) (v := .ref (a 20)) hx hb hts hin hown hK hP (by decide) f68 rfl dX11_order_233 rfl ?_
      refine lv_iload_n hx hb dX11_order_236 rfl (lv_at hl 3 rfl) ?_
      refine lv_iconst (v := (1 : Int32)) hx hb dX11_order_237 (by decide) ?_
      refine lv_iload hx hb dX11_order_238 (lv_at hl 4 rfl) ?_
      refine lv_ishl hx hb dX11_order_240 ?_
      refine lv_ior hx hb dX11_order_241 ?_
      obtain ⟨n_22, heq⟩ := inr_h heq
      refine mzl (k := 32) (q := 20) (n := 4096) hx hb hK hP rfl n_22 dX11_order_242 ?_
      refine lv_if_ne (tgt := 252) hx hb dX11_order_243 (by decide) (fun c_23 => ?_) (fun c_23 => ?_)
      · have heq := it_f c_23 heq
        exact b252 k210 hk210 st v1 v2 v3 v4 v5 H locs ls hP hD hS (lv_sub hl [0, 1, 2, 3, 4, 5] rfl) heq
      have heq := it_t c_23 heq
      exact b246 k210 hk210 (fun st v1 v2 v3 v4 v5 => X11_order_p219 k210 n st v1 v2 v3 v4 v5) ih st v1 v2 v3 v4 v5 H locs ls hP hD hS (lv_sub hl [0, 1, 2, 3, 4, 5] rfl) heq
  have b265 : ∀ (st : MS) (v4 : Int32) (H : Heap) (locs : List Loc) (ls : Array Slot), va_P D vwCl (mW a T st) H → va_D A (mW a T st) → va_S A s.heap H locs → lv_has ls 7 [(4, .int v4)] → X11_order_p265  st v4 = some (r, st') → W p l e rmX11_order s m args below meth c H locs 0 0 Q (F0 m 265 ls []) := by
    intro st v4 H locs ls hP hD hS hl heq
    unfold X11_order_p265 at heq
    refine lv_iload hx hb dX11_order_265 (lv_at hl 0 rfl) ?_
    obtain ⟨heq, heq2⟩ := ret_h heq
    subst heq
    subst heq2
    exact hret 267 H locs ls hP hD hS rfl dX11_order_267
  have b210 : ∀ (n : Nat), ∀ (st : MS) (v1 : Int32) (v2 : Int32) (v3 : Int32) (v4 : Int32) (v5 : Int32) (H : Heap) (locs : List Loc) (ls : Array Slot), va_P D vwCl (mW a T st) H → va_D A (mW a T st) → va_S A s.heap H locs → lv_has ls 7 [(0, .ref (a 0)), (1, .int v1), (2, .int v2), (3, .int v3), (4, .int v4), (5, .int v5)] → X11_order_p210  n st v1 v2 v3 v4 v5 = some (r, st') → W p l e rmX11_order s m args below meth c H locs 0 0 Q (F0 m 210 ls []) := by
    intro n
    induction n with
    | zero => intro st v1 v2 v3 v4 v5 H locs ls hP hD hS hl heq; cases heq
    | succ n ih =>
      intro st v1 v2 v3 v4 v5 H locs ls hP hD hS hl heq
      rw [X11_order_p210_s] at heq
      refine lv_iload hx hb dX11_order_210 (lv_at hl 5 rfl) ?_
      refine lv_iload_n hx hb dX11_order_212 rfl (lv_at hl 2 rfl) ?_
      refine lv_icmp_gt (tgt := 265) hx hb dX11_order_213 (by decide) (fun c_24 => ?_) (fun c_24 => ?_)
      · have heq := it_t c_24 heq
        exact b265 st v4 H locs ls hP hD hS (lv_sub hl [4] rfl) heq
      have heq := it_f c_24 heq
      refine lv_iconst (v := (0 : Int32)) hx hb dX11_order_216 (by decide) ?_
      refine lv_istore (lv' := [(4, .int (0 : Int32)), (0, .ref (a 0)), (1, .int v1), (2, .int v2), (3, .int v3), (5, .int v5)]) hx hb dX11_order_217 hl (by decide) rfl (fun ls hl => ?_)
      exact b219 (fun st v1 v2 v3 v4 v5 => X11_order_p210  n st v1 v2 v3 v4 v5) ih 5000 st v1 v2 v3 (0 : Int32) v5 H locs ls hP hD hS (lv_sub hl [1, 2, 3, 4, 0, 5] rfl) heq
  have b181 : ∀ (st : MS) (v1 : Int32) (v2 : Int32) (H : Heap) (locs : List Loc) (ls : Array Slot), va_P D vwCl (mW a T st) H → va_D A (mW a T st) → va_S A s.heap H locs → lv_has ls 7 [(0, .ref (a 0)), (1, .int v1), (2, .int v2)] → X11_order_p181  st v1 v2 = some (r, st') → W p l e rmX11_order s m args below meth c H locs 0 0 Q (F0 m 181 ls []) := by
    intro st v1 v2 H locs ls hP hD hS hl heq
    unfold X11_order_p181 at heq
    refine lv_aload_n hx hb dX11_order_181 rfl (lv_at hl 0 rfl) ?_
    refine mg (k := 32) (v := .ref (a 20)) hx hb hts hin hown hK hP (by decide) f68 rfl dX11_order_182 rfl ?_
    refine lv_iconst (v := (0 : Int32)) hx hb dX11_order_185 (by decide) ?_
    obtain ⟨n_25, heq⟩ := inr_h heq
    refine mzl (k := 32) (q := 20) (n := 4096) hx hb hK hP rfl n_25 dX11_order_186 ?_
    refine lv_if_eq (tgt := 198) hx hb dX11_order_187 (by decide) (fun c_26 => ?_) (fun c_26 => ?_)
    · have heq := it_t c_26 heq
      refine lv_bipush (v := (-4 : Int32)) hx hb dX11_order_198 (by decide) ?_
      obtain ⟨heq, heq2⟩ := ret_h heq
      subst heq
      subst heq2
      exact hret 200 H locs ls hP hD hS rfl dX11_order_200
    have heq := it_f c_26 heq
    refine lv_iload_n hx hb dX11_order_190 rfl (lv_at hl 2 rfl) ?_
    refine lv_iload_n hx hb dX11_order_191 rfl (lv_at hl 1 rfl) ?_
    obtain ⟨y_27, h_28, heq⟩ := bd1_h heq
    refine g_si (own := RX11) (D := D) (As := [.int v1]) (rest := [.int v2]) hx hb hml hown hts (okX11_onesOf l D h_28) (cwS 1 hts gX11_order_X11_onesOf rfl rfl rfl hdX11_onesOf ⟨Nat.le_of_ble_eq_true rfl, Nat.le_of_ble_eq_true rfl⟩) hK hA hP hS rfl hl.1 rfl (Nat.le_of_ble_eq_true rfl) dX11_order_192 ⟨Nat.le_of_ble_eq_true rfl, Nat.le_of_ble_eq_true rfl⟩ (fun H locs hP hS => ?_)
    refine lv_icmp_lt (tgt := 201) hx hb dX11_order_195 (by decide) (fun c_29 => ?_) (fun c_29 => ?_)
    · have heq := it_t c_29 heq
      refine lv_iconst (v := (0 : Int32)) hx hb dX11_order_201 (by decide) ?_
      refine lv_istore_n (lv' := [(3, .int (0 : Int32)), (0, .ref (a 0)), (1, .int v1), (2, .int v2)]) hx hb dX11_order_202 rfl hl (by decide) rfl (fun ls hl => ?_)
      refine lv_bipush (v := (-4 : Int32)) hx hb dX11_order_203 (by decide) ?_
      refine lv_istore (lv' := [(4, .int (-4 : Int32)), (3, .int (0 : Int32)), (0, .ref (a 0)), (1, .int v1), (2, .int v2)]) hx hb dX11_order_205 hl (by decide) rfl (fun ls hl => ?_)
      refine lv_iconst (v := (0 : Int32)) hx hb dX11_order_207 (by decide) ?_
      refine lv_istore (lv' := [(5, .int (0 : Int32)), (4, .int (-4 : Int32)), (3, .int (0 : Int32)), (0, .ref (a 0)), (1, .int v1), (2, .int v2)]) hx hb dX11_order_208 hl (by decide) rfl (fun ls hl => ?_)
      exact b210 5000 st v1 v2 (0 : Int32) (-4 : Int32) (0 : Int32) H locs ls hP hD hS (lv_sub hl [3, 4, 5, 2, 1, 0] rfl) heq
    have heq := it_f c_29 heq
    refine lv_bipush (v := (-4 : Int32)) hx hb dX11_order_198 (by decide) ?_
    obtain ⟨heq, heq2⟩ := ret_h heq
    subst heq
    subst heq2
    exact hret 200 H locs ls hP hD hS rfl dX11_order_200
  have b57 : ∀ (n : Nat), ∀ (st : MS) (v1 : Int32) (v2 : Int32) (v3 : Int32) (H : Heap) (locs : List Loc) (ls : Array Slot), va_P D vwCl (mW a T st) H → va_D A (mW a T st) → va_S A s.heap H locs → lv_has ls 7 [(0, .ref (a 0)), (1, .int v1), (2, .int v2), (3, .int v3)] → X11_order_p57  n st v1 v2 v3 = some (r, st') → W p l e rmX11_order s m args below meth c H locs 0 0 Q (F0 m 57 ls []) := by
    intro n
    induction n with
    | zero => intro st v1 v2 v3 H locs ls hP hD hS hl heq; cases heq
    | succ n ih =>
      intro st v1 v2 v3 H locs ls hP hD hS hl heq
      rw [X11_order_p57_s] at heq
      refine lv_iload_n hx hb dX11_order_57 rfl (lv_at hl 3 rfl) ?_
      refine lv_if_lt (tgt := 181) hx hb dX11_order_58 (by decide) (fun c_30 => ?_) (fun c_30 => ?_)
      · have heq := it_t c_30 heq
        exact b181 st v1 v2 H locs ls hP hD hS (lv_sub hl [0, 1, 2] rfl) heq
      have heq := it_f c_30 heq
      refine lv_iload_n hx hb dX11_order_61 rfl (lv_at hl 3 rfl) ?_
      refine lv_iload_n hx hb dX11_order_62 rfl (lv_at hl 1 rfl) ?_
      refine lv_iconst (v := (-1 : Int32)) hx hb dX11_order_63 (by decide) ?_
      refine lv_ixor hx hb dX11_order_64 ?_
      refine lv_iand hx hb dX11_order_65 ?_
      refine lv_if_ne (tgt := 175) hx hb dX11_order_66 (by decide) (fun c_31 => ?_) (fun c_31 => ?_)
      · have heq := it_f c_31 heq
        exact b175 (fun st v1 v2 v3 => X11_order_p57  n st v1 v2 v3) ih st v1 v2 v3 H locs ls hP hD hS (lv_sub hl [0, 1, 2, 3] rfl) heq
      have heq := it_t c_31 heq
      refine lv_aload_n hx hb dX11_order_69 rfl (lv_at hl 0 rfl) ?_
      refine lv_iload_n hx hb dX11_order_70 rfl (lv_at hl 3 rfl) ?_
      obtain ⟨⟨⟩, st_32, h_33, heq⟩ := bnd_h heq
      refine g_vv (own := RX11) (As := [.int v3]) (rest := []) hx hb hml hown hts (okX11_cutAll l D a T h_33) (cwV 1 hts gX11_order_X11_cutAll rfl rfl rfl hdX11_cutAll ⟨Nat.le_of_ble_eq_true rfl, Nat.le_of_ble_eq_true rfl⟩) hK hA hP hD hS (ci := 11) (q0 := 0) rfl rfl rfl hl.1 rfl (Nat.le_of_ble_eq_true rfl) dX11_order_71 ⟨Nat.le_of_ble_eq_true rfl, Nat.le_of_ble_eq_true rfl⟩ (fun H locs hP hD hS => ?_)
      refine lv_iload_n hx hb dX11_order_74 rfl (lv_at hl 3 rfl) ?_
      refine lv_if_eq (tgt := 85) hx hb dX11_order_75 (by decide) (fun c_34 => ?_) (fun c_34 => ?_)
      · have heq := it_t c_34 heq
        exact b85 (fun st v1 v2 v3 => X11_order_p57  n st v1 v2 v3) ih st_32 v1 v2 v3 H locs ls hP hD hS (lv_sub hl [0, 1, 2, 3] rfl) heq
      have heq := it_f c_34 heq
      refine lv_aload_n hx hb dX11_order_78 rfl (lv_at hl 0 rfl) ?_
      obtain ⟨y_36, st_35, h_37, heq⟩ := bnd_h heq
      refine g_vi (own := RX11) (As := []) (rest := []) hx hb hml hown hts (okX11_stands l D a T h_37) (cwV 0 hts gX11_order_X11_stands rfl rfl rfl hdX11_stands ⟨Nat.le_of_ble_eq_true rfl, Nat.le_of_ble_eq_true rfl⟩) hK hA hP hD hS (ci := 11) (q0 := 0) rfl rfl rfl hl.1 rfl (Nat.le_of_ble_eq_true rfl) dX11_order_79 ⟨Nat.le_of_ble_eq_true rfl, Nat.le_of_ble_eq_true rfl⟩ (fun H locs hP hD hS => ?_)
      refine lv_if_eq (tgt := 89) hx hb dX11_order_82 (by decide) (fun c_38 => ?_) (fun c_38 => ?_)
      · have heq := it_t c_38 heq
        refine lv_iconst (v := (0 : Int32)) hx hb dX11_order_89 (by decide) ?_
        exact b90 (fun st v1 v2 v3 => X11_order_p57  n st v1 v2 v3) ih st_35 v1 v2 v3 (0 : Int32) H locs ls hP hD hS (lv_sub hl [0, 1, 2, 3] rfl) heq
      have heq := it_f c_38 heq
      exact b85 (fun st v1 v2 v3 => X11_order_p57  n st v1 v2 v3) ih st_35 v1 v2 v3 H locs ls hP hD hS (lv_sub hl [0, 1, 2, 3] rfl) heq
  obtain ⟨H, hH⟩ : ∃ H, H = s.heap := ⟨_, rfl⟩
  obtain ⟨locs, hlocs⟩ : ∃ z : List Loc, z = [] := ⟨_, rfl⟩
  have hS : va_S A s.heap H locs := by rw [hH, hlocs]; exact hS
  have hP : va_P D vwCl (mW a T st) H := by rw [hH]; exact hP
  suffices h9 : W p l e rmX11_order s m args below meth c H locs 0 0 Q (F0 m 0 ls []) by rw [hH, hlocs] at h9; exact h9
  clear hH hlocs
  unfold X11_order at heq
  refine lv_aload_n hx hb dX11_order_0 rfl (lv_at hl 0 rfl) ?_
  refine lv_iconst (v := (0 : Int32)) hx hb dX11_order_1 (by decide) ?_
  refine mp (k := 17) hx hb hts hin hown hK hP hD hS (by decide) f75 dX11_order_2 rfl rfl rfl rfl (mset_17 ..) (fun H locs hP hD hS => ?_)
  obtain ⟨st_39, est_39⟩ : ∃ z, z = sF st 17 (0 : Int32) := ⟨_, rfl⟩
  rw [← est_39] at hP hD
  have heq := nm_h est_39 heq
  refine lv_iload_n hx hb dX11_order_5 rfl (lv_at hl 1 rfl) ?_
  refine lv_i2l hx hb dX11_order_6 rfl ?_
  refine lv_lconst (v := (1 : Int64)) hx hb dX11_order_7 (by decide) ?_
  refine lv_ldc2 (v := (4095 : Int64)) hx hb hown c250 dX11_order_8 ?_
  obtain ⟨y_40, h_41, heq⟩ := bd1_h heq
  refine g_si (own := RX11) (D := D) (As := [.long (v1.toInt64), .long (1 : Int64), .long (4095 : Int64)]) (rest := []) hx hb hml hown hts (okX11_in l D h_41) (cwS 3 hts gX11_order_X11_in rfl rfl rfl hdX11_in ⟨Nat.le_of_ble_eq_true rfl, Nat.le_of_ble_eq_true rfl⟩) hK hA hP hS rfl hl.1 rfl (Nat.le_of_ble_eq_true rfl) dX11_order_11 ⟨Nat.le_of_ble_eq_true rfl, Nat.le_of_ble_eq_true rfl⟩ (fun H locs hP hS => ?_)
  refine lv_if_eq (tgt := 30) hx hb dX11_order_14 (by decide) (fun c_42 => ?_) (fun c_42 => ?_)
  · have heq := it_t c_42 heq
    refine lv_iconst (v := (-1 : Int32)) hx hb dX11_order_30 (by decide) ?_
    obtain ⟨heq, heq2⟩ := ret_h heq
    subst heq
    subst heq2
    exact hret 31 H locs ls hP hD hS rfl dX11_order_31
  have heq := it_f c_42 heq
  refine lv_iload_n hx hb dX11_order_17 rfl (lv_at hl 1 rfl) ?_
  obtain ⟨y_43, h_44, heq⟩ := bd1_h heq
  refine g_si (own := RX11) (D := D) (As := [.int v1]) (rest := []) hx hb hml hown hts (okX11_onesOf l D h_44) (cwS 1 hts gX11_order_X11_onesOf rfl rfl rfl hdX11_onesOf ⟨Nat.le_of_ble_eq_true rfl, Nat.le_of_ble_eq_true rfl⟩) hK hA hP hS rfl hl.1 rfl (Nat.le_of_ble_eq_true rfl) dX11_order_18 ⟨Nat.le_of_ble_eq_true rfl, Nat.le_of_ble_eq_true rfl⟩ (fun H locs hP hS => ?_)
  refine lv_bipush (v := (8 : Int32)) hx hb dX11_order_21 (by decide) ?_
  refine lv_icmp_gt (tgt := 30) hx hb dX11_order_23 (by decide) (fun c_45 => ?_) (fun c_45 => ?_)
  · have heq := it_t c_45 heq
    refine lv_iconst (v := (-1 : Int32)) hx hb dX11_order_30 (by decide) ?_
    obtain ⟨heq, heq2⟩ := ret_h heq
    subst heq
    subst heq2
    exact hret 31 H locs ls hP hD hS rfl dX11_order_31
  have heq := it_f c_45 heq
  refine lv_iload_n hx hb dX11_order_26 rfl (lv_at hl 2 rfl) ?_
  refine lv_if_ge (tgt := 32) hx hb dX11_order_27 (by decide) (fun c_46 => ?_) (fun c_46 => ?_)
  · have heq := it_t c_46 heq
    refine lv_aload_n hx hb dX11_order_32 rfl (lv_at hl 0 rfl) ?_
    refine mg (k := 7) (v := .int (gF st_39 7)) hx hb hts hin hown hK hP (by decide) f122 rfl dX11_order_33 rfl ?_
    refine lv_if_eq (tgt := 42) hx hb dX11_order_36 (by decide) (fun c_47 => ?_) (fun c_47 => ?_)
    · have heq := it_t c_47 heq
      refine lv_aload_n hx hb dX11_order_42 rfl (lv_at hl 0 rfl) ?_
      refine mg (k := 32) (v := .ref (a 20)) hx hb hts hin hown hK hP (by decide) f68 rfl dX11_order_43 rfl ?_
      refine lv_iload_n hx hb dX11_order_46 rfl (lv_at hl 1 rfl) ?_
      refine lv_iconst (v := (1 : Int32)) hx hb dX11_order_47 (by decide) ?_
      obtain ⟨n_48, heq⟩ := inr_h heq
      refine mzs (k := 32) (q := 20) (n := 4096) hx hb hK hP hD hS rfl (maset_32 ..) n_48 dX11_order_48 (fun H locs hP hD hS => ?_)
      obtain ⟨st_49, est_49⟩ : ∃ z, z = sA st_39 32 v1.toNatClampNeg (vp_nar .boolean (1 : Int32)) := ⟨_, rfl⟩
      rw [← est_49] at hP hD
      have heq := nm_h est_49 heq
      refine lv_aload_n hx hb dX11_order_49 rfl (lv_at hl 0 rfl) ?_
      obtain ⟨⟨⟩, st_50, h_51, heq⟩ := bnd_h heq
      refine g_vv (own := RX11) (As := []) (rest := []) hx hb hml hown hts (okX11_open l D a T h_51) (cwV 0 hts gX11_order_X11_open rfl rfl rfl hdX11_open ⟨Nat.le_of_ble_eq_true rfl, Nat.le_of_ble_eq_true rfl⟩) hK hA hP hD hS (ci := 11) (q0 := 0) rfl rfl rfl hl.1 rfl (Nat.le_of_ble_eq_true rfl) dX11_order_50 ⟨Nat.le_of_ble_eq_true rfl, Nat.le_of_ble_eq_true rfl⟩ (fun H locs hP hD hS => ?_)
      refine lv_iload_n hx hb dX11_order_53 rfl (lv_at hl 1 rfl) ?_
      refine lv_iconst (v := (1 : Int32)) hx hb dX11_order_54 (by decide) ?_
      refine lv_isub hx hb dX11_order_55 ?_
      refine lv_topi (fun x_52 ex_52 => ?_)
      have heq := nm_h ex_52 heq
      refine lv_istore_n (lv' := [(3, .int x_52), (0, .ref (a 0)), (1, .int v1), (2, .int v2)]) hx hb dX11_order_56 rfl hl (by decide) rfl (fun ls hl => ?_)
      exact b57 5000 st_50 v1 v2 x_52 H locs ls hP hD hS (lv_sub hl [1, 2, 3, 0] rfl) heq
    have heq := it_f c_47 heq
    refine lv_bipush (v := (-3 : Int32)) hx hb dX11_order_39 (by decide) ?_
    obtain ⟨heq, heq2⟩ := ret_h heq
    subst heq
    subst heq2
    exact hret 41 H locs ls hP hD hS rfl dX11_order_41
  have heq := it_f c_46 heq
  refine lv_iconst (v := (-1 : Int32)) hx hb dX11_order_30 (by decide) ?_
  obtain ⟨heq, heq2⟩ := ret_h heq
  subst heq
  subst heq2
  exact hret 31 H locs ls hP hD hS rfl dX11_order_31
