set_option maxRecDepth 20000 in
theorem ggX8_greatestLack_X8_weakestSide : GoodIn wsX8_greatestLack wsX8_weakestSide := goodIn_r _ [6, 1, 7, 8, 9, 5, 10, 11, 12, 13, 14, 15, 16, 17, 18, 19, 20, 21, 22, 23, 24, 25, 26, 27, 28, 29, 30, 31, 32, 33, 34, 35, 36, 37, 38] (by decide +kernel) (by decide +kernel)
set_option maxRecDepth 20000 in
theorem gX8_greatestLack_X8_weakestSide : GoodIn wsX8_greatestLack (wsV RX8 97 RX8 yX8_weakestSide wsX8_weakestSide) := goodIn_app (goodIn_of _ (by decide +kernel)) ggX8_greatestLack_X8_weakestSide
set_option maxRecDepth 20000 in
theorem ggX8_greatestLack_X8_lackOn : GoodIn wsX8_greatestLack wsX8_lackOn := goodIn_r _ [10, 11, 12, 13, 5, 14, 15, 16, 17, 18, 19, 20, 21, 22, 23, 24, 25, 26, 27, 28, 29, 30, 31, 32, 33, 34, 35, 36, 37, 38] (by decide +kernel) (by decide +kernel)
set_option maxRecDepth 20000 in
theorem gX8_greatestLack_X8_lackOn : GoodIn wsX8_greatestLack (wsV RX8 94 RX8 yX8_lackOn wsX8_lackOn) := goodIn_app (goodIn_of _ (by decide +kernel)) ggX8_greatestLack_X8_lackOn
theorem dX8_greatestLack_0 : decode cX8_greatestLack 0 = .ok (.aload_n 0, 1) := by decide +kernel
theorem dX8_greatestLack_1 : decode cX8_greatestLack 1 = .ok (.aload_n 0, 1) := by decide +kernel
theorem dX8_greatestLack_2 : decode cX8_greatestLack 2 = .ok (.invokevirtual 97, 3) := by decide +kernel
theorem dX8_greatestLack_5 : decode cX8_greatestLack 5 = .ok (.aload_n 0, 1) := by decide +kernel
theorem dX8_greatestLack_6 : decode cX8_greatestLack 6 = .ok (.getfield 47, 3) := by decide +kernel
theorem dX8_greatestLack_9 : decode cX8_greatestLack 9 = .ok (.invokevirtual 94, 3) := by decide +kernel
theorem dX8_greatestLack_12 : decode cX8_greatestLack 12 = .ok (.ireturn, 1) := by decide +kernel
/-! X8 greatestLack -/
def X8_greatestLack (st : MS) : Option (Int32 × MS) :=
    bnd (X8_weakestSide st) fun y_2 st_1 =>
    bnd (X8_lackOn st_1 y_2 (gF st_1 8)) fun y_5 st_4 =>
    some (y_5, st_4)
abbrev rmX8_greatestLack : Room := { frames := 4, cells := 0, slots := 0, locals := 93 }
theorem hdX8_greatestLack : yX8_greatestLack.cls = RX8 ∧ yX8_greatestLack.cls ≠ "java/lang/invoke/MethodHandle" ∧ yX8_greatestLack.cls ≠ "java/lang/invoke/VarHandle" ∧ (parseMethodDescriptor yX8_greatestLack.desc).map (fun d => d.parameters.length) = some 0 := by decide +kernel
set_option maxRecDepth 100000 in
set_option maxHeartbeats 4000000 in
theorem okX8_greatestLack (z : Nat → Nat) (l : Launch) (D : va_G) (a : Nat → Nat) (T : mT3) (fo : Nat → Option Nat) {st : MS} {r : Int32} {st' : MS} (heq : X8_greatestLack st = some (r, st')) : hCi z l D (cT T) yX8_greatestLack wsX8_greatestLack rmX8_greatestLack [.ref (a 0)] (tW a T fo st) r (tW a T fo st') := by
  refine h_body_i (plainFor_of_name (by decide)) rfl (Nat.le_of_ble_eq_true rfl) (fun p e s m args below meth c A Q hx hb hml hown hts hK hA hX hret ls hP hD hS hl => ?_)
  have hl : lv_has ls 1 [(0, .ref (a 0))] := hl
  have hin : ∀ w ∈ wsX80, w ∈ wsX8_greatestLack := fun w h => List.mem_cons_of_mem _ (List.mem_append_right _ h)
  have f47 : (Cond.fieldLink RX8 47 RX8 (TX8 8).2.1 (TX8 8).2.2.1).before args s = true := hts (.fieldLink RX8 47 RX8 "minute" "I") (by decide +kernel)
  obtain ⟨H, hH⟩ : ∃ H, H = s.heap := ⟨_, rfl⟩
  obtain ⟨locs, hlocs⟩ : ∃ z : List Loc, z = [] := ⟨_, rfl⟩
  have hS : va_S A s.heap H locs := by rw [hH, hlocs]; exact hS
  have hP : va_P D vwCl (tW a T fo st) H := by rw [hH]; exact hP
  suffices h9 : W p l e rmX8_greatestLack s m args below meth c H locs 0 0 Q (F0 m 0 ls []) by rw [hH, hlocs] at h9; exact h9
  clear hH hlocs
  unfold X8_greatestLack at heq
  refine lv_aload_n hx hb dX8_greatestLack_0 rfl (lv_at hl 0 rfl) ?_
  refine lv_aload_n hx hb dX8_greatestLack_1 rfl (lv_at hl 0 rfl) ?_
  obtain ⟨y_2, st_1, h_3, heq⟩ := bnd_h heq
  refine h_vi (own := RX8) (As := []) (rest := [.ref (a 0)]) (wr := []) hx hb hml hown hts (okX8_weakestSide z l D a T fo h_3) (cwV 0 hts gX8_greatestLack_X8_weakestSide rfl rfl rfl hdX8_weakestSide ⟨Nat.le_of_ble_eq_true rfl, Nat.le_of_ble_eq_true rfl⟩) hK hA hX hP hD hS (perm_nil _) (perm_nil2 _) (ci := 8) (q0 := 0) rfl rfl rfl hl.1 rfl (Nat.le_of_ble_eq_true rfl) dX8_greatestLack_2 ⟨Nat.le_of_ble_eq_true rfl, Nat.le_of_ble_eq_true rfl⟩ (fun H locs hP hD hS => ?_)
  refine lv_aload_n hx hb dX8_greatestLack_5 rfl (lv_at hl 0 rfl) ?_
  refine tg (k := 8) (v := .int (gF st_1 8)) hx hb hts hin hown hK hP (by decide) f47 rfl dX8_greatestLack_6 rfl ?_
  obtain ⟨y_5, st_4, h_6, heq⟩ := bnd_h heq
  refine h_vi (own := RX8) (As := [.int y_2, .int (gF st_1 8)]) (rest := []) (wr := []) hx hb hml hown hts (okX8_lackOn z l D a T fo h_6) (cwV 2 hts gX8_greatestLack_X8_lackOn rfl rfl rfl hdX8_lackOn ⟨Nat.le_of_ble_eq_true rfl, Nat.le_of_ble_eq_true rfl⟩) hK hA hX hP hD hS (perm_nil _) (perm_nil2 _) (ci := 8) (q0 := 0) rfl rfl rfl hl.1 rfl (Nat.le_of_ble_eq_true rfl) dX8_greatestLack_9 ⟨Nat.le_of_ble_eq_true rfl, Nat.le_of_ble_eq_true rfl⟩ (fun H locs hP hD hS => ?_)
  obtain ⟨heq, heq2⟩ := ret_h heq
  subst heq
  subst heq2
  exact hret 12 H locs ls hP hD hS rfl dX8_greatestLack_12
theorem dX8_countBurning_0 : decode cX8_countBurning 0 = .ok (.iconst 0, 1) := by decide +kernel
theorem dX8_countBurning_1 : decode cX8_countBurning 1 = .ok (.istore_n 1, 1) := by decide +kernel
theorem dX8_countBurning_2 : decode cX8_countBurning 2 = .ok (.iconst 0, 1) := by decide +kernel
theorem dX8_countBurning_3 : decode cX8_countBurning 3 = .ok (.istore_n 2, 1) := by decide +kernel
theorem dX8_countBurning_4 : decode cX8_countBurning 4 = .ok (.iload_n 2, 1) := by decide +kernel
theorem dX8_countBurning_5 : decode cX8_countBurning 5 = .ok (.bipush 12, 2) := by decide +kernel
theorem dX8_countBurning_7 : decode cX8_countBurning 7 = .ok (.if_icmp .ge 28, 3) := by decide +kernel
theorem dX8_countBurning_10 : decode cX8_countBurning 10 = .ok (.iload_n 1, 1) := by decide +kernel
theorem dX8_countBurning_11 : decode cX8_countBurning 11 = .ok (.aload_n 0, 1) := by decide +kernel
theorem dX8_countBurning_12 : decode cX8_countBurning 12 = .ok (.getfield 21, 3) := by decide +kernel
theorem dX8_countBurning_15 : decode cX8_countBurning 15 = .ok (.iload_n 2, 1) := by decide +kernel
theorem dX8_countBurning_16 : decode cX8_countBurning 16 = .ok (.iaload, 1) := by decide +kernel
theorem dX8_countBurning_17 : decode cX8_countBurning 17 = .ok (.bipush (-4), 2) := by decide +kernel
theorem dX8_countBurning_19 : decode cX8_countBurning 19 = .ok (.if_icmp .eq 7, 3) := by decide +kernel
theorem dX8_countBurning_22 : decode cX8_countBurning 22 = .ok (.iconst 1, 1) := by decide +kernel
theorem dX8_countBurning_23 : decode cX8_countBurning 23 = .ok (.goto 4, 3) := by decide +kernel
theorem dX8_countBurning_26 : decode cX8_countBurning 26 = .ok (.iconst 0, 1) := by decide +kernel
theorem dX8_countBurning_27 : decode cX8_countBurning 27 = .ok (.iadd, 1) := by decide +kernel
theorem dX8_countBurning_28 : decode cX8_countBurning 28 = .ok (.istore_n 1, 1) := by decide +kernel
theorem dX8_countBurning_29 : decode cX8_countBurning 29 = .ok (.iinc 2 1, 3) := by decide +kernel
theorem dX8_countBurning_32 : decode cX8_countBurning 32 = .ok (.goto (-28), 3) := by decide +kernel
theorem dX8_countBurning_35 : decode cX8_countBurning 35 = .ok (.iload_n 1, 1) := by decide +kernel
theorem dX8_countBurning_36 : decode cX8_countBurning 36 = .ok (.ireturn, 1) := by decide +kernel
/-! X8 countBurning -/
def X8_countBurning_p27 (k4 : MS → Int32 → Int32 → Option (Int32 × MS)) (st : MS) (v2 : Int32) (t0 : Int32) (t1 : Int32) : Option (Int32 × MS) :=
    nm ((t0 + t1)) fun x_1 =>
    nm (v2 + (1 : Int32)) fun x_2 =>
    k4 st x_1 x_2
def X8_countBurning_p35 (st : MS) (v1 : Int32) : Option (Int32 × MS) :=
    some (v1, st)
def X8_countBurning_p4 : Nat → MS → Int32 → Int32 → Option (Int32 × MS)
  | 0, _, _, _ => none
  | n + 1, st, v1, v2 =>
    if (12 : Int32) ≤ v2 then
      (X8_countBurning_p35 st v1)
    else
    inr v2 12 <|
    if (gA st 2 v2.toNatClampNeg) = (-4 : Int32) then
      (X8_countBurning_p27 (fun st v1 v2 => X8_countBurning_p4  n st v1 v2) st v2 v1 (0 : Int32))
    else
    X8_countBurning_p27 (fun st v1 v2 => X8_countBurning_p4  n st v1 v2) st v2 v1 (1 : Int32)
theorem X8_countBurning_p4_s (n : Nat) (st : MS) (v1 : Int32) (v2 : Int32) : X8_countBurning_p4  (n + 1) st v1 v2 =
    (if (12 : Int32) ≤ v2 then
      (X8_countBurning_p35 st v1)
    else
    inr v2 12 <|
    if (gA st 2 v2.toNatClampNeg) = (-4 : Int32) then
      (X8_countBurning_p27 (fun st v1 v2 => X8_countBurning_p4  n st v1 v2) st v2 v1 (0 : Int32))
    else
    X8_countBurning_p27 (fun st v1 v2 => X8_countBurning_p4  n st v1 v2) st v2 v1 (1 : Int32)) := rfl
def X8_countBurning (st : MS) : Option (Int32 × MS) :=
    X8_countBurning_p4 13 st (0 : Int32) (0 : Int32)
abbrev rmX8_countBurning : Room := { frames := 0, cells := 0, slots := 0, locals := 0 }
theorem hdX8_countBurning : yX8_countBurning.cls = RX8 ∧ yX8_countBurning.cls ≠ "java/lang/invoke/MethodHandle" ∧ yX8_countBurning.cls ≠ "java/lang/invoke/VarHandle" ∧ (parseMethodDescriptor yX8_countBurning.desc).map (fun d => d.parameters.length) = some 0 := by decide +kernel
set_option maxRecDepth 100000 in
set_option maxHeartbeats 4000000 in
theorem okX8_countBurning (z : Nat → Nat) (l : Launch) (D : va_G) (a : Nat → Nat) (T : mT3) (fo : Nat → Option Nat) {st : MS} {r : Int32} {st' : MS} (heq : X8_countBurning st = some (r, st')) : hCi z l D (cT T) yX8_countBurning wsX8_countBurning rmX8_countBurning [.ref (a 0)] (tW a T fo st) r (tW a T fo st') := by
  refine h_body_i (plainFor_of_name (by decide)) rfl (Nat.le_of_ble_eq_true rfl) (fun p e s m args below meth c A Q hx hb hml hown hts hK hA hX hret ls hP hD hS hl => ?_)
  have hl : lv_has ls 3 [(0, .ref (a 0))] := hl
  have hin : ∀ w ∈ wsX80, w ∈ wsX8_countBurning := fun w h => List.mem_cons_of_mem _ (List.mem_append_right _ h)
  have f21 : (Cond.fieldLink RX8 21 RX8 (TX8 2).2.1 (TX8 2).2.2.1).before args s = true := hts (.fieldLink RX8 21 RX8 "burns" "[I") (by decide +kernel)
  have b27 : ∀ (k4 : MS → Int32 → Int32 → Option (Int32 × MS)) (hk4 : ∀ (st : MS) (v1 : Int32) (v2 : Int32) (H : Heap) (locs : List Loc) (ls : Array Slot), va_P D vwCl (tW a T fo st) H → va_D A (tW a T fo st) → va_S A s.heap H locs → lv_has ls 3 [(0, .ref (a 0)), (1, .int v1), (2, .int v2)] → k4 st v1 v2 = some (r, st') → W p l e rmX8_countBurning s m args below meth c H locs 0 0 Q (F0 m 4 ls [])), ∀ (st : MS) (v2 : Int32) (t0 : Int32) (t1 : Int32) (H : Heap) (locs : List Loc) (ls : Array Slot), va_P D vwCl (tW a T fo st) H → va_D A (tW a T fo st) → va_S A s.heap H locs → lv_has ls 3 [(0, .ref (a 0)), (2, .int v2)] → X8_countBurning_p27 k4 st v2 t0 t1 = some (r, st') → W p l e rmX8_countBurning s m args below meth c H locs 0 0 Q (F0 m 27 ls [.int t1, .int t0]) := by
    intro k4 hk4 st v2 t0 t1 H locs ls hP hD hS hl heq
    unfold X8_countBurning_p27 at heq
    refine lv_iadd hx hb dX8_countBurning_27 ?_
    refine lv_topi (fun x_1 ex_1 => ?_)
    have heq := nm_h ex_1 heq
    refine lv_istore_n (lv' := [(1, .int x_1), (0, .ref (a 0)), (2, .int v2)]) hx hb dX8_countBurning_28 rfl hl (by decide) rfl (fun ls hl => ?_)
    obtain ⟨x_2, ex_2⟩ : ∃ y : Int32, y = v2 + (1 : Int32) := ⟨_, rfl⟩
    have heq := nm_h ex_2 heq
    refine lv_iinc (v := x_2) (lv' := [(2, .int x_2), (1, .int x_1), (0, .ref (a 0))]) hx hb dX8_countBurning_29 hl (k := 2) rfl (by rw [ex_2]; rfl) (by decide) rfl (fun ls hl => ?_)
    refine lv_goto (tgt := 4) hx hb dX8_countBurning_32 (by decide) ?_
    exact hk4 st x_1 x_2 H locs ls hP hD hS (lv_sub hl [2, 1, 0] rfl) heq
  have b35 : ∀ (st : MS) (v1 : Int32) (H : Heap) (locs : List Loc) (ls : Array Slot), va_P D vwCl (tW a T fo st) H → va_D A (tW a T fo st) → va_S A s.heap H locs → lv_has ls 3 [(1, .int v1)] → X8_countBurning_p35  st v1 = some (r, st') → W p l e rmX8_countBurning s m args below meth c H locs 0 0 Q (F0 m 35 ls []) := by
    intro st v1 H locs ls hP hD hS hl heq
    unfold X8_countBurning_p35 at heq
    refine lv_iload_n hx hb dX8_countBurning_35 rfl (lv_at hl 0 rfl) ?_
    obtain ⟨heq, heq2⟩ := ret_h heq
    subst heq
    subst heq2
    exact hret 36 H locs ls hP hD hS rfl dX8_countBurning_36
  have b4 : ∀ (n : Nat), ∀ (st : MS) (v1 : Int32) (v2 : Int32) (H : Heap) (locs : List Loc) (ls : Array Slot), va_P D vwCl (tW a T fo st) H → va_D A (tW a T fo st) → va_S A s.heap H locs → lv_has ls 3 [(0, .ref (a 0)), (1, .int v1), (2, .int v2)] → X8_countBurning_p4  n st v1 v2 = some (r, st') → W p l e rmX8_countBurning s m args below meth c H locs 0 0 Q (F0 m 4 ls []) := by
    intro n
    induction n with
    | zero => intro st v1 v2 H locs ls hP hD hS hl heq; cases heq
    | succ n ih =>
      intro st v1 v2 H locs ls hP hD hS hl heq
      rw [X8_countBurning_p4_s] at heq
      refine lv_iload_n hx hb dX8_countBurning_4 rfl (lv_at hl 2 rfl) ?_
      refine lv_bipush (v := (12 : Int32)) hx hb dX8_countBurning_5 (by decide) ?_
      refine lv_icmp_ge (tgt := 35) hx hb dX8_countBurning_7 (by decide) (fun c_3 => ?_) (fun c_3 => ?_)
      · have heq := it_t c_3 heq
        exact b35 st v1 H locs ls hP hD hS (lv_sub hl [1] rfl) heq
      have heq := it_f c_3 heq
      refine lv_iload_n hx hb dX8_countBurning_10 rfl (lv_at hl 1 rfl) ?_
      refine lv_aload_n hx hb dX8_countBurning_11 rfl (lv_at hl 0 rfl) ?_
      refine tg (k := 2) (v := .ref (a 3)) hx hb hts hin hown hK hP (by decide) f21 rfl dX8_countBurning_12 rfl ?_
      refine lv_iload_n hx hb dX8_countBurning_15 rfl (lv_at hl 2 rfl) ?_
      obtain ⟨n_4, heq⟩ := inr_h heq
      refine tal (k := 2) (q := 3) (n := 12) hx hb hK hP rfl n_4 dX8_countBurning_16 ?_
      refine lv_bipush (v := (-4 : Int32)) hx hb dX8_countBurning_17 (by decide) ?_
      refine lv_icmp_eq (tgt := 26) hx hb dX8_countBurning_19 (by decide) (fun c_5 => ?_) (fun c_5 => ?_)
      · have heq := it_t c_5 heq
        refine lv_iconst (v := (0 : Int32)) hx hb dX8_countBurning_26 (by decide) ?_
        exact b27 (fun st v1 v2 => X8_countBurning_p4  n st v1 v2) ih st v2 v1 (0 : Int32) H locs ls hP hD hS (lv_sub hl [0, 2] rfl) heq
      have heq := it_f c_5 heq
      refine lv_iconst (v := (1 : Int32)) hx hb dX8_countBurning_22 (by decide) ?_
      refine lv_goto (tgt := 27) hx hb dX8_countBurning_23 (by decide) ?_
      exact b27 (fun st v1 v2 => X8_countBurning_p4  n st v1 v2) ih st v2 v1 (1 : Int32) H locs ls hP hD hS (lv_sub hl [0, 2] rfl) heq
  obtain ⟨H, hH⟩ : ∃ H, H = s.heap := ⟨_, rfl⟩
  obtain ⟨locs, hlocs⟩ : ∃ z : List Loc, z = [] := ⟨_, rfl⟩
  have hS : va_S A s.heap H locs := by rw [hH, hlocs]; exact hS
  have hP : va_P D vwCl (tW a T fo st) H := by rw [hH]; exact hP
  suffices h9 : W p l e rmX8_countBurning s m args below meth c H locs 0 0 Q (F0 m 0 ls []) by rw [hH, hlocs] at h9; exact h9
  clear hH hlocs
  unfold X8_countBurning at heq
  refine lv_iconst (v := (0 : Int32)) hx hb dX8_countBurning_0 (by decide) ?_
  refine lv_istore_n (lv' := [(1, .int (0 : Int32)), (0, .ref (a 0))]) hx hb dX8_countBurning_1 rfl hl (by decide) rfl (fun ls hl => ?_)
  refine lv_iconst (v := (0 : Int32)) hx hb dX8_countBurning_2 (by decide) ?_
  refine lv_istore_n (lv' := [(2, .int (0 : Int32)), (1, .int (0 : Int32)), (0, .ref (a 0))]) hx hb dX8_countBurning_3 rfl hl (by decide) rfl (fun ls hl => ?_)
  exact b4 13 st (0 : Int32) (0 : Int32) H locs ls hP hD hS (lv_sub hl [2, 1, 0] rfl) heq
set_option maxRecDepth 20000 in
theorem ggX8_countBearing_X8_bearsAt : GoodIn wsX8_countBearing wsX8_bearsAt := goodIn_r _ [5, 6, 7, 8, 9, 10, 11, 12, 13, 14, 15, 16, 17] (by decide +kernel) (by decide +kernel)
set_option maxRecDepth 20000 in
theorem gX8_countBearing_X8_bearsAt : GoodIn wsX8_countBearing (wsV RX8 85 RX8 yX8_bearsAt wsX8_bearsAt) := goodIn_app (goodIn_of _ (by decide +kernel)) ggX8_countBearing_X8_bearsAt
theorem dX8_countBearing_0 : decode cX8_countBearing 0 = .ok (.iconst 0, 1) := by decide +kernel
theorem dX8_countBearing_1 : decode cX8_countBearing 1 = .ok (.istore_n 2, 1) := by decide +kernel
theorem dX8_countBearing_2 : decode cX8_countBearing 2 = .ok (.iconst 0, 1) := by decide +kernel
theorem dX8_countBearing_3 : decode cX8_countBearing 3 = .ok (.istore_n 3, 1) := by decide +kernel
theorem dX8_countBearing_4 : decode cX8_countBearing 4 = .ok (.iload_n 3, 1) := by decide +kernel
theorem dX8_countBearing_5 : decode cX8_countBearing 5 = .ok (.bipush 12, 2) := by decide +kernel
theorem dX8_countBearing_7 : decode cX8_countBearing 7 = .ok (.if_icmp .ge 26, 3) := by decide +kernel
theorem dX8_countBearing_10 : decode cX8_countBearing 10 = .ok (.iload_n 2, 1) := by decide +kernel
theorem dX8_countBearing_11 : decode cX8_countBearing 11 = .ok (.aload_n 0, 1) := by decide +kernel
theorem dX8_countBearing_12 : decode cX8_countBearing 12 = .ok (.iload_n 3, 1) := by decide +kernel
theorem dX8_countBearing_13 : decode cX8_countBearing 13 = .ok (.iload_n 1, 1) := by decide +kernel
theorem dX8_countBearing_14 : decode cX8_countBearing 14 = .ok (.invokevirtual 85, 3) := by decide +kernel
theorem dX8_countBearing_17 : decode cX8_countBearing 17 = .ok (.ifCond .le 7, 3) := by decide +kernel
theorem dX8_countBearing_20 : decode cX8_countBearing 20 = .ok (.iconst 1, 1) := by decide +kernel
theorem dX8_countBearing_21 : decode cX8_countBearing 21 = .ok (.goto 4, 3) := by decide +kernel
theorem dX8_countBearing_24 : decode cX8_countBearing 24 = .ok (.iconst 0, 1) := by decide +kernel
theorem dX8_countBearing_25 : decode cX8_countBearing 25 = .ok (.iadd, 1) := by decide +kernel
theorem dX8_countBearing_26 : decode cX8_countBearing 26 = .ok (.istore_n 2, 1) := by decide +kernel
theorem dX8_countBearing_27 : decode cX8_countBearing 27 = .ok (.iinc 3 1, 3) := by decide +kernel
theorem dX8_countBearing_30 : decode cX8_countBearing 30 = .ok (.goto (-26), 3) := by decide +kernel
theorem dX8_countBearing_33 : decode cX8_countBearing 33 = .ok (.iload_n 2, 1) := by decide +kernel
theorem dX8_countBearing_34 : decode cX8_countBearing 34 = .ok (.ireturn, 1) := by decide +kernel
/-! X8 countBearing -/
def X8_countBearing_p25 (k4 : MS → Int32 → Int32 → Int32 → Option (Int32 × MS)) (st : MS) (v1 : Int32) (v3 : Int32) (t0 : Int32) (t1 : Int32) : Option (Int32 × MS) :=
    nm ((t0 + t1)) fun x_1 =>
    nm (v3 + (1 : Int32)) fun x_2 =>
    k4 st v1 x_1 x_2
def X8_countBearing_p33 (st : MS) (v2 : Int32) : Option (Int32 × MS) :=
    some (v2, st)
def X8_countBearing_p4 : Nat → MS → Int32 → Int32 → Int32 → Option (Int32 × MS)
  | 0, _, _, _, _ => none
  | n + 1, st, v1, v2, v3 =>
    if (12 : Int32) ≤ v3 then
      (X8_countBearing_p33 st v2)
    else
    bnd (X8_bearsAt st v3 v1) fun y_5 st_4 =>
    if y_5 ≤ 0 then
      (X8_countBearing_p25 (fun st v1 v2 v3 => X8_countBearing_p4  n st v1 v2 v3) st_4 v1 v3 v2 (0 : Int32))
    else
    X8_countBearing_p25 (fun st v1 v2 v3 => X8_countBearing_p4  n st v1 v2 v3) st_4 v1 v3 v2 (1 : Int32)
theorem X8_countBearing_p4_s (n : Nat) (st : MS) (v1 : Int32) (v2 : Int32) (v3 : Int32) : X8_countBearing_p4  (n + 1) st v1 v2 v3 =
    (if (12 : Int32) ≤ v3 then
      (X8_countBearing_p33 st v2)
    else
    bnd (X8_bearsAt st v3 v1) fun y_5 st_4 =>
    if y_5 ≤ 0 then
      (X8_countBearing_p25 (fun st v1 v2 v3 => X8_countBearing_p4  n st v1 v2 v3) st_4 v1 v3 v2 (0 : Int32))
    else
    X8_countBearing_p25 (fun st v1 v2 v3 => X8_countBearing_p4  n st v1 v2 v3) st_4 v1 v3 v2 (1 : Int32)) := rfl
def X8_countBearing (st : MS) (v1 : Int32) : Option (Int32 × MS) :=
    X8_countBearing_p4 13 st v1 (0 : Int32) (0 : Int32)
abbrev rmX8_countBearing : Room := { frames := 1, cells := 0, slots := 0, locals := 22 }
theorem hdX8_countBearing : yX8_countBearing.cls = RX8 ∧ yX8_countBearing.cls ≠ "java/lang/invoke/MethodHandle" ∧ yX8_countBearing.cls ≠ "java/lang/invoke/VarHandle" ∧ (parseMethodDescriptor yX8_countBearing.desc).map (fun d => d.parameters.length) = some 1 := by decide +kernel
set_option maxRecDepth 100000 in
set_option maxHeartbeats 4000000 in
theorem okX8_countBearing (z : Nat → Nat) (l : Launch) (D : va_G) (a : Nat → Nat) (T : mT3) (fo : Nat → Option Nat) {st : MS} {v1 : Int32} {r : Int32} {st' : MS} (heq : X8_countBearing st v1 = some (r, st')) : hCi z l D (cT T) yX8_countBearing wsX8_countBearing rmX8_countBearing [.ref (a 0), .int v1] (tW a T fo st) r (tW a T fo st') := by
  refine h_body_i (plainFor_of_name (by decide)) rfl (Nat.le_of_ble_eq_true rfl) (fun p e s m args below meth c A Q hx hb hml hown hts hK hA hX hret ls hP hD hS hl => ?_)
  have hl : lv_has ls 4 [(0, .ref (a 0)), (1, .int v1)] := hl
  have b25 : ∀ (k4 : MS → Int32 → Int32 → Int32 → Option (Int32 × MS)) (hk4 : ∀ (st : MS) (v1 : Int32) (v2 : Int32) (v3 : Int32) (H : Heap) (locs : List Loc) (ls : Array Slot), va_P D vwCl (tW a T fo st) H → va_D A (tW a T fo st) → va_S A s.heap H locs → lv_has ls 4 [(0, .ref (a 0)), (1, .int v1), (2, .int v2), (3, .int v3)] → k4 st v1 v2 v3 = some (r, st') → W p l e rmX8_countBearing s m args below meth c H locs 0 0 Q (F0 m 4 ls [])), ∀ (st : MS) (v1 : Int32) (v3 : Int32) (t0 : Int32) (t1 : Int32) (H : Heap) (locs : List Loc) (ls : Array Slot), va_P D vwCl (tW a T fo st) H → va_D A (tW a T fo st) → va_S A s.heap H locs → lv_has ls 4 [(0, .ref (a 0)), (1, .int v1), (3, .int v3)] → X8_countBearing_p25 k4 st v1 v3 t0 t1 = some (r, st') → W p l e rmX8_countBearing s m args below meth c H locs 0 0 Q (F0 m 25 ls [.int t1, .int t0]) := by
    intro k4 hk4 st v1 v3 t0 t1 H locs ls hP hD hS hl heq
    unfold X8_countBearing_p25 at heq
    refine lv_iadd hx hb dX8_countBearing_25 ?_
    refine lv_topi (fun x_1 ex_1 => ?_)
    have heq := nm_h ex_1 heq
    refine lv_istore_n (lv' := [(2, .int x_1), (0, .ref (a 0)), (1, .int v1), (3, .int v3)]) hx hb dX8_countBearing_26 rfl hl (by decide) rfl (fun ls hl => ?_)
    obtain ⟨x_2, ex_2⟩ : ∃ y : Int32, y = v3 + (1 : Int32) := ⟨_, rfl⟩
    have heq := nm_h ex_2 heq
    refine lv_iinc (v := x_2) (lv' := [(3, .int x_2), (2, .int x_1), (0, .ref (a 0)), (1, .int v1)]) hx hb dX8_countBearing_27 hl (k := 3) rfl (by rw [ex_2]; rfl) (by decide) rfl (fun ls hl => ?_)
    refine lv_goto (tgt := 4) hx hb dX8_countBearing_30 (by decide) ?_
    exact hk4 st v1 x_1 x_2 H locs ls hP hD hS (lv_sub hl [2, 3, 1, 0] rfl) heq
  have b33 : ∀ (st : MS) (v2 : Int32) (H : Heap) (locs : List Loc) (ls : Array Slot), va_P D vwCl (tW a T fo st) H → va_D A (tW a T fo st) → va_S A s.heap H locs → lv_has ls 4 [(2, .int v2)] → X8_countBearing_p33  st v2 = some (r, st') → W p l e rmX8_countBearing s m args below meth c H locs 0 0 Q (F0 m 33 ls []) := by
    intro st v2 H locs ls hP hD hS hl heq
    unfold X8_countBearing_p33 at heq
    refine lv_iload_n hx hb dX8_countBearing_33 rfl (lv_at hl 0 rfl) ?_
    obtain ⟨heq, heq2⟩ := ret_h heq
    subst heq
    subst heq2
    exact hret 34 H locs ls hP hD hS rfl dX8_countBearing_34
  have b4 : ∀ (n : Nat), ∀ (st : MS) (v1 : Int32) (v2 : Int32) (v3 : Int32) (H : Heap) (locs : List Loc) (ls : Array Slot), va_P D vwCl (tW a T fo st) H → va_D A (tW a T fo st) → va_S A s.heap H locs → lv_has ls 4 [(0, .ref (a 0)), (1, .int v1), (2, .int v2), (3, .int v3)] → X8_countBearing_p4  n st v1 v2 v3 = some (r, st') → W p l e rmX8_countBearing s m args below meth c H locs 0 0 Q (F0 m 4 ls []) := by
    intro n
    induction n with
    | zero => intro st v1 v2 v3 H locs ls hP hD hS hl heq; cases heq
    | succ n ih =>
      intro st v1 v2 v3 H locs ls hP hD hS hl heq
      rw [X8_countBearing_p4_s] at heq
      refine lv_iload_n hx hb dX8_countBearing_4 rfl (lv_at hl 3 rfl) ?_
      refine lv_bipush (v := (12 : Int32)) hx hb dX8_countBearing_5 (by decide) ?_
      refine lv_icmp_ge (tgt := 33) hx hb dX8_countBearing_7 (by decide) (fun c_3 => ?_) (fun c_3 => ?_)
      · have heq := it_t c_3 heq
        exact b33 st v2 H locs ls hP hD hS (lv_sub hl [2] rfl) heq
      have heq := it_f c_3 heq
      refine lv_iload_n hx hb dX8_countBearing_10 rfl (lv_at hl 2 rfl) ?_
      refine lv_aload_n hx hb dX8_countBearing_11 rfl (lv_at hl 0 rfl) ?_
      refine lv_iload_n hx hb dX8_countBearing_12 rfl (lv_at hl 3 rfl) ?_
      refine lv_iload_n hx hb dX8_countBearing_13 rfl (lv_at hl 1 rfl) ?_
      obtain ⟨y_5, st_4, h_6, heq⟩ := bnd_h heq
      refine h_vi (own := RX8) (As := [.int v3, .int v1]) (rest := [.int v2]) (wr := []) hx hb hml hown hts (okX8_bearsAt z l D a T fo h_6) (cwV 2 hts gX8_countBearing_X8_bearsAt rfl rfl rfl hdX8_bearsAt ⟨Nat.le_of_ble_eq_true rfl, Nat.le_of_ble_eq_true rfl⟩) hK hA hX hP hD hS (perm_nil _) (perm_nil2 _) (ci := 8) (q0 := 0) rfl rfl rfl hl.1 rfl (Nat.le_of_ble_eq_true rfl) dX8_countBearing_14 ⟨Nat.le_of_ble_eq_true rfl, Nat.le_of_ble_eq_true rfl⟩ (fun H locs hP hD hS => ?_)
      refine lv_if_le (tgt := 24) hx hb dX8_countBearing_17 (by decide) (fun c_7 => ?_) (fun c_7 => ?_)
      · have heq := it_t c_7 heq
        refine lv_iconst (v := (0 : Int32)) hx hb dX8_countBearing_24 (by decide) ?_
        exact b25 (fun st v1 v2 v3 => X8_countBearing_p4  n st v1 v2 v3) ih st_4 v1 v3 v2 (0 : Int32) H locs ls hP hD hS (lv_sub hl [0, 1, 3] rfl) heq
      have heq := it_f c_7 heq
      refine lv_iconst (v := (1 : Int32)) hx hb dX8_countBearing_20 (by decide) ?_
      refine lv_goto (tgt := 25) hx hb dX8_countBearing_21 (by decide) ?_
      exact b25 (fun st v1 v2 v3 => X8_countBearing_p4  n st v1 v2 v3) ih st_4 v1 v3 v2 (1 : Int32) H locs ls hP hD hS (lv_sub hl [0, 1, 3] rfl) heq
  obtain ⟨H, hH⟩ : ∃ H, H = s.heap := ⟨_, rfl⟩
  obtain ⟨locs, hlocs⟩ : ∃ z : List Loc, z = [] := ⟨_, rfl⟩
  have hS : va_S A s.heap H locs := by rw [hH, hlocs]; exact hS
  have hP : va_P D vwCl (tW a T fo st) H := by rw [hH]; exact hP
  suffices h9 : W p l e rmX8_countBearing s m args below meth c H locs 0 0 Q (F0 m 0 ls []) by rw [hH, hlocs] at h9; exact h9
  clear hH hlocs
  unfold X8_countBearing at heq
  refine lv_iconst (v := (0 : Int32)) hx hb dX8_countBearing_0 (by decide) ?_
  refine lv_istore_n (lv' := [(2, .int (0 : Int32)), (0, .ref (a 0)), (1, .int v1)]) hx hb dX8_countBearing_1 rfl hl (by decide) rfl (fun ls hl => ?_)
  refine lv_iconst (v := (0 : Int32)) hx hb dX8_countBearing_2 (by decide) ?_
  refine lv_istore_n (lv' := [(3, .int (0 : Int32)), (2, .int (0 : Int32)), (0, .ref (a 0)), (1, .int v1)]) hx hb dX8_countBearing_3 rfl hl (by decide) rfl (fun ls hl => ?_)
  exact b4 13 st v1 (0 : Int32) (0 : Int32) H locs ls hP hD hS (lv_sub hl [2, 3, 1, 0] rfl) heq
set_option maxRecDepth 20000 in
theorem ggX8_allBears_X8_bearsAt : GoodIn wsX8_allBears wsX8_bearsAt := goodIn_r _ [6, 7, 8, 9, 10, 11, 12, 13, 14, 15, 16, 17, 18] (by decide +kernel) (by decide +kernel)
set_option maxRecDepth 20000 in
theorem gX8_allBears_X8_bearsAt : GoodIn wsX8_allBears (wsV RX8 85 RX8 yX8_bearsAt wsX8_bearsAt) := goodIn_app (goodIn_of _ (by decide +kernel)) ggX8_allBears_X8_bearsAt
theorem dX8_allBears_0 : decode cX8_allBears 0 = .ok (.iconst 0, 1) := by decide +kernel
theorem dX8_allBears_1 : decode cX8_allBears 1 = .ok (.istore_n 1, 1) := by decide +kernel
theorem dX8_allBears_2 : decode cX8_allBears 2 = .ok (.iconst 0, 1) := by decide +kernel
theorem dX8_allBears_3 : decode cX8_allBears 3 = .ok (.istore_n 2, 1) := by decide +kernel
theorem dX8_allBears_4 : decode cX8_allBears 4 = .ok (.iload_n 2, 1) := by decide +kernel
theorem dX8_allBears_5 : decode cX8_allBears 5 = .ok (.bipush 12, 2) := by decide +kernel
theorem dX8_allBears_7 : decode cX8_allBears 7 = .ok (.if_icmp .ge 21, 3) := by decide +kernel
theorem dX8_allBears_10 : decode cX8_allBears 10 = .ok (.iload_n 1, 1) := by decide +kernel
theorem dX8_allBears_11 : decode cX8_allBears 11 = .ok (.aload_n 0, 1) := by decide +kernel
theorem dX8_allBears_12 : decode cX8_allBears 12 = .ok (.iload_n 2, 1) := by decide +kernel
theorem dX8_allBears_13 : decode cX8_allBears 13 = .ok (.aload_n 0, 1) := by decide +kernel
theorem dX8_allBears_14 : decode cX8_allBears 14 = .ok (.getfield 47, 3) := by decide +kernel
theorem dX8_allBears_17 : decode cX8_allBears 17 = .ok (.invokevirtual 85, 3) := by decide +kernel
theorem dX8_allBears_20 : decode cX8_allBears 20 = .ok (.iadd, 1) := by decide +kernel
theorem dX8_allBears_21 : decode cX8_allBears 21 = .ok (.istore_n 1, 1) := by decide +kernel
theorem dX8_allBears_22 : decode cX8_allBears 22 = .ok (.iinc 2 1, 3) := by decide +kernel
theorem dX8_allBears_25 : decode cX8_allBears 25 = .ok (.goto (-21), 3) := by decide +kernel
theorem dX8_allBears_28 : decode cX8_allBears 28 = .ok (.iload_n 1, 1) := by decide +kernel
theorem dX8_allBears_29 : decode cX8_allBears 29 = .ok (.ireturn, 1) := by decide +kernel
/-! X8 allBears -/
def X8_allBears_p28 (st : MS) (v1 : Int32) : Option (Int32 × MS) :=
    some (v1, st)
def X8_allBears_p4 : Nat → MS → Int32 → Int32 → Option (Int32 × MS)
  | 0, _, _, _ => none
  | n + 1, st, v1, v2 =>
    if (12 : Int32) ≤ v2 then
      (X8_allBears_p28 st v1)
    else
    bnd (X8_bearsAt st v2 (gF st 8)) fun y_3 st_2 =>
    nm ((v1 + y_3)) fun x_5 =>
    nm (v2 + (1 : Int32)) fun x_6 =>
    X8_allBears_p4  n st_2 x_5 x_6
theorem X8_allBears_p4_s (n : Nat) (st : MS) (v1 : Int32) (v2 : Int32) : X8_allBears_p4  (n + 1) st v1 v2 =
    (if (12 : Int32) ≤ v2 then
      (X8_allBears_p28 st v1)
    else
    bnd (X8_bearsAt st v2 (gF st 8)) fun y_3 st_2 =>
    nm ((v1 + y_3)) fun x_5 =>
    nm (v2 + (1 : Int32)) fun x_6 =>
    X8_allBears_p4  n st_2 x_5 x_6) := rfl
def X8_allBears (st : MS) : Option (Int32 × MS) :=
    X8_allBears_p4 13 st (0 : Int32) (0 : Int32)
abbrev rmX8_allBears : Room := { frames := 1, cells := 0, slots := 0, locals := 22 }
theorem hdX8_allBears : yX8_allBears.cls = RX8 ∧ yX8_allBears.cls ≠ "java/lang/invoke/MethodHandle" ∧ yX8_allBears.cls ≠ "java/lang/invoke/VarHandle" ∧ (parseMethodDescriptor yX8_allBears.desc).map (fun d => d.parameters.length) = some 0 := by decide +kernel
set_option maxRecDepth 100000 in
set_option maxHeartbeats 4000000 in
theorem okX8_allBears (z : Nat → Nat) (l : Launch) (D : va_G) (a : Nat → Nat) (T : mT3) (fo : Nat → Option Nat) {st : MS} {r : Int32} {st' : MS} (heq : X8_allBears st = some (r, st')) : hCi z l D (cT T) yX8_allBears wsX8_allBears rmX8_allBears [.ref (a 0)] (tW a T fo st) r (tW a T fo st') := by
  refine h_body_i (plainFor_of_name (by decide)) rfl (Nat.le_of_ble_eq_true rfl) (fun p e s m args below meth c A Q hx hb hml hown hts hK hA hX hret ls hP hD hS hl => ?_)
  have hl : lv_has ls 3 [(0, .ref (a 0))] := hl
  have hin : ∀ w ∈ wsX80, w ∈ wsX8_allBears := fun w h => List.mem_cons_of_mem _ (List.mem_append_right _ h)
  have f47 : (Cond.fieldLink RX8 47 RX8 (TX8 8).2.1 (TX8 8).2.2.1).before args s = true := hts (.fieldLink RX8 47 RX8 "minute" "I") (by decide +kernel)
  have b28 : ∀ (st : MS) (v1 : Int32) (H : Heap) (locs : List Loc) (ls : Array Slot), va_P D vwCl (tW a T fo st) H → va_D A (tW a T fo st) → va_S A s.heap H locs → lv_has ls 3 [(1, .int v1)] → X8_allBears_p28  st v1 = some (r, st') → W p l e rmX8_allBears s m args below meth c H locs 0 0 Q (F0 m 28 ls []) := by
    intro st v1 H locs ls hP hD hS hl heq
    unfold X8_allBears_p28 at heq
    refine lv_iload_n hx hb dX8_allBears_28 rfl (lv_at hl 0 rfl) ?_
    obtain ⟨heq, heq2⟩ := ret_h heq
    subst heq
    subst heq2
    exact hret 29 H locs ls hP hD hS rfl dX8_allBears_29
  have b4 : ∀ (n : Nat), ∀ (st : MS) (v1 : Int32) (v2 : Int32) (H : Heap) (locs : List Loc) (ls : Array Slot), va_P D vwCl (tW a T fo st) H → va_D A (tW a T fo st) → va_S A s.heap H locs → lv_has ls 3 [(0, .ref (a 0)), (1, .int v1), (2, .int v2)] → X8_allBears_p4  n st v1 v2 = some (r, st') → W p l e rmX8_allBears s m args below meth c H locs 0 0 Q (F0 m 4 ls []) := by
    intro n
    induction n with
    | zero => intro st v1 v2 H locs ls hP hD hS hl heq; cases heq
    | succ n ih =>
      intro st v1 v2 H locs ls hP hD hS hl heq
      rw [X8_allBears_p4_s] at heq
      refine lv_iload_n hx hb dX8_allBears_4 rfl (lv_at hl 2 rfl) ?_
      refine lv_bipush (v := (12 : Int32)) hx hb dX8_allBears_5 (by decide) ?_
      refine lv_icmp_ge (tgt := 28) hx hb dX8_allBears_7 (by decide) (fun c_1 => ?_) (fun c_1 => ?_)
      · have heq := it_t c_1 heq
        exact b28 st v1 H locs ls hP hD hS (lv_sub hl [1] rfl) heq
      have heq := it_f c_1 heq
      refine lv_iload_n hx hb dX8_allBears_10 rfl (lv_at hl 1 rfl) ?_
      refine lv_aload_n hx hb dX8_allBears_11 rfl (lv_at hl 0 rfl) ?_
      refine lv_iload_n hx hb dX8_allBears_12 rfl (lv_at hl 2 rfl) ?_
      refine lv_aload_n hx hb dX8_allBears_13 rfl (lv_at hl 0 rfl) ?_
      refine tg (k := 8) (v := .int (gF st 8)) hx hb hts hin hown hK hP (by decide) f47 rfl dX8_allBears_14 rfl ?_
      obtain ⟨y_3, st_2, h_4, heq⟩ := bnd_h heq
      refine h_vi (own := RX8) (As := [.int v2, .int (gF st 8)]) (rest := [.int v1]) (wr := []) hx hb hml hown hts (okX8_bearsAt z l D a T fo h_4) (cwV 2 hts gX8_allBears_X8_bearsAt rfl rfl rfl hdX8_bearsAt ⟨Nat.le_of_ble_eq_true rfl, Nat.le_of_ble_eq_true rfl⟩) hK hA hX hP hD hS (perm_nil _) (perm_nil2 _) (ci := 8) (q0 := 0) rfl rfl rfl hl.1 rfl (Nat.le_of_ble_eq_true rfl) dX8_allBears_17 ⟨Nat.le_of_ble_eq_true rfl, Nat.le_of_ble_eq_true rfl⟩ (fun H locs hP hD hS => ?_)
      refine lv_iadd hx hb dX8_allBears_20 ?_
      refine lv_topi (fun x_5 ex_5 => ?_)
      have heq := nm_h ex_5 heq
      refine lv_istore_n (lv' := [(1, .int x_5), (0, .ref (a 0)), (2, .int v2)]) hx hb dX8_allBears_21 rfl hl (by decide) rfl (fun ls hl => ?_)
      obtain ⟨x_6, ex_6⟩ : ∃ y : Int32, y = v2 + (1 : Int32) := ⟨_, rfl⟩
      have heq := nm_h ex_6 heq
      refine lv_iinc (v := x_6) (lv' := [(2, .int x_6), (1, .int x_5), (0, .ref (a 0))]) hx hb dX8_allBears_22 hl (k := 2) rfl (by rw [ex_6]; rfl) (by decide) rfl (fun ls hl => ?_)
      refine lv_goto (tgt := 4) hx hb dX8_allBears_25 (by decide) ?_
      exact ih st_2 x_5 x_6 H locs ls hP hD hS (lv_sub hl [2, 1, 0] rfl) heq
  obtain ⟨H, hH⟩ : ∃ H, H = s.heap := ⟨_, rfl⟩
  obtain ⟨locs, hlocs⟩ : ∃ z : List Loc, z = [] := ⟨_, rfl⟩
  have hS : va_S A s.heap H locs := by rw [hH, hlocs]; exact hS
  have hP : va_P D vwCl (tW a T fo st) H := by rw [hH]; exact hP
  suffices h9 : W p l e rmX8_allBears s m args below meth c H locs 0 0 Q (F0 m 0 ls []) by rw [hH, hlocs] at h9; exact h9
  clear hH hlocs
  unfold X8_allBears at heq
  refine lv_iconst (v := (0 : Int32)) hx hb dX8_allBears_0 (by decide) ?_
  refine lv_istore_n (lv' := [(1, .int (0 : Int32)), (0, .ref (a 0))]) hx hb dX8_allBears_1 rfl hl (by decide) rfl (fun ls hl => ?_)
  refine lv_iconst (v := (0 : Int32)) hx hb dX8_allBears_2 (by decide) ?_
  refine lv_istore_n (lv' := [(2, .int (0 : Int32)), (1, .int (0 : Int32)), (0, .ref (a 0))]) hx hb dX8_allBears_3 rfl hl (by decide) rfl (fun ls hl => ?_)
  exact b4 13 st (0 : Int32) (0 : Int32) H locs ls hP hD hS (lv_sub hl [2, 1, 0] rfl) heq
theorem dX8_burnsOutAt_0 : decode cX8_burnsOutAt 0 = .ok (.iconst 0, 1) := by decide +kernel
theorem dX8_burnsOutAt_1 : decode cX8_burnsOutAt 1 = .ok (.istore_n 2, 1) := by decide +kernel
theorem dX8_burnsOutAt_2 : decode cX8_burnsOutAt 2 = .ok (.iload_n 2, 1) := by decide +kernel
theorem dX8_burnsOutAt_3 : decode cX8_burnsOutAt 3 = .ok (.bipush 12, 2) := by decide +kernel
theorem dX8_burnsOutAt_5 : decode cX8_burnsOutAt 5 = .ok (.if_icmp .ge 21, 3) := by decide +kernel
theorem dX8_burnsOutAt_8 : decode cX8_burnsOutAt 8 = .ok (.aload_n 0, 1) := by decide +kernel
theorem dX8_burnsOutAt_9 : decode cX8_burnsOutAt 9 = .ok (.getfield 21, 3) := by decide +kernel
theorem dX8_burnsOutAt_12 : decode cX8_burnsOutAt 12 = .ok (.iload_n 2, 1) := by decide +kernel
theorem dX8_burnsOutAt_13 : decode cX8_burnsOutAt 13 = .ok (.iaload, 1) := by decide +kernel
theorem dX8_burnsOutAt_14 : decode cX8_burnsOutAt 14 = .ok (.iload_n 1, 1) := by decide +kernel
theorem dX8_burnsOutAt_15 : decode cX8_burnsOutAt 15 = .ok (.if_icmp .ne 5, 3) := by decide +kernel
theorem dX8_burnsOutAt_18 : decode cX8_burnsOutAt 18 = .ok (.iconst 1, 1) := by decide +kernel
theorem dX8_burnsOutAt_19 : decode cX8_burnsOutAt 19 = .ok (.ireturn, 1) := by decide +kernel
theorem dX8_burnsOutAt_20 : decode cX8_burnsOutAt 20 = .ok (.iinc 2 1, 3) := by decide +kernel
theorem dX8_burnsOutAt_23 : decode cX8_burnsOutAt 23 = .ok (.goto (-21), 3) := by decide +kernel
theorem dX8_burnsOutAt_26 : decode cX8_burnsOutAt 26 = .ok (.iconst 0, 1) := by decide +kernel
theorem dX8_burnsOutAt_27 : decode cX8_burnsOutAt 27 = .ok (.ireturn, 1) := by decide +kernel
/-! X8 burnsOutAt -/
def X8_burnsOutAt_p2 : Nat → MS → Int32 → Int32 → Option (Int32 × MS)
  | 0, _, _, _ => none
  | n + 1, st, v1, v2 =>
    if (12 : Int32) ≤ v2 then
      (gz (0 : Int32) <|
      some ((0 : Int32), st))
    else
    inr v2 12 <|
    if (gA st 2 v2.toNatClampNeg) = v1 then
      (gz (1 : Int32) <|
      some ((1 : Int32), st))
    else
    nm (v2 + (1 : Int32)) fun x_5 =>
    X8_burnsOutAt_p2  n st v1 x_5
theorem X8_burnsOutAt_p2_s (n : Nat) (st : MS) (v1 : Int32) (v2 : Int32) : X8_burnsOutAt_p2  (n + 1) st v1 v2 =
    (if (12 : Int32) ≤ v2 then
      (gz (0 : Int32) <|
      some ((0 : Int32), st))
    else
    inr v2 12 <|
    if (gA st 2 v2.toNatClampNeg) = v1 then
      (gz (1 : Int32) <|
      some ((1 : Int32), st))
    else
    nm (v2 + (1 : Int32)) fun x_5 =>
    X8_burnsOutAt_p2  n st v1 x_5) := rfl
def X8_burnsOutAt (st : MS) (v1 : Int32) : Option (Int32 × MS) :=
    X8_burnsOutAt_p2 13 st v1 (0 : Int32)
abbrev rmX8_burnsOutAt : Room := { frames := 0, cells := 0, slots := 0, locals := 0 }
theorem hdX8_burnsOutAt : yX8_burnsOutAt.cls = RX8 ∧ yX8_burnsOutAt.cls ≠ "java/lang/invoke/MethodHandle" ∧ yX8_burnsOutAt.cls ≠ "java/lang/invoke/VarHandle" ∧ (parseMethodDescriptor yX8_burnsOutAt.desc).map (fun d => d.parameters.length) = some 1 := by decide +kernel
set_option maxRecDepth 100000 in
set_option maxHeartbeats 4000000 in
theorem okX8_burnsOutAt (z : Nat → Nat) (l : Launch) (D : va_G) (a : Nat → Nat) (T : mT3) (fo : Nat → Option Nat) {st : MS} {v1 : Int32} {r : Int32} {st' : MS} (heq : X8_burnsOutAt st v1 = some (r, st')) : hCi z l D (cT T) yX8_burnsOutAt wsX8_burnsOutAt rmX8_burnsOutAt [.ref (a 0), .int v1] (tW a T fo st) r (tW a T fo st') := by
  refine h_body_i (plainFor_of_name (by decide)) rfl (Nat.le_of_ble_eq_true rfl) (fun p e s m args below meth c A Q hx hb hml hown hts hK hA hX hret ls hP hD hS hl => ?_)
  have hl : lv_has ls 3 [(0, .ref (a 0)), (1, .int v1)] := hl
  have hin : ∀ w ∈ wsX80, w ∈ wsX8_burnsOutAt := fun w h => List.mem_cons_of_mem _ (List.mem_append_right _ h)
  have f21 : (Cond.fieldLink RX8 21 RX8 (TX8 2).2.1 (TX8 2).2.2.1).before args s = true := hts (.fieldLink RX8 21 RX8 "burns" "[I") (by decide +kernel)
  have b2 : ∀ (n : Nat), ∀ (st : MS) (v1 : Int32) (v2 : Int32) (H : Heap) (locs : List Loc) (ls : Array Slot), va_P D vwCl (tW a T fo st) H → va_D A (tW a T fo st) → va_S A s.heap H locs → lv_has ls 3 [(0, .ref (a 0)), (1, .int v1), (2, .int v2)] → X8_burnsOutAt_p2  n st v1 v2 = some (r, st') → W p l e rmX8_burnsOutAt s m args below meth c H locs 0 0 Q (F0 m 2 ls []) := by
    intro n
    induction n with
    | zero => intro st v1 v2 H locs ls hP hD hS hl heq; cases heq
    | succ n ih =>
      intro st v1 v2 H locs ls hP hD hS hl heq
      rw [X8_burnsOutAt_p2_s] at heq
      refine lv_iload_n hx hb dX8_burnsOutAt_2 rfl (lv_at hl 2 rfl) ?_
      refine lv_bipush (v := (12 : Int32)) hx hb dX8_burnsOutAt_3 (by decide) ?_
      refine lv_icmp_ge (tgt := 26) hx hb dX8_burnsOutAt_5 (by decide) (fun c_1 => ?_) (fun c_1 => ?_)
      · have heq := it_t c_1 heq
        refine lv_iconst (v := (0 : Int32)) hx hb dX8_burnsOutAt_26 (by decide) ?_
        obtain ⟨n_2, _, heq⟩ := gz_h heq
        obtain ⟨heq, heq2⟩ := ret_h heq
        subst heq
        subst heq2
        exact hret 27 H locs ls hP hD hS n_2 dX8_burnsOutAt_27
      have heq := it_f c_1 heq
      refine lv_aload_n hx hb dX8_burnsOutAt_8 rfl (lv_at hl 0 rfl) ?_
      refine tg (k := 2) (v := .ref (a 3)) hx hb hts hin hown hK hP (by decide) f21 rfl dX8_burnsOutAt_9 rfl ?_
      refine lv_iload_n hx hb dX8_burnsOutAt_12 rfl (lv_at hl 2 rfl) ?_
      obtain ⟨n_3, heq⟩ := inr_h heq
      refine tal (k := 2) (q := 3) (n := 12) hx hb hK hP rfl n_3 dX8_burnsOutAt_13 ?_
      refine lv_iload_n hx hb dX8_burnsOutAt_14 rfl (lv_at hl 1 rfl) ?_
      refine lv_icmp_ne (tgt := 20) hx hb dX8_burnsOutAt_15 (by decide) (fun c_4 => ?_) (fun c_4 => ?_)
      · have heq := it_f c_4 heq
        obtain ⟨x_5, ex_5⟩ : ∃ y : Int32, y = v2 + (1 : Int32) := ⟨_, rfl⟩
        have heq := nm_h ex_5 heq
        refine lv_iinc (v := x_5) (lv' := [(2, .int x_5), (0, .ref (a 0)), (1, .int v1)]) hx hb dX8_burnsOutAt_20 hl (k := 2) rfl (by rw [ex_5]; rfl) (by decide) rfl (fun ls hl => ?_)
        refine lv_goto (tgt := 2) hx hb dX8_burnsOutAt_23 (by decide) ?_
        exact ih st v1 x_5 H locs ls hP hD hS (lv_sub hl [1, 2, 0] rfl) heq
      have heq := it_t c_4 heq
      refine lv_iconst (v := (1 : Int32)) hx hb dX8_burnsOutAt_18 (by decide) ?_
      obtain ⟨n_6, _, heq⟩ := gz_h heq
      obtain ⟨heq, heq2⟩ := ret_h heq
      subst heq
      subst heq2
      exact hret 19 H locs ls hP hD hS n_6 dX8_burnsOutAt_19
  obtain ⟨H, hH⟩ : ∃ H, H = s.heap := ⟨_, rfl⟩
  obtain ⟨locs, hlocs⟩ : ∃ z : List Loc, z = [] := ⟨_, rfl⟩
  have hS : va_S A s.heap H locs := by rw [hH, hlocs]; exact hS
  have hP : va_P D vwCl (tW a T fo st) H := by rw [hH]; exact hP
  suffices h9 : W p l e rmX8_burnsOutAt s m args below meth c H locs 0 0 Q (F0 m 0 ls []) by rw [hH, hlocs] at h9; exact h9
  clear hH hlocs
  unfold X8_burnsOutAt at heq
  refine lv_iconst (v := (0 : Int32)) hx hb dX8_burnsOutAt_0 (by decide) ?_
  refine lv_istore_n (lv' := [(2, .int (0 : Int32)), (0, .ref (a 0)), (1, .int v1)]) hx hb dX8_burnsOutAt_1 rfl hl (by decide) rfl (fun ls hl => ?_)
  exact b2 13 st v1 (0 : Int32) H locs ls hP hD hS (lv_sub hl [1, 2, 0] rfl) heq
set_option maxRecDepth 20000 in
theorem ggX8_fallAfter_X8_burnsOutAt : GoodIn wsX8_fallAfter wsX8_burnsOutAt := goodIn_r _ [6, 7, 33, 34, 35, 36, 37, 38, 39, 40, 41, 42] (by decide +kernel) (by decide +kernel)
set_option maxRecDepth 20000 in
theorem gX8_fallAfter_X8_burnsOutAt : GoodIn wsX8_fallAfter (wsV RX8 100 RX8 yX8_burnsOutAt wsX8_burnsOutAt) := goodIn_app (goodIn_of _ (by decide +kernel)) ggX8_fallAfter_X8_burnsOutAt
set_option maxRecDepth 20000 in
theorem ggX8_fallAfter_X8_fallSideAt : GoodIn wsX8_fallAfter wsX8_fallSideAt := goodIn_r _ [11, 12, 13, 14, 5, 15, 16, 17, 18, 19, 20, 21, 22, 23, 24, 25, 26, 27, 28, 29, 30, 31, 7, 32, 33, 34, 35, 36, 37, 38, 39, 40, 41, 42] (by decide +kernel) (by decide +kernel)
set_option maxRecDepth 20000 in
theorem gX8_fallAfter_X8_fallSideAt : GoodIn wsX8_fallAfter (wsV RX8 54 RX8 yX8_fallSideAt wsX8_fallSideAt) := goodIn_app (goodIn_of _ (by decide +kernel)) ggX8_fallAfter_X8_fallSideAt
theorem dX8_fallAfter_0 : decode cX8_fallAfter 0 = .ok (.iconst 0, 1) := by decide +kernel
theorem dX8_fallAfter_1 : decode cX8_fallAfter 1 = .ok (.istore_n 2, 1) := by decide +kernel
theorem dX8_fallAfter_2 : decode cX8_fallAfter 2 = .ok (.iload_n 2, 1) := by decide +kernel
theorem dX8_fallAfter_3 : decode cX8_fallAfter 3 = .ok (.iload_n 1, 1) := by decide +kernel
theorem dX8_fallAfter_4 : decode cX8_fallAfter 4 = .ok (.if_icmp .gt 53, 3) := by decide +kernel
theorem dX8_fallAfter_7 : decode cX8_fallAfter 7 = .ok (.iload_n 2, 1) := by decide +kernel
theorem dX8_fallAfter_8 : decode cX8_fallAfter 8 = .ok (.ifCond .eq 16, 3) := by decide +kernel
theorem dX8_fallAfter_11 : decode cX8_fallAfter 11 = .ok (.aload_n 0, 1) := by decide +kernel
theorem dX8_fallAfter_12 : decode cX8_fallAfter 12 = .ok (.aload_n 0, 1) := by decide +kernel
theorem dX8_fallAfter_13 : decode cX8_fallAfter 13 = .ok (.getfield 47, 3) := by decide +kernel
theorem dX8_fallAfter_16 : decode cX8_fallAfter 16 = .ok (.iload_n 2, 1) := by decide +kernel
theorem dX8_fallAfter_17 : decode cX8_fallAfter 17 = .ok (.iadd, 1) := by decide +kernel
theorem dX8_fallAfter_18 : decode cX8_fallAfter 18 = .ok (.invokevirtual 100, 3) := by decide +kernel
theorem dX8_fallAfter_21 : decode cX8_fallAfter 21 = .ok (.ifCond .eq 7, 3) := by decide +kernel
theorem dX8_fallAfter_24 : decode cX8_fallAfter 24 = .ok (.iconst 1, 1) := by decide +kernel
theorem dX8_fallAfter_25 : decode cX8_fallAfter 25 = .ok (.goto 4, 3) := by decide +kernel
theorem dX8_fallAfter_28 : decode cX8_fallAfter 28 = .ok (.iconst 0, 1) := by decide +kernel
theorem dX8_fallAfter_29 : decode cX8_fallAfter 29 = .ok (.istore_n 3, 1) := by decide +kernel
theorem dX8_fallAfter_30 : decode cX8_fallAfter 30 = .ok (.iload_n 3, 1) := by decide +kernel
theorem dX8_fallAfter_31 : decode cX8_fallAfter 31 = .ok (.ifCond .eq 20, 3) := by decide +kernel
theorem dX8_fallAfter_34 : decode cX8_fallAfter 34 = .ok (.aload_n 0, 1) := by decide +kernel
theorem dX8_fallAfter_35 : decode cX8_fallAfter 35 = .ok (.aload_n 0, 1) := by decide +kernel
theorem dX8_fallAfter_36 : decode cX8_fallAfter 36 = .ok (.getfield 47, 3) := by decide +kernel
theorem dX8_fallAfter_39 : decode cX8_fallAfter 39 = .ok (.iload_n 2, 1) := by decide +kernel
theorem dX8_fallAfter_40 : decode cX8_fallAfter 40 = .ok (.iadd, 1) := by decide +kernel
theorem dX8_fallAfter_41 : decode cX8_fallAfter 41 = .ok (.invokevirtual 54, 3) := by decide +kernel
theorem dX8_fallAfter_44 : decode cX8_fallAfter 44 = .ok (.bipush (-4), 2) := by decide +kernel
theorem dX8_fallAfter_46 : decode cX8_fallAfter 46 = .ok (.if_icmp .eq 5, 3) := by decide +kernel
theorem dX8_fallAfter_49 : decode cX8_fallAfter 49 = .ok (.iload_n 2, 1) := by decide +kernel
theorem dX8_fallAfter_50 : decode cX8_fallAfter 50 = .ok (.ireturn, 1) := by decide +kernel
theorem dX8_fallAfter_51 : decode cX8_fallAfter 51 = .ok (.iinc 2 1, 3) := by decide +kernel
theorem dX8_fallAfter_54 : decode cX8_fallAfter 54 = .ok (.goto (-52), 3) := by decide +kernel
theorem dX8_fallAfter_57 : decode cX8_fallAfter 57 = .ok (.bipush (-4), 2) := by decide +kernel
theorem dX8_fallAfter_59 : decode cX8_fallAfter 59 = .ok (.ireturn, 1) := by decide +kernel
/-! X8 fallAfter -/
def X8_fallAfter_p49 (st : MS) (v2 : Int32) : Option (Int32 × MS) :=
    some (v2, st)
def X8_fallAfter_p51 (k2 : MS → Int32 → Int32 → Option (Int32 × MS)) (st : MS) (v1 : Int32) (v2 : Int32) : Option (Int32 × MS) :=
    nm (v2 + (1 : Int32)) fun x_1 =>
    k2 st v1 x_1
def X8_fallAfter_p29 (k2 : MS → Int32 → Int32 → Option (Int32 × MS)) (st : MS) (v1 : Int32) (v2 : Int32) (t0 : Int32) : Option (Int32 × MS) :=
    if t0 = 0 then
      (X8_fallAfter_p51 k2 st v1 v2)
    else
    bnd (X8_fallSideAt st ((gF st 8) + v2)) fun y_4 st_3 =>
    if y_4 = (-4 : Int32) then
      (X8_fallAfter_p51 k2 st_3 v1 v2)
    else
    X8_fallAfter_p49 st_3 v2
def X8_fallAfter_p24 (k2 : MS → Int32 → Int32 → Option (Int32 × MS)) (st : MS) (v1 : Int32) (v2 : Int32) : Option (Int32 × MS) :=
    X8_fallAfter_p29 k2 st v1 v2 (1 : Int32)
def X8_fallAfter_p2 : Nat → MS → Int32 → Int32 → Option (Int32 × MS)
  | 0, _, _, _ => none
  | n + 1, st, v1, v2 =>
    if v1 < v2 then
      (some ((-4 : Int32), st))
    else
    if v2 = 0 then
      (X8_fallAfter_p24 (fun st v1 v2 => X8_fallAfter_p2  n st v1 v2) st v1 v2)
    else
    bnd (X8_burnsOutAt st ((gF st 8) + v2)) fun y_10 st_9 =>
    if y_10 = 0 then
      (X8_fallAfter_p29 (fun st v1 v2 => X8_fallAfter_p2  n st v1 v2) st_9 v1 v2 (0 : Int32))
    else
    X8_fallAfter_p24 (fun st v1 v2 => X8_fallAfter_p2  n st v1 v2) st_9 v1 v2
theorem X8_fallAfter_p2_s (n : Nat) (st : MS) (v1 : Int32) (v2 : Int32) : X8_fallAfter_p2  (n + 1) st v1 v2 =
    (if v1 < v2 then
      (some ((-4 : Int32), st))
    else
    if v2 = 0 then
      (X8_fallAfter_p24 (fun st v1 v2 => X8_fallAfter_p2  n st v1 v2) st v1 v2)
    else
    bnd (X8_burnsOutAt st ((gF st 8) + v2)) fun y_10 st_9 =>
    if y_10 = 0 then
      (X8_fallAfter_p29 (fun st v1 v2 => X8_fallAfter_p2  n st v1 v2) st_9 v1 v2 (0 : Int32))
    else
    X8_fallAfter_p24 (fun st v1 v2 => X8_fallAfter_p2  n st v1 v2) st_9 v1 v2) := rfl
def X8_fallAfter (st : MS) (v1 : Int32) : Option (Int32 × MS) :=
    X8_fallAfter_p2 5000 st v1 (0 : Int32)
abbrev rmX8_fallAfter : Room := { frames := 4, cells := 0, slots := 0, locals := 94 }
theorem hdX8_fallAfter : yX8_fallAfter.cls = RX8 ∧ yX8_fallAfter.cls ≠ "java/lang/invoke/MethodHandle" ∧ yX8_fallAfter.cls ≠ "java/lang/invoke/VarHandle" ∧ (parseMethodDescriptor yX8_fallAfter.desc).map (fun d => d.parameters.length) = some 1 := by decide +kernel
set_option maxRecDepth 100000 in
set_option maxHeartbeats 4000000 in
theorem okX8_fallAfter (z : Nat → Nat) (l : Launch) (D : va_G) (a : Nat → Nat) (T : mT3) (fo : Nat → Option Nat) {st : MS} {v1 : Int32} {r : Int32} {st' : MS} (heq : X8_fallAfter st v1 = some (r, st')) : hCi z l D (cT T) yX8_fallAfter wsX8_fallAfter rmX8_fallAfter [.ref (a 0), .int v1] (tW a T fo st) r (tW a T fo st') := by
  refine h_body_i (plainFor_of_name (by decide)) rfl (Nat.le_of_ble_eq_true rfl) (fun p e s m args below meth c A Q hx hb hml hown hts hK hA hX hret ls hP hD hS hl => ?_)
  have hl : lv_has ls 4 [(0, .ref (a 0)), (1, .int v1)] := hl
  have hin : ∀ w ∈ wsX80, w ∈ wsX8_fallAfter := fun w h => List.mem_cons_of_mem _ (List.mem_append_right _ h)
  have f47 : (Cond.fieldLink RX8 47 RX8 (TX8 8).2.1 (TX8 8).2.2.1).before args s = true := hts (.fieldLink RX8 47 RX8 "minute" "I") (by decide +kernel)
  have b49 : ∀ (st : MS) (v2 : Int32) (H : Heap) (locs : List Loc) (ls : Array Slot), va_P D vwCl (tW a T fo st) H → va_D A (tW a T fo st) → va_S A s.heap H locs → lv_has ls 4 [(2, .int v2)] → X8_fallAfter_p49  st v2 = some (r, st') → W p l e rmX8_fallAfter s m args below meth c H locs 0 0 Q (F0 m 49 ls []) := by
    intro st v2 H locs ls hP hD hS hl heq
    unfold X8_fallAfter_p49 at heq
    refine lv_iload_n hx hb dX8_fallAfter_49 rfl (lv_at hl 0 rfl) ?_
    obtain ⟨heq, heq2⟩ := ret_h heq
    subst heq
    subst heq2
    exact hret 50 H locs ls hP hD hS rfl dX8_fallAfter_50
  have b51 : ∀ (k2 : MS → Int32 → Int32 → Option (Int32 × MS)) (hk2 : ∀ (st : MS) (v1 : Int32) (v2 : Int32) (H : Heap) (locs : List Loc) (ls : Array Slot), va_P D vwCl (tW a T fo st) H → va_D A (tW a T fo st) → va_S A s.heap H locs → lv_has ls 4 [(0, .ref (a 0)), (1, .int v1), (2, .int v2)] → k2 st v1 v2 = some (r, st') → W p l e rmX8_fallAfter s m args below meth c H locs 0 0 Q (F0 m 2 ls [])), ∀ (st : MS) (v1 : Int32) (v2 : Int32) (H : Heap) (locs : List Loc) (ls : Array Slot), va_P D vwCl (tW a T fo st) H → va_D A (tW a T fo st) → va_S A s.heap H locs → lv_has ls 4 [(0, .ref (a 0)), (1, .int v1), (2, .int v2)] → X8_fallAfter_p51 k2 st v1 v2 = some (r, st') → W p l e rmX8_fallAfter s m args below meth c H locs 0 0 Q (F0 m 51 ls []) := by
    intro k2 hk2 st v1 v2 H locs ls hP hD hS hl heq
    unfold X8_fallAfter_p51 at heq
    obtain ⟨x_1, ex_1⟩ : ∃ y : Int32, y = v2 + (1 : Int32) := ⟨_, rfl⟩
    have heq := nm_h ex_1 heq
    refine lv_iinc (v := x_1) (lv' := [(2, .int x_1), (0, .ref (a 0)), (1, .int v1)]) hx hb dX8_fallAfter_51 hl (k := 2) rfl (by rw [ex_1]; rfl) (by decide) rfl (fun ls hl => ?_)
    refine lv_goto (tgt := 2) hx hb dX8_fallAfter_54 (by decide) ?_
    exact hk2 st v1 x_1 H locs ls hP hD hS (lv_sub hl [1, 2, 0] rfl) heq
  have b29 : ∀ (k2 : MS → Int32 → Int32 → Option (Int32 × MS)) (hk2 : ∀ (st : MS) (v1 : Int32) (v2 : Int32) (H : Heap) (locs : List Loc) (ls : Array Slot), va_P D vwCl (tW a T fo st) H → va_D A (tW a T fo st) → va_S A s.heap H locs → lv_has ls 4 [(0, .ref (a 0)), (1, .int v1), (2, .int v2)] → k2 st v1 v2 = some (r, st') → W p l e rmX8_fallAfter s m args below meth c H locs 0 0 Q (F0 m 2 ls [])), ∀ (st : MS) (v1 : Int32) (v2 : Int32) (t0 : Int32) (H : Heap) (locs : List Loc) (ls : Array Slot), va_P D vwCl (tW a T fo st) H → va_D A (tW a T fo st) → va_S A s.heap H locs → lv_has ls 4 [(0, .ref (a 0)), (1, .int v1), (2, .int v2)] → X8_fallAfter_p29 k2 st v1 v2 t0 = some (r, st') → W p l e rmX8_fallAfter s m args below meth c H locs 0 0 Q (F0 m 29 ls [.int t0]) := by
    intro k2 hk2 st v1 v2 t0 H locs ls hP hD hS hl heq
    unfold X8_fallAfter_p29 at heq
    refine lv_istore_n (lv' := [(3, .int t0), (0, .ref (a 0)), (1, .int v1), (2, .int v2)]) hx hb dX8_fallAfter_29 rfl hl (by decide) rfl (fun ls hl => ?_)
    refine lv_iload_n hx hb dX8_fallAfter_30 rfl (lv_at hl 0 rfl) ?_
    refine lv_if_eq (tgt := 51) hx hb dX8_fallAfter_31 (by decide) (fun c_2 => ?_) (fun c_2 => ?_)
    · have heq := it_t c_2 heq
      exact b51 k2 hk2 st v1 v2 H locs ls hP hD hS (lv_sub hl [1, 2, 3] rfl) heq
    have heq := it_f c_2 heq
    refine lv_aload_n hx hb dX8_fallAfter_34 rfl (lv_at hl 1 rfl) ?_
    refine lv_aload_n hx hb dX8_fallAfter_35 rfl (lv_at hl 1 rfl) ?_
    refine tg (k := 8) (v := .int (gF st 8)) hx hb hts hin hown hK hP (by decide) f47 rfl dX8_fallAfter_36 rfl ?_
    refine lv_iload_n hx hb dX8_fallAfter_39 rfl (lv_at hl 3 rfl) ?_
    refine lv_iadd hx hb dX8_fallAfter_40 ?_
    obtain ⟨y_4, st_3, h_5, heq⟩ := bnd_h heq
    refine h_vi (own := RX8) (As := [.int ((gF st 8) + v2)]) (rest := []) (wr := []) hx hb hml hown hts (okX8_fallSideAt z l D a T fo h_5) (cwV 1 hts gX8_fallAfter_X8_fallSideAt rfl rfl rfl hdX8_fallSideAt ⟨Nat.le_of_ble_eq_true rfl, Nat.le_of_ble_eq_true rfl⟩) hK hA hX hP hD hS (perm_nil _) (perm_nil2 _) (ci := 8) (q0 := 0) rfl rfl rfl hl.1 rfl (Nat.le_of_ble_eq_true rfl) dX8_fallAfter_41 ⟨Nat.le_of_ble_eq_true rfl, Nat.le_of_ble_eq_true rfl⟩ (fun H locs hP hD hS => ?_)
    refine lv_bipush (v := (-4 : Int32)) hx hb dX8_fallAfter_44 (by decide) ?_
    refine lv_icmp_eq (tgt := 51) hx hb dX8_fallAfter_46 (by decide) (fun c_6 => ?_) (fun c_6 => ?_)
    · have heq := it_t c_6 heq
      exact b51 k2 hk2 st_3 v1 v2 H locs ls hP hD hS (lv_sub hl [1, 2, 3] rfl) heq
    have heq := it_f c_6 heq
    exact b49 st_3 v2 H locs ls hP hD hS (lv_sub hl [3] rfl) heq
  have b24 : ∀ (k2 : MS → Int32 → Int32 → Option (Int32 × MS)) (hk2 : ∀ (st : MS) (v1 : Int32) (v2 : Int32) (H : Heap) (locs : List Loc) (ls : Array Slot), va_P D vwCl (tW a T fo st) H → va_D A (tW a T fo st) → va_S A s.heap H locs → lv_has ls 4 [(0, .ref (a 0)), (1, .int v1), (2, .int v2)] → k2 st v1 v2 = some (r, st') → W p l e rmX8_fallAfter s m args below meth c H locs 0 0 Q (F0 m 2 ls [])), ∀ (st : MS) (v1 : Int32) (v2 : Int32) (H : Heap) (locs : List Loc) (ls : Array Slot), va_P D vwCl (tW a T fo st) H → va_D A (tW a T fo st) → va_S A s.heap H locs → lv_has ls 4 [(0, .ref (a 0)), (1, .int v1), (2, .int v2)] → X8_fallAfter_p24 k2 st v1 v2 = some (r, st') → W p l e rmX8_fallAfter s m args below meth c H locs 0 0 Q (F0 m 24 ls []) := by
    intro k2 hk2 st v1 v2 H locs ls hP hD hS hl heq
    unfold X8_fallAfter_p24 at heq
    refine lv_iconst (v := (1 : Int32)) hx hb dX8_fallAfter_24 (by decide) ?_
    refine lv_goto (tgt := 29) hx hb dX8_fallAfter_25 (by decide) ?_
    exact b29 k2 hk2 st v1 v2 (1 : Int32) H locs ls hP hD hS (lv_sub hl [0, 1, 2] rfl) heq
  have b2 : ∀ (n : Nat), ∀ (st : MS) (v1 : Int32) (v2 : Int32) (H : Heap) (locs : List Loc) (ls : Array Slot), va_P D vwCl (tW a T fo st) H → va_D A (tW a T fo st) → va_S A s.heap H locs → lv_has ls 4 [(0, .ref (a 0)), (1, .int v1), (2, .int v2)] → X8_fallAfter_p2  n st v1 v2 = some (r, st') → W p l e rmX8_fallAfter s m args below meth c H locs 0 0 Q (F0 m 2 ls []) := by
    intro n
    induction n with
    | zero => intro st v1 v2 H locs ls hP hD hS hl heq; cases heq
    | succ n ih =>
      intro st v1 v2 H locs ls hP hD hS hl heq
      rw [X8_fallAfter_p2_s] at heq
      refine lv_iload_n hx hb dX8_fallAfter_2 rfl (lv_at hl 2 rfl) ?_
      refine lv_iload_n hx hb dX8_fallAfter_3 rfl (lv_at hl 1 rfl) ?_
      refine lv_icmp_gt (tgt := 57) hx hb dX8_fallAfter_4 (by decide) (fun c_7 => ?_) (fun c_7 => ?_)
      · have heq := it_t c_7 heq
        refine lv_bipush (v := (-4 : Int32)) hx hb dX8_fallAfter_57 (by decide) ?_
        obtain ⟨heq, heq2⟩ := ret_h heq
        subst heq
        subst heq2
        exact hret 59 H locs ls hP hD hS rfl dX8_fallAfter_59
      have heq := it_f c_7 heq
      refine lv_iload_n hx hb dX8_fallAfter_7 rfl (lv_at hl 2 rfl) ?_
      refine lv_if_eq (tgt := 24) hx hb dX8_fallAfter_8 (by decide) (fun c_8 => ?_) (fun c_8 => ?_)
      · have heq := it_t c_8 heq
        exact b24 (fun st v1 v2 => X8_fallAfter_p2  n st v1 v2) ih st v1 v2 H locs ls hP hD hS (lv_sub hl [0, 1, 2] rfl) heq
      have heq := it_f c_8 heq
      refine lv_aload_n hx hb dX8_fallAfter_11 rfl (lv_at hl 0 rfl) ?_
      refine lv_aload_n hx hb dX8_fallAfter_12 rfl (lv_at hl 0 rfl) ?_
      refine tg (k := 8) (v := .int (gF st 8)) hx hb hts hin hown hK hP (by decide) f47 rfl dX8_fallAfter_13 rfl ?_
      refine lv_iload_n hx hb dX8_fallAfter_16 rfl (lv_at hl 2 rfl) ?_
      refine lv_iadd hx hb dX8_fallAfter_17 ?_
      obtain ⟨y_10, st_9, h_11, heq⟩ := bnd_h heq
      refine h_vi (own := RX8) (As := [.int ((gF st 8) + v2)]) (rest := []) (wr := []) hx hb hml hown hts (okX8_burnsOutAt z l D a T fo h_11) (cwV 1 hts gX8_fallAfter_X8_burnsOutAt rfl rfl rfl hdX8_burnsOutAt ⟨Nat.le_of_ble_eq_true rfl, Nat.le_of_ble_eq_true rfl⟩) hK hA hX hP hD hS (perm_nil _) (perm_nil2 _) (ci := 8) (q0 := 0) rfl rfl rfl hl.1 rfl (Nat.le_of_ble_eq_true rfl) dX8_fallAfter_18 ⟨Nat.le_of_ble_eq_true rfl, Nat.le_of_ble_eq_true rfl⟩ (fun H locs hP hD hS => ?_)
      refine lv_if_eq (tgt := 28) hx hb dX8_fallAfter_21 (by decide) (fun c_12 => ?_) (fun c_12 => ?_)
      · have heq := it_t c_12 heq
        refine lv_iconst (v := (0 : Int32)) hx hb dX8_fallAfter_28 (by decide) ?_
        exact b29 (fun st v1 v2 => X8_fallAfter_p2  n st v1 v2) ih st_9 v1 v2 (0 : Int32) H locs ls hP hD hS (lv_sub hl [0, 1, 2] rfl) heq
      have heq := it_f c_12 heq
      exact b24 (fun st v1 v2 => X8_fallAfter_p2  n st v1 v2) ih st_9 v1 v2 H locs ls hP hD hS (lv_sub hl [0, 1, 2] rfl) heq
  obtain ⟨H, hH⟩ : ∃ H, H = s.heap := ⟨_, rfl⟩
  obtain ⟨locs, hlocs⟩ : ∃ z : List Loc, z = [] := ⟨_, rfl⟩
  have hS : va_S A s.heap H locs := by rw [hH, hlocs]; exact hS
  have hP : va_P D vwCl (tW a T fo st) H := by rw [hH]; exact hP
  suffices h9 : W p l e rmX8_fallAfter s m args below meth c H locs 0 0 Q (F0 m 0 ls []) by rw [hH, hlocs] at h9; exact h9
  clear hH hlocs
  unfold X8_fallAfter at heq
  refine lv_iconst (v := (0 : Int32)) hx hb dX8_fallAfter_0 (by decide) ?_
  refine lv_istore_n (lv' := [(2, .int (0 : Int32)), (0, .ref (a 0)), (1, .int v1)]) hx hb dX8_fallAfter_1 rfl hl (by decide) rfl (fun ls hl => ?_)
  exact b2 5000 st v1 (0 : Int32) H locs ls hP hD hS (lv_sub hl [1, 2, 0] rfl) heq
set_option maxRecDepth 20000 in
theorem ggX8_fallToLaneAfter_X8_fallAfter : GoodIn wsX8_fallToLaneAfter wsX8_fallAfter := goodIn_r _ [7, 1, 8, 9, 10, 6, 11, 12, 13, 14, 15, 16, 17, 18, 19, 20, 21, 22, 23, 24, 2, 25, 26, 27, 28, 29, 30, 31, 32, 33, 34, 35, 36, 37, 38, 39, 40, 41, 42, 43, 44, 45, 46] (by decide +kernel) (by decide +kernel)
set_option maxRecDepth 20000 in
theorem gX8_fallToLaneAfter_X8_fallAfter : GoodIn wsX8_fallToLaneAfter (wsV RX8 103 RX8 yX8_fallAfter wsX8_fallAfter) := goodIn_app (goodIn_of _ (by decide +kernel)) ggX8_fallToLaneAfter_X8_fallAfter
set_option maxRecDepth 20000 in
theorem ggX8_fallToLaneAfter_X8_fallSideAt : GoodIn wsX8_fallToLaneAfter wsX8_fallSideAt := goodIn_r _ [16, 17, 18, 19, 6, 20, 21, 22, 23, 24, 2, 25, 26, 27, 28, 29, 30, 31, 32, 33, 34, 35, 12, 36, 37, 38, 39, 40, 41, 42, 43, 44, 45, 46] (by decide +kernel) (by decide +kernel)
set_option maxRecDepth 20000 in
theorem gX8_fallToLaneAfter_X8_fallSideAt : GoodIn wsX8_fallToLaneAfter (wsV RX8 54 RX8 yX8_fallSideAt wsX8_fallSideAt) := goodIn_app (goodIn_of _ (by decide +kernel)) ggX8_fallToLaneAfter_X8_fallSideAt
theorem dX8_fallToLaneAfter_0 : decode cX8_fallToLaneAfter 0 = .ok (.aload_n 0, 1) := by decide +kernel
theorem dX8_fallToLaneAfter_1 : decode cX8_fallToLaneAfter 1 = .ok (.bipush 60, 2) := by decide +kernel
theorem dX8_fallToLaneAfter_3 : decode cX8_fallToLaneAfter 3 = .ok (.invokevirtual 103, 3) := by decide +kernel
theorem dX8_fallToLaneAfter_6 : decode cX8_fallToLaneAfter 6 = .ok (.istore_n 1, 1) := by decide +kernel
theorem dX8_fallToLaneAfter_7 : decode cX8_fallToLaneAfter 7 = .ok (.iload_n 1, 1) := by decide +kernel
theorem dX8_fallToLaneAfter_8 : decode cX8_fallToLaneAfter 8 = .ok (.bipush (-4), 2) := by decide +kernel
theorem dX8_fallToLaneAfter_10 : decode cX8_fallToLaneAfter 10 = .ok (.if_icmp .eq 27, 3) := by decide +kernel
theorem dX8_fallToLaneAfter_13 : decode cX8_fallToLaneAfter 13 = .ok (.aload_n 0, 1) := by decide +kernel
theorem dX8_fallToLaneAfter_14 : decode cX8_fallToLaneAfter 14 = .ok (.aload_n 0, 1) := by decide +kernel
theorem dX8_fallToLaneAfter_15 : decode cX8_fallToLaneAfter 15 = .ok (.getfield 47, 3) := by decide +kernel
theorem dX8_fallToLaneAfter_18 : decode cX8_fallToLaneAfter 18 = .ok (.iload_n 1, 1) := by decide +kernel
theorem dX8_fallToLaneAfter_19 : decode cX8_fallToLaneAfter 19 = .ok (.iadd, 1) := by decide +kernel
theorem dX8_fallToLaneAfter_20 : decode cX8_fallToLaneAfter 20 = .ok (.invokevirtual 54, 3) := by decide +kernel
theorem dX8_fallToLaneAfter_23 : decode cX8_fallToLaneAfter 23 = .ok (.aload_n 0, 1) := by decide +kernel
theorem dX8_fallToLaneAfter_24 : decode cX8_fallToLaneAfter 24 = .ok (.getfield 24, 3) := by decide +kernel
theorem dX8_fallToLaneAfter_27 : decode cX8_fallToLaneAfter 27 = .ok (.bipush 6, 2) := by decide +kernel
theorem dX8_fallToLaneAfter_29 : decode cX8_fallToLaneAfter 29 = .ok (.iaload, 1) := by decide +kernel
theorem dX8_fallToLaneAfter_30 : decode cX8_fallToLaneAfter 30 = .ok (.if_icmp .ne 7, 3) := by decide +kernel
theorem dX8_fallToLaneAfter_33 : decode cX8_fallToLaneAfter 33 = .ok (.iload_n 1, 1) := by decide +kernel
theorem dX8_fallToLaneAfter_34 : decode cX8_fallToLaneAfter 34 = .ok (.goto 5, 3) := by decide +kernel
theorem dX8_fallToLaneAfter_37 : decode cX8_fallToLaneAfter 37 = .ok (.bipush (-4), 2) := by decide +kernel
theorem dX8_fallToLaneAfter_39 : decode cX8_fallToLaneAfter 39 = .ok (.ireturn, 1) := by decide +kernel
/-! X8 fallToLaneAfter -/
def X8_fallToLaneAfter_p39 (st : MS) (t0 : Int32) : Option (Int32 × MS) :=
    some (t0, st)
def X8_fallToLaneAfter (st : MS) : Option (Int32 × MS) :=
    bnd (X8_fallAfter st (60 : Int32)) fun y_2 st_1 =>
    if y_2 = (-4 : Int32) then
      (X8_fallToLaneAfter_p39 st_1 (-4 : Int32))
    else
    bnd (X8_fallSideAt st_1 ((gF st_1 8) + y_2)) fun y_6 st_5 =>
    inr (6 : Int32) 7 <|
    if y_6 = (gA st_5 3 (6 : Int32).toNatClampNeg) then
      (X8_fallToLaneAfter_p39 st_5 y_2)
    else
    X8_fallToLaneAfter_p39 st_5 (-4 : Int32)
abbrev rmX8_fallToLaneAfter : Room := { frames := 5, cells := 0, slots := 0, locals := 117 }
theorem hdX8_fallToLaneAfter : yX8_fallToLaneAfter.cls = RX8 ∧ yX8_fallToLaneAfter.cls ≠ "java/lang/invoke/MethodHandle" ∧ yX8_fallToLaneAfter.cls ≠ "java/lang/invoke/VarHandle" ∧ (parseMethodDescriptor yX8_fallToLaneAfter.desc).map (fun d => d.parameters.length) = some 0 := by decide +kernel
set_option maxRecDepth 100000 in
set_option maxHeartbeats 4000000 in
theorem okX8_fallToLaneAfter (z : Nat → Nat) (l : Launch) (D : va_G) (a : Nat → Nat) (T : mT3) (fo : Nat → Option Nat) {st : MS} {r : Int32} {st' : MS} (heq : X8_fallToLaneAfter st = some (r, st')) : hCi z l D (cT T) yX8_fallToLaneAfter wsX8_fallToLaneAfter rmX8_fallToLaneAfter [.ref (a 0)] (tW a T fo st) r (tW a T fo st') := by
  refine h_body_i (plainFor_of_name (by decide)) rfl (Nat.le_of_ble_eq_true rfl) (fun p e s m args below meth c A Q hx hb hml hown hts hK hA hX hret ls hP hD hS hl => ?_)
  have hl : lv_has ls 2 [(0, .ref (a 0))] := hl
  have hin : ∀ w ∈ wsX80, w ∈ wsX8_fallToLaneAfter := fun w h => List.mem_cons_of_mem _ (List.mem_append_right _ h)
  have f24 : (Cond.fieldLink RX8 24 RX8 (TX8 3).2.1 (TX8 3).2.2.1).before args s = true := hts (.fieldLink RX8 24 RX8 "told" "[I") (by decide +kernel)
  have f47 : (Cond.fieldLink RX8 47 RX8 (TX8 8).2.1 (TX8 8).2.2.1).before args s = true := hts (.fieldLink RX8 47 RX8 "minute" "I") (by decide +kernel)
  have b39 : ∀ (st : MS) (t0 : Int32) (H : Heap) (locs : List Loc) (ls : Array Slot), va_P D vwCl (tW a T fo st) H → va_D A (tW a T fo st) → va_S A s.heap H locs → lv_has ls 2 [] → X8_fallToLaneAfter_p39  st t0 = some (r, st') → W p l e rmX8_fallToLaneAfter s m args below meth c H locs 0 0 Q (F0 m 39 ls [.int t0]) := by
    intro st t0 H locs ls hP hD hS hl heq
    unfold X8_fallToLaneAfter_p39 at heq
    obtain ⟨heq, heq2⟩ := ret_h heq
    subst heq
    subst heq2
    exact hret 39 H locs ls hP hD hS rfl dX8_fallToLaneAfter_39
  obtain ⟨H, hH⟩ : ∃ H, H = s.heap := ⟨_, rfl⟩
  obtain ⟨locs, hlocs⟩ : ∃ z : List Loc, z = [] := ⟨_, rfl⟩
  have hS : va_S A s.heap H locs := by rw [hH, hlocs]; exact hS
  have hP : va_P D vwCl (tW a T fo st) H := by rw [hH]; exact hP
  suffices h9 : W p l e rmX8_fallToLaneAfter s m args below meth c H locs 0 0 Q (F0 m 0 ls []) by rw [hH, hlocs] at h9; exact h9
  clear hH hlocs
  unfold X8_fallToLaneAfter at heq
  refine lv_aload_n hx hb dX8_fallToLaneAfter_0 rfl (lv_at hl 0 rfl) ?_
  refine lv_bipush (v := (60 : Int32)) hx hb dX8_fallToLaneAfter_1 (by decide) ?_
  obtain ⟨y_2, st_1, h_3, heq⟩ := bnd_h heq
  refine h_vi (own := RX8) (As := [.int (60 : Int32)]) (rest := []) (wr := []) hx hb hml hown hts (okX8_fallAfter z l D a T fo h_3) (cwV 1 hts gX8_fallToLaneAfter_X8_fallAfter rfl rfl rfl hdX8_fallAfter ⟨Nat.le_of_ble_eq_true rfl, Nat.le_of_ble_eq_true rfl⟩) hK hA hX hP hD hS (perm_nil _) (perm_nil2 _) (ci := 8) (q0 := 0) rfl rfl rfl hl.1 rfl (Nat.le_of_ble_eq_true rfl) dX8_fallToLaneAfter_3 ⟨Nat.le_of_ble_eq_true rfl, Nat.le_of_ble_eq_true rfl⟩ (fun H locs hP hD hS => ?_)
  refine lv_istore_n (lv' := [(1, .int y_2), (0, .ref (a 0))]) hx hb dX8_fallToLaneAfter_6 rfl hl (by decide) rfl (fun ls hl => ?_)
  refine lv_iload_n hx hb dX8_fallToLaneAfter_7 rfl (lv_at hl 0 rfl) ?_
  refine lv_bipush (v := (-4 : Int32)) hx hb dX8_fallToLaneAfter_8 (by decide) ?_
  refine lv_icmp_eq (tgt := 37) hx hb dX8_fallToLaneAfter_10 (by decide) (fun c_4 => ?_) (fun c_4 => ?_)
  · have heq := it_t c_4 heq
    refine lv_bipush (v := (-4 : Int32)) hx hb dX8_fallToLaneAfter_37 (by decide) ?_
    exact b39 st_1 (-4 : Int32) H locs ls hP hD hS (lv_sub hl [] rfl) heq
  have heq := it_f c_4 heq
  refine lv_aload_n hx hb dX8_fallToLaneAfter_13 rfl (lv_at hl 1 rfl) ?_
  refine lv_aload_n hx hb dX8_fallToLaneAfter_14 rfl (lv_at hl 1 rfl) ?_
  refine tg (k := 8) (v := .int (gF st_1 8)) hx hb hts hin hown hK hP (by decide) f47 rfl dX8_fallToLaneAfter_15 rfl ?_
  refine lv_iload_n hx hb dX8_fallToLaneAfter_18 rfl (lv_at hl 0 rfl) ?_
  refine lv_iadd hx hb dX8_fallToLaneAfter_19 ?_
  obtain ⟨y_6, st_5, h_7, heq⟩ := bnd_h heq
  refine h_vi (own := RX8) (As := [.int ((gF st_1 8) + y_2)]) (rest := []) (wr := []) hx hb hml hown hts (okX8_fallSideAt z l D a T fo h_7) (cwV 1 hts gX8_fallToLaneAfter_X8_fallSideAt rfl rfl rfl hdX8_fallSideAt ⟨Nat.le_of_ble_eq_true rfl, Nat.le_of_ble_eq_true rfl⟩) hK hA hX hP hD hS (perm_nil _) (perm_nil2 _) (ci := 8) (q0 := 0) rfl rfl rfl hl.1 rfl (Nat.le_of_ble_eq_true rfl) dX8_fallToLaneAfter_20 ⟨Nat.le_of_ble_eq_true rfl, Nat.le_of_ble_eq_true rfl⟩ (fun H locs hP hD hS => ?_)
  refine lv_aload_n hx hb dX8_fallToLaneAfter_23 rfl (lv_at hl 1 rfl) ?_
  refine tg (k := 3) (v := .ref (a 4)) hx hb hts hin hown hK hP (by decide) f24 rfl dX8_fallToLaneAfter_24 rfl ?_
  refine lv_bipush (v := (6 : Int32)) hx hb dX8_fallToLaneAfter_27 (by decide) ?_
  obtain ⟨n_8, heq⟩ := inr_h heq
  refine tal (k := 3) (q := 4) (n := 7) hx hb hK hP rfl n_8 dX8_fallToLaneAfter_29 ?_
  refine lv_icmp_ne (tgt := 37) hx hb dX8_fallToLaneAfter_30 (by decide) (fun c_9 => ?_) (fun c_9 => ?_)
  · have heq := it_f c_9 heq
    refine lv_bipush (v := (-4 : Int32)) hx hb dX8_fallToLaneAfter_37 (by decide) ?_
    exact b39 st_5 (-4 : Int32) H locs ls hP hD hS (lv_sub hl [] rfl) heq
  have heq := it_t c_9 heq
  refine lv_iload_n hx hb dX8_fallToLaneAfter_33 rfl (lv_at hl 0 rfl) ?_
  refine lv_goto (tgt := 39) hx hb dX8_fallToLaneAfter_34 (by decide) ?_
  exact b39 st_5 y_2 H locs ls hP hD hS (lv_sub hl [] rfl) heq
theorem dX8_breaksAt_0 : decode cX8_breaksAt 0 = .ok (.iload_n 1, 1) := by decide +kernel
theorem dX8_breaksAt_1 : decode cX8_breaksAt 1 = .ok (.bipush 10, 2) := by decide +kernel
theorem dX8_breaksAt_3 : decode cX8_breaksAt 3 = .ok (.if_icmp .ge 14, 3) := by decide +kernel
theorem dX8_breaksAt_6 : decode cX8_breaksAt 6 = .ok (.aload_n 0, 1) := by decide +kernel
theorem dX8_breaksAt_7 : decode cX8_breaksAt 7 = .ok (.getfield 24, 3) := by decide +kernel
theorem dX8_breaksAt_10 : decode cX8_breaksAt 10 = .ok (.iconst 3, 1) := by decide +kernel
theorem dX8_breaksAt_11 : decode cX8_breaksAt 11 = .ok (.iaload, 1) := by decide +kernel
theorem dX8_breaksAt_12 : decode cX8_breaksAt 12 = .ok (.bipush 10, 2) := by decide +kernel
theorem dX8_breaksAt_14 : decode cX8_breaksAt 14 = .ok (.if_icmp .lt 7, 3) := by decide +kernel
theorem dX8_breaksAt_17 : decode cX8_breaksAt 17 = .ok (.iconst 1, 1) := by decide +kernel
theorem dX8_breaksAt_18 : decode cX8_breaksAt 18 = .ok (.goto 4, 3) := by decide +kernel
theorem dX8_breaksAt_21 : decode cX8_breaksAt 21 = .ok (.iconst 0, 1) := by decide +kernel
theorem dX8_breaksAt_22 : decode cX8_breaksAt 22 = .ok (.ireturn, 1) := by decide +kernel
/-! X8 breaksAt -/
def X8_breaksAt_p22 (st : MS) (t0 : Int32) : Option (Int32 × MS) :=
    gz t0 <|
    some (t0, st)
def X8_breaksAt_p17 (st : MS) : Option (Int32 × MS) :=
    X8_breaksAt_p22 st (1 : Int32)
def X8_breaksAt (st : MS) (v1 : Int32) : Option (Int32 × MS) :=
    if (10 : Int32) ≤ v1 then
      (X8_breaksAt_p17 st)
    else
    inr (3 : Int32) 7 <|
    if (gA st 3 (3 : Int32).toNatClampNeg) < (10 : Int32) then
      (X8_breaksAt_p22 st (0 : Int32))
    else
    X8_breaksAt_p17 st
abbrev rmX8_breaksAt : Room := { frames := 0, cells := 0, slots := 0, locals := 0 }
theorem hdX8_breaksAt : yX8_breaksAt.cls = RX8 ∧ yX8_breaksAt.cls ≠ "java/lang/invoke/MethodHandle" ∧ yX8_breaksAt.cls ≠ "java/lang/invoke/VarHandle" ∧ (parseMethodDescriptor yX8_breaksAt.desc).map (fun d => d.parameters.length) = some 1 := by decide +kernel
set_option maxRecDepth 100000 in
set_option maxHeartbeats 4000000 in
theorem okX8_breaksAt (z : Nat → Nat) (l : Launch) (D : va_G) (a : Nat → Nat) (T : mT3) (fo : Nat → Option Nat) {st : MS} {v1 : Int32} {r : Int32} {st' : MS} (heq : X8_breaksAt st v1 = some (r, st')) : hCi z l D (cT T) yX8_breaksAt wsX8_breaksAt rmX8_breaksAt [.ref (a 0), .int v1] (tW a T fo st) r (tW a T fo st') := by
  refine h_body_i (plainFor_of_name (by decide)) rfl (Nat.le_of_ble_eq_true rfl) (fun p e s m args below meth c A Q hx hb hml hown hts hK hA hX hret ls hP hD hS hl => ?_)
  have hl : lv_has ls 2 [(0, .ref (a 0)), (1, .int v1)] := hl
  have hin : ∀ w ∈ wsX80, w ∈ wsX8_breaksAt := fun w h => List.mem_cons_of_mem _ (List.mem_append_right _ h)
  have f24 : (Cond.fieldLink RX8 24 RX8 (TX8 3).2.1 (TX8 3).2.2.1).before args s = true := hts (.fieldLink RX8 24 RX8 "told" "[I") (by decide +kernel)
  have b22 : ∀ (st : MS) (t0 : Int32) (H : Heap) (locs : List Loc) (ls : Array Slot), va_P D vwCl (tW a T fo st) H → va_D A (tW a T fo st) → va_S A s.heap H locs → lv_has ls 2 [] → X8_breaksAt_p22  st t0 = some (r, st') → W p l e rmX8_breaksAt s m args below meth c H locs 0 0 Q (F0 m 22 ls [.int t0]) := by
    intro st t0 H locs ls hP hD hS hl heq
    unfold X8_breaksAt_p22 at heq
    obtain ⟨n_1, _, heq⟩ := gz_h heq
    obtain ⟨heq, heq2⟩ := ret_h heq
    subst heq
    subst heq2
    exact hret 22 H locs ls hP hD hS n_1 dX8_breaksAt_22
  have b17 : ∀ (st : MS) (H : Heap) (locs : List Loc) (ls : Array Slot), va_P D vwCl (tW a T fo st) H → va_D A (tW a T fo st) → va_S A s.heap H locs → lv_has ls 2 [] → X8_breaksAt_p17  st = some (r, st') → W p l e rmX8_breaksAt s m args below meth c H locs 0 0 Q (F0 m 17 ls []) := by
    intro st H locs ls hP hD hS hl heq
    unfold X8_breaksAt_p17 at heq
    refine lv_iconst (v := (1 : Int32)) hx hb dX8_breaksAt_17 (by decide) ?_
    refine lv_goto (tgt := 22) hx hb dX8_breaksAt_18 (by decide) ?_
    exact b22 st (1 : Int32) H locs ls hP hD hS (lv_sub hl [] rfl) heq
  obtain ⟨H, hH⟩ : ∃ H, H = s.heap := ⟨_, rfl⟩
  obtain ⟨locs, hlocs⟩ : ∃ z : List Loc, z = [] := ⟨_, rfl⟩
  have hS : va_S A s.heap H locs := by rw [hH, hlocs]; exact hS
  have hP : va_P D vwCl (tW a T fo st) H := by rw [hH]; exact hP
  suffices h9 : W p l e rmX8_breaksAt s m args below meth c H locs 0 0 Q (F0 m 0 ls []) by rw [hH, hlocs] at h9; exact h9
  clear hH hlocs
  unfold X8_breaksAt at heq
  refine lv_iload_n hx hb dX8_breaksAt_0 rfl (lv_at hl 1 rfl) ?_
  refine lv_bipush (v := (10 : Int32)) hx hb dX8_breaksAt_1 (by decide) ?_
  refine lv_icmp_ge (tgt := 17) hx hb dX8_breaksAt_3 (by decide) (fun c_2 => ?_) (fun c_2 => ?_)
  · have heq := it_t c_2 heq
    exact b17 st H locs ls hP hD hS (lv_sub hl [] rfl) heq
  have heq := it_f c_2 heq
  refine lv_aload_n hx hb dX8_breaksAt_6 rfl (lv_at hl 0 rfl) ?_
  refine tg (k := 3) (v := .ref (a 4)) hx hb hts hin hown hK hP (by decide) f24 rfl dX8_breaksAt_7 rfl ?_
  refine lv_iconst (v := (3 : Int32)) hx hb dX8_breaksAt_10 (by decide) ?_
  obtain ⟨n_3, heq⟩ := inr_h heq
  refine tal (k := 3) (q := 4) (n := 7) hx hb hK hP rfl n_3 dX8_breaksAt_11 ?_
  refine lv_bipush (v := (10 : Int32)) hx hb dX8_breaksAt_12 (by decide) ?_
  refine lv_icmp_lt (tgt := 21) hx hb dX8_breaksAt_14 (by decide) (fun c_4 => ?_) (fun c_4 => ?_)
  · have heq := it_t c_4 heq
    refine lv_iconst (v := (0 : Int32)) hx hb dX8_breaksAt_21 (by decide) ?_
    exact b22 st (0 : Int32) H locs ls hP hD hS (lv_sub hl [] rfl) heq
  have heq := it_f c_4 heq
  exact b17 st H locs ls hP hD hS (lv_sub hl [] rfl) heq
set_option maxRecDepth 20000 in
theorem ggX8_topSide_X8_breaksAt : GoodIn wsX8_topSide wsX8_breaksAt := goodIn_r _ [6, 1, 14, 15, 16, 17, 18, 19, 20, 21, 22, 23] (by decide +kernel) (by decide +kernel)
set_option maxRecDepth 20000 in
theorem gX8_topSide_X8_breaksAt : GoodIn wsX8_topSide (wsV RX8 106 RX8 yX8_breaksAt wsX8_breaksAt) := goodIn_app (goodIn_of _ (by decide +kernel)) ggX8_topSide_X8_breaksAt
set_option maxRecDepth 20000 in
theorem ggX8_topSide_X10_around : GoodIn wsX8_topSide wsX10_around := goodIn_r _ [9, 10, 11, 12, 13] (by decide +kernel) (by decide +kernel)
set_option maxRecDepth 20000 in
theorem gX8_topSide_X10_around_n109 : GoodIn wsX8_topSide (wsX10_around) := ggX8_topSide_X10_around
theorem dX8_topSide_0 : decode cX8_topSide 0 = .ok (.aload_n 0, 1) := by decide +kernel
theorem dX8_topSide_1 : decode cX8_topSide 1 = .ok (.iload_n 2, 1) := by decide +kernel
theorem dX8_topSide_2 : decode cX8_topSide 2 = .ok (.invokevirtual 106, 3) := by decide +kernel
theorem dX8_topSide_5 : decode cX8_topSide 5 = .ok (.ifCond .ne 6, 3) := by decide +kernel
theorem dX8_topSide_8 : decode cX8_topSide 8 = .ok (.bipush (-4), 2) := by decide +kernel
theorem dX8_topSide_10 : decode cX8_topSide 10 = .ok (.ireturn, 1) := by decide +kernel
theorem dX8_topSide_11 : decode cX8_topSide 11 = .ok (.aload_n 0, 1) := by decide +kernel
theorem dX8_topSide_12 : decode cX8_topSide 12 = .ok (.getfield 24, 3) := by decide +kernel
theorem dX8_topSide_15 : decode cX8_topSide 15 = .ok (.iconst 2, 1) := by decide +kernel
theorem dX8_topSide_16 : decode cX8_topSide 16 = .ok (.iaload, 1) := by decide +kernel
theorem dX8_topSide_17 : decode cX8_topSide 17 = .ok (.iload_n 1, 1) := by decide +kernel
theorem dX8_topSide_18 : decode cX8_topSide 18 = .ok (.isub, 1) := by decide +kernel
theorem dX8_topSide_19 : decode cX8_topSide 19 = .ok (.invokestatic 109, 3) := by decide +kernel
theorem dX8_topSide_22 : decode cX8_topSide 22 = .ok (.istore_n 3, 1) := by decide +kernel
theorem dX8_topSide_23 : decode cX8_topSide 23 = .ok (.iload_n 3, 1) := by decide +kernel
theorem dX8_topSide_24 : decode cX8_topSide 24 = .ok (.ifCond .ne 5, 3) := by decide +kernel
theorem dX8_topSide_27 : decode cX8_topSide 27 = .ok (.iload_n 1, 1) := by decide +kernel
theorem dX8_topSide_28 : decode cX8_topSide 28 = .ok (.ireturn, 1) := by decide +kernel
theorem dX8_topSide_29 : decode cX8_topSide 29 = .ok (.iload_n 3, 1) := by decide +kernel
theorem dX8_topSide_30 : decode cX8_topSide 30 = .ok (.bipush 6, 2) := by decide +kernel
theorem dX8_topSide_32 : decode cX8_topSide 32 = .ok (.if_icmp .gt 9, 3) := by decide +kernel
theorem dX8_topSide_35 : decode cX8_topSide 35 = .ok (.iload_n 1, 1) := by decide +kernel
theorem dX8_topSide_36 : decode cX8_topSide 36 = .ok (.iconst 1, 1) := by decide +kernel
theorem dX8_topSide_37 : decode cX8_topSide 37 = .ok (.iadd, 1) := by decide +kernel
theorem dX8_topSide_38 : decode cX8_topSide 38 = .ok (.goto 6, 3) := by decide +kernel
theorem dX8_topSide_41 : decode cX8_topSide 41 = .ok (.iload_n 1, 1) := by decide +kernel
theorem dX8_topSide_42 : decode cX8_topSide 42 = .ok (.iconst 1, 1) := by decide +kernel
theorem dX8_topSide_43 : decode cX8_topSide 43 = .ok (.isub, 1) := by decide +kernel
theorem dX8_topSide_44 : decode cX8_topSide 44 = .ok (.invokestatic 109, 3) := by decide +kernel
theorem dX8_topSide_47 : decode cX8_topSide 47 = .ok (.ireturn, 1) := by decide +kernel
/-! X8 topSide -/
def X8_topSide_p44 (st : MS) (t0 : Int32) : Option (Int32 × MS) :=
    bd1 (X10_around t0) fun y_1 =>
    some (y_1, st)
def X8_topSide (st : MS) (v1 : Int32) (v2 : Int32) : Option (Int32 × MS) :=
    bnd (X8_breaksAt st v2) fun y_4 st_3 =>
    if y_4 = 0 then
      (some ((-4 : Int32), st_3))
    else
    inr (2 : Int32) 7 <|
    bd1 (X10_around ((gA st_3 3 (2 : Int32).toNatClampNeg) - v1)) fun y_8 =>
    if y_8 = 0 then
      (some (v1, st_3))
    else
    if (6 : Int32) < y_8 then
      (X8_topSide_p44 st_3 (v1 - (1 : Int32)))
    else
    X8_topSide_p44 st_3 (v1 + (1 : Int32))
abbrev rmX8_topSide : Room := { frames := 2, cells := 0, slots := 0, locals := 42 }
theorem hdX8_topSide : yX8_topSide.cls = RX8 ∧ yX8_topSide.cls ≠ "java/lang/invoke/MethodHandle" ∧ yX8_topSide.cls ≠ "java/lang/invoke/VarHandle" ∧ (parseMethodDescriptor yX8_topSide.desc).map (fun d => d.parameters.length) = some 2 := by decide +kernel
set_option maxRecDepth 100000 in
set_option maxHeartbeats 4000000 in
theorem okX8_topSide (z : Nat → Nat) (l : Launch) (D : va_G) (a : Nat → Nat) (T : mT3) (fo : Nat → Option Nat) {st : MS} {v1 : Int32} {v2 : Int32} {r : Int32} {st' : MS} (heq : X8_topSide st v1 v2 = some (r, st')) : hCi z l D (cT T) yX8_topSide wsX8_topSide rmX8_topSide [.ref (a 0), .int v1, .int v2] (tW a T fo st) r (tW a T fo st') := by
  refine h_body_i (plainFor_of_name (by decide)) rfl (Nat.le_of_ble_eq_true rfl) (fun p e s m args below meth c A Q hx hb hml hown hts hK hA hX hret ls hP hD hS hl => ?_)
  have hl : lv_has ls 4 [(0, .ref (a 0)), (1, .int v1), (2, .int v2)] := hl
  have hin : ∀ w ∈ wsX80, w ∈ wsX8_topSide := fun w h => List.mem_cons_of_mem _ (List.mem_append_right _ h)
  have f24 : (Cond.fieldLink RX8 24 RX8 (TX8 3).2.1 (TX8 3).2.2.1).before args s = true := hts (.fieldLink RX8 24 RX8 "told" "[I") (by decide +kernel)
  have wi_X10 : (Cond.initialized RX10).before args s = true := hts (.initialized RX10) (by decide +kernel)
  have ws_X10_around := hts (.static yX10_around) (by decide +kernel)
  have b44 : ∀ (st : MS) (t0 : Int32) (H : Heap) (locs : List Loc) (ls : Array Slot), va_P D vwCl (tW a T fo st) H → va_D A (tW a T fo st) → va_S A s.heap H locs → lv_has ls 4 [] → X8_topSide_p44  st t0 = some (r, st') → W p l e rmX8_topSide s m args below meth c H locs 0 0 Q (F0 m 44 ls [.int t0]) := by
    intro st t0 H locs ls hP hD hS hl heq
    unfold X8_topSide_p44 at heq
    obtain ⟨y_1, h_2, heq⟩ := bd1_h heq
    refine h_sni (own := RX8) (As := [.int t0]) (rest := []) (w0 := []) (w1 := []) (wr := (tW a T fo st)) hx hb hml hown hts (okX10_around z l D h_2) ⟨va_cnB 1 hts gX8_topSide_X10_around_n109 rfl rfl rfl (hX.nest 2 rfl) wi_X10 (hdX10_around).2 ⟨Nat.le_of_ble_eq_true rfl, Nat.le_of_ble_eq_true rfl⟩, ws_X10_around, trivial⟩ (hK.sub [] rfl) hA hX hP hD hS (List.Perm.refl _) (List.Perm.refl _) rfl hl.1 rfl (Nat.le_of_ble_eq_true rfl) dX8_topSide_44 ⟨Nat.le_of_ble_eq_true rfl, Nat.le_of_ble_eq_true rfl⟩ (fun H locs hP hD hS => ?_)
    obtain ⟨heq, heq2⟩ := ret_h heq
    subst heq
    subst heq2
    exact hret 47 H locs ls hP hD hS rfl dX8_topSide_47
  obtain ⟨H, hH⟩ : ∃ H, H = s.heap := ⟨_, rfl⟩
  obtain ⟨locs, hlocs⟩ : ∃ z : List Loc, z = [] := ⟨_, rfl⟩
  have hS : va_S A s.heap H locs := by rw [hH, hlocs]; exact hS
  have hP : va_P D vwCl (tW a T fo st) H := by rw [hH]; exact hP
  suffices h9 : W p l e rmX8_topSide s m args below meth c H locs 0 0 Q (F0 m 0 ls []) by rw [hH, hlocs] at h9; exact h9
  clear hH hlocs
  unfold X8_topSide at heq
  refine lv_aload_n hx hb dX8_topSide_0 rfl (lv_at hl 0 rfl) ?_
  refine lv_iload_n hx hb dX8_topSide_1 rfl (lv_at hl 2 rfl) ?_
  obtain ⟨y_4, st_3, h_5, heq⟩ := bnd_h heq
  refine h_vi (own := RX8) (As := [.int v2]) (rest := []) (wr := []) hx hb hml hown hts (okX8_breaksAt z l D a T fo h_5) (cwV 1 hts gX8_topSide_X8_breaksAt rfl rfl rfl hdX8_breaksAt ⟨Nat.le_of_ble_eq_true rfl, Nat.le_of_ble_eq_true rfl⟩) hK hA hX hP hD hS (perm_nil _) (perm_nil2 _) (ci := 8) (q0 := 0) rfl rfl rfl hl.1 rfl (Nat.le_of_ble_eq_true rfl) dX8_topSide_2 ⟨Nat.le_of_ble_eq_true rfl, Nat.le_of_ble_eq_true rfl⟩ (fun H locs hP hD hS => ?_)
  refine lv_if_ne (tgt := 11) hx hb dX8_topSide_5 (by decide) (fun c_6 => ?_) (fun c_6 => ?_)
  · have heq := it_f c_6 heq
    refine lv_aload_n hx hb dX8_topSide_11 rfl (lv_at hl 0 rfl) ?_
    refine tg (k := 3) (v := .ref (a 4)) hx hb hts hin hown hK hP (by decide) f24 rfl dX8_topSide_12 rfl ?_
    refine lv_iconst (v := (2 : Int32)) hx hb dX8_topSide_15 (by decide) ?_
    obtain ⟨n_7, heq⟩ := inr_h heq
    refine tal (k := 3) (q := 4) (n := 7) hx hb hK hP rfl n_7 dX8_topSide_16 ?_
    refine lv_iload_n hx hb dX8_topSide_17 rfl (lv_at hl 1 rfl) ?_
    refine lv_isub hx hb dX8_topSide_18 ?_
    obtain ⟨y_8, h_9, heq⟩ := bd1_h heq
    refine h_sni (own := RX8) (As := [.int ((gA st_3 3 (2 : Int32).toNatClampNeg) - v1)]) (rest := []) (w0 := []) (w1 := []) (wr := (tW a T fo st_3)) hx hb hml hown hts (okX10_around z l D h_9) ⟨va_cnB 1 hts gX8_topSide_X10_around_n109 rfl rfl rfl (hX.nest 2 rfl) wi_X10 (hdX10_around).2 ⟨Nat.le_of_ble_eq_true rfl, Nat.le_of_ble_eq_true rfl⟩, ws_X10_around, trivial⟩ (hK.sub [] rfl) hA hX hP hD hS (List.Perm.refl _) (List.Perm.refl _) rfl hl.1 rfl (Nat.le_of_ble_eq_true rfl) dX8_topSide_19 ⟨Nat.le_of_ble_eq_true rfl, Nat.le_of_ble_eq_true rfl⟩ (fun H locs hP hD hS => ?_)
    refine lv_istore_n (lv' := [(3, .int y_8), (0, .ref (a 0)), (1, .int v1), (2, .int v2)]) hx hb dX8_topSide_22 rfl hl (by decide) rfl (fun ls hl => ?_)
    refine lv_iload_n hx hb dX8_topSide_23 rfl (lv_at hl 0 rfl) ?_
    refine lv_if_ne (tgt := 29) hx hb dX8_topSide_24 (by decide) (fun c_10 => ?_) (fun c_10 => ?_)
    · have heq := it_f c_10 heq
      refine lv_iload_n hx hb dX8_topSide_29 rfl (lv_at hl 0 rfl) ?_
      refine lv_bipush (v := (6 : Int32)) hx hb dX8_topSide_30 (by decide) ?_
      refine lv_icmp_gt (tgt := 41) hx hb dX8_topSide_32 (by decide) (fun c_11 => ?_) (fun c_11 => ?_)
      · have heq := it_t c_11 heq
        refine lv_iload_n hx hb dX8_topSide_41 rfl (lv_at hl 2 rfl) ?_
        refine lv_iconst (v := (1 : Int32)) hx hb dX8_topSide_42 (by decide) ?_
        refine lv_isub hx hb dX8_topSide_43 ?_
        exact b44 st_3 (v1 - (1 : Int32)) H locs ls hP hD hS (lv_sub hl [] rfl) heq
      have heq := it_f c_11 heq
      refine lv_iload_n hx hb dX8_topSide_35 rfl (lv_at hl 2 rfl) ?_
      refine lv_iconst (v := (1 : Int32)) hx hb dX8_topSide_36 (by decide) ?_
      refine lv_iadd hx hb dX8_topSide_37 ?_
      refine lv_goto (tgt := 44) hx hb dX8_topSide_38 (by decide) ?_
      exact b44 st_3 (v1 + (1 : Int32)) H locs ls hP hD hS (lv_sub hl [] rfl) heq
    have heq := it_t c_10 heq
    refine lv_iload_n hx hb dX8_topSide_27 rfl (lv_at hl 2 rfl) ?_
    obtain ⟨heq, heq2⟩ := ret_h heq
    subst heq
    subst heq2
    exact hret 28 H locs ls hP hD hS rfl dX8_topSide_28
  have heq := it_t c_6 heq
  refine lv_bipush (v := (-4 : Int32)) hx hb dX8_topSide_8 (by decide) ?_
  obtain ⟨heq, heq2⟩ := ret_h heq
  subst heq
  subst heq2
  exact hret 10 H locs ls hP hD hS rfl dX8_topSide_10
theorem dX8_topFar_0 : decode cX8_topFar 0 = .ok (.aload_n 0, 1) := by decide +kernel
theorem dX8_topFar_1 : decode cX8_topFar 1 = .ok (.getfield 24, 3) := by decide +kernel
theorem dX8_topFar_4 : decode cX8_topFar 4 = .ok (.iconst 5, 1) := by decide +kernel
theorem dX8_topFar_5 : decode cX8_topFar 5 = .ok (.iaload, 1) := by decide +kernel
theorem dX8_topFar_6 : decode cX8_topFar 6 = .ok (.iconst 3, 1) := by decide +kernel
theorem dX8_topFar_7 : decode cX8_topFar 7 = .ok (.idiv, 1) := by decide +kernel
theorem dX8_topFar_8 : decode cX8_topFar 8 = .ok (.istore_n 1, 1) := by decide +kernel
theorem dX8_topFar_9 : decode cX8_topFar 9 = .ok (.aload_n 0, 1) := by decide +kernel
theorem dX8_topFar_10 : decode cX8_topFar 10 = .ok (.getfield 24, 3) := by decide +kernel
theorem dX8_topFar_13 : decode cX8_topFar 13 = .ok (.iconst 5, 1) := by decide +kernel
theorem dX8_topFar_14 : decode cX8_topFar 14 = .ok (.iaload, 1) := by decide +kernel
theorem dX8_topFar_15 : decode cX8_topFar 15 = .ok (.iload_n 1, 1) := by decide +kernel
theorem dX8_topFar_16 : decode cX8_topFar 16 = .ok (.iconst 2, 1) := by decide +kernel
theorem dX8_topFar_17 : decode cX8_topFar 17 = .ok (.idiv, 1) := by decide +kernel
theorem dX8_topFar_18 : decode cX8_topFar 18 = .ok (.iadd, 1) := by decide +kernel
theorem dX8_topFar_19 : decode cX8_topFar 19 = .ok (.ireturn, 1) := by decide +kernel
/-! X8 topFar -/
def X8_topFar (st : MS) : Option (Int32 × MS) :=
    inr (5 : Int32) 7 <|
    dvi (3 : Int32) <|
    nm (((gA st 3 (5 : Int32).toNatClampNeg) / (3 : Int32))) fun x_3 =>
    inr (5 : Int32) 7 <|
    dvi (2 : Int32) <|
    some (((gA st 3 (5 : Int32).toNatClampNeg) + (x_3 / (2 : Int32))), st)
abbrev rmX8_topFar : Room := { frames := 0, cells := 0, slots := 0, locals := 0 }
theorem hdX8_topFar : yX8_topFar.cls = RX8 ∧ yX8_topFar.cls ≠ "java/lang/invoke/MethodHandle" ∧ yX8_topFar.cls ≠ "java/lang/invoke/VarHandle" ∧ (parseMethodDescriptor yX8_topFar.desc).map (fun d => d.parameters.length) = some 0 := by decide +kernel
set_option maxRecDepth 100000 in
set_option maxHeartbeats 4000000 in
theorem okX8_topFar (z : Nat → Nat) (l : Launch) (D : va_G) (a : Nat → Nat) (T : mT3) (fo : Nat → Option Nat) {st : MS} {r : Int32} {st' : MS} (heq : X8_topFar st = some (r, st')) : hCi z l D (cT T) yX8_topFar wsX8_topFar rmX8_topFar [.ref (a 0)] (tW a T fo st) r (tW a T fo st') := by
  refine h_body_i (plainFor_of_name (by decide)) rfl (Nat.le_of_ble_eq_true rfl) (fun p e s m args below meth c A Q hx hb hml hown hts hK hA hX hret ls hP hD hS hl => ?_)
  have hl : lv_has ls 2 [(0, .ref (a 0))] := hl
  have hin : ∀ w ∈ wsX80, w ∈ wsX8_topFar := fun w h => List.mem_cons_of_mem _ (List.mem_append_right _ h)
  have f24 : (Cond.fieldLink RX8 24 RX8 (TX8 3).2.1 (TX8 3).2.2.1).before args s = true := hts (.fieldLink RX8 24 RX8 "told" "[I") (by decide +kernel)
  obtain ⟨H, hH⟩ : ∃ H, H = s.heap := ⟨_, rfl⟩
  obtain ⟨locs, hlocs⟩ : ∃ z : List Loc, z = [] := ⟨_, rfl⟩
  have hS : va_S A s.heap H locs := by rw [hH, hlocs]; exact hS
  have hP : va_P D vwCl (tW a T fo st) H := by rw [hH]; exact hP
  suffices h9 : W p l e rmX8_topFar s m args below meth c H locs 0 0 Q (F0 m 0 ls []) by rw [hH, hlocs] at h9; exact h9
  clear hH hlocs
  unfold X8_topFar at heq
  refine lv_aload_n hx hb dX8_topFar_0 rfl (lv_at hl 0 rfl) ?_
  refine tg (k := 3) (v := .ref (a 4)) hx hb hts hin hown hK hP (by decide) f24 rfl dX8_topFar_1 rfl ?_
  refine lv_iconst (v := (5 : Int32)) hx hb dX8_topFar_4 (by decide) ?_
  obtain ⟨n_1, heq⟩ := inr_h heq
  refine tal (k := 3) (q := 4) (n := 7) hx hb hK hP rfl n_1 dX8_topFar_5 ?_
  refine lv_iconst (v := (3 : Int32)) hx hb dX8_topFar_6 (by decide) ?_
  obtain ⟨n_2, heq⟩ := dvi_h heq
  refine lv_idiv hx hb dX8_topFar_7 n_2 ?_
  refine lv_topi (fun x_3 ex_3 => ?_)
  have heq := nm_h ex_3 heq
  refine lv_istore_n (lv' := [(1, .int x_3), (0, .ref (a 0))]) hx hb dX8_topFar_8 rfl hl (by decide) rfl (fun ls hl => ?_)
  refine lv_aload_n hx hb dX8_topFar_9 rfl (lv_at hl 1 rfl) ?_
  refine tg (k := 3) (v := .ref (a 4)) hx hb hts hin hown hK hP (by decide) f24 rfl dX8_topFar_10 rfl ?_
  refine lv_iconst (v := (5 : Int32)) hx hb dX8_topFar_13 (by decide) ?_
  obtain ⟨n_4, heq⟩ := inr_h heq
  refine tal (k := 3) (q := 4) (n := 7) hx hb hK hP rfl n_4 dX8_topFar_14 ?_
  refine lv_iload_n hx hb dX8_topFar_15 rfl (lv_at hl 0 rfl) ?_
  refine lv_iconst (v := (2 : Int32)) hx hb dX8_topFar_16 (by decide) ?_
  obtain ⟨n_5, heq⟩ := dvi_h heq
  refine lv_idiv hx hb dX8_topFar_17 n_5 ?_
  refine lv_iadd hx hb dX8_topFar_18 ?_
  obtain ⟨heq, heq2⟩ := ret_h heq
  subst heq
  subst heq2
  exact hret 19 H locs ls hP hD hS rfl dX8_topFar_19
theorem dX8_kickFar_0 : decode cX8_kickFar 0 = .ok (.aload_n 0, 1) := by decide +kernel
theorem dX8_kickFar_1 : decode cX8_kickFar 1 = .ok (.getfield 24, 3) := by decide +kernel
theorem dX8_kickFar_4 : decode cX8_kickFar 4 = .ok (.iconst 5, 1) := by decide +kernel
theorem dX8_kickFar_5 : decode cX8_kickFar 5 = .ok (.iaload, 1) := by decide +kernel
theorem dX8_kickFar_6 : decode cX8_kickFar 6 = .ok (.bipush 6, 2) := by decide +kernel
theorem dX8_kickFar_8 : decode cX8_kickFar 8 = .ok (.idiv, 1) := by decide +kernel
theorem dX8_kickFar_9 : decode cX8_kickFar 9 = .ok (.ireturn, 1) := by decide +kernel
/-! X8 kickFar -/
def X8_kickFar (st : MS) : Option (Int32 × MS) :=
    inr (5 : Int32) 7 <|
    dvi (6 : Int32) <|
    some (((gA st 3 (5 : Int32).toNatClampNeg) / (6 : Int32)), st)
abbrev rmX8_kickFar : Room := { frames := 0, cells := 0, slots := 0, locals := 0 }
theorem hdX8_kickFar : yX8_kickFar.cls = RX8 ∧ yX8_kickFar.cls ≠ "java/lang/invoke/MethodHandle" ∧ yX8_kickFar.cls ≠ "java/lang/invoke/VarHandle" ∧ (parseMethodDescriptor yX8_kickFar.desc).map (fun d => d.parameters.length) = some 0 := by decide +kernel
set_option maxRecDepth 100000 in
set_option maxHeartbeats 4000000 in
theorem okX8_kickFar (z : Nat → Nat) (l : Launch) (D : va_G) (a : Nat → Nat) (T : mT3) (fo : Nat → Option Nat) {st : MS} {r : Int32} {st' : MS} (heq : X8_kickFar st = some (r, st')) : hCi z l D (cT T) yX8_kickFar wsX8_kickFar rmX8_kickFar [.ref (a 0)] (tW a T fo st) r (tW a T fo st') := by
  refine h_body_i (plainFor_of_name (by decide)) rfl (Nat.le_of_ble_eq_true rfl) (fun p e s m args below meth c A Q hx hb hml hown hts hK hA hX hret ls hP hD hS hl => ?_)
  have hl : lv_has ls 1 [(0, .ref (a 0))] := hl
  have hin : ∀ w ∈ wsX80, w ∈ wsX8_kickFar := fun w h => List.mem_cons_of_mem _ (List.mem_append_right _ h)
  have f24 : (Cond.fieldLink RX8 24 RX8 (TX8 3).2.1 (TX8 3).2.2.1).before args s = true := hts (.fieldLink RX8 24 RX8 "told" "[I") (by decide +kernel)
  obtain ⟨H, hH⟩ : ∃ H, H = s.heap := ⟨_, rfl⟩
  obtain ⟨locs, hlocs⟩ : ∃ z : List Loc, z = [] := ⟨_, rfl⟩
  have hS : va_S A s.heap H locs := by rw [hH, hlocs]; exact hS
  have hP : va_P D vwCl (tW a T fo st) H := by rw [hH]; exact hP
  suffices h9 : W p l e rmX8_kickFar s m args below meth c H locs 0 0 Q (F0 m 0 ls []) by rw [hH, hlocs] at h9; exact h9
  clear hH hlocs
  unfold X8_kickFar at heq
  refine lv_aload_n hx hb dX8_kickFar_0 rfl (lv_at hl 0 rfl) ?_
  refine tg (k := 3) (v := .ref (a 4)) hx hb hts hin hown hK hP (by decide) f24 rfl dX8_kickFar_1 rfl ?_
  refine lv_iconst (v := (5 : Int32)) hx hb dX8_kickFar_4 (by decide) ?_
  obtain ⟨n_1, heq⟩ := inr_h heq
  refine tal (k := 3) (q := 4) (n := 7) hx hb hK hP rfl n_1 dX8_kickFar_5 ?_
  refine lv_bipush (v := (6 : Int32)) hx hb dX8_kickFar_6 (by decide) ?_
  obtain ⟨n_2, heq⟩ := dvi_h heq
  refine lv_idiv hx hb dX8_kickFar_8 n_2 ?_
  obtain ⟨heq, heq2⟩ := ret_h heq
  subst heq
  subst heq2
  exact hret 9 H locs ls hP hD hS rfl dX8_kickFar_9
set_option maxRecDepth 20000 in
theorem ggX8_hitBy_X8_topSide : GoodIn wsX8_hitBy wsX8_topSide := goodIn_r _ [13, 4, 14, 15, 16, 12, 17, 18, 19, 20, 21, 22, 23, 24, 29, 30, 31, 32, 33, 34, 35, 36, 37, 38] (by decide +kernel) (by decide +kernel)
set_option maxRecDepth 20000 in
theorem gX8_hitBy_X8_topSide : GoodIn wsX8_hitBy (wsV RX8 112 RX8 yX8_topSide wsX8_topSide) := goodIn_app (goodIn_of _ (by decide +kernel)) ggX8_hitBy_X8_topSide
set_option maxRecDepth 20000 in
theorem ggX8_hitBy_X8_topFar : GoodIn wsX8_hitBy wsX8_topFar := goodIn_r _ [28, 4, 29, 30, 31, 32, 33, 34, 35, 36, 37, 38] (by decide +kernel) (by decide +kernel)
set_option maxRecDepth 20000 in
theorem gX8_hitBy_X8_topFar : GoodIn wsX8_hitBy (wsV RX8 115 RX8 yX8_topFar wsX8_topFar) := goodIn_app (goodIn_of _ (by decide +kernel)) ggX8_hitBy_X8_topFar
theorem dX8_hitBy_0 : decode cX8_hitBy 0 = .ok (.aload_n 0, 1) := by decide +kernel
theorem dX8_hitBy_1 : decode cX8_hitBy 1 = .ok (.iload_n 1, 1) := by decide +kernel
theorem dX8_hitBy_2 : decode cX8_hitBy 2 = .ok (.iload_n 2, 1) := by decide +kernel
theorem dX8_hitBy_3 : decode cX8_hitBy 3 = .ok (.invokevirtual 112, 3) := by decide +kernel
theorem dX8_hitBy_6 : decode cX8_hitBy 6 = .ok (.istore_n 3, 1) := by decide +kernel
theorem dX8_hitBy_7 : decode cX8_hitBy 7 = .ok (.iconst 0, 1) := by decide +kernel
theorem dX8_hitBy_8 : decode cX8_hitBy 8 = .ok (.istore 4, 2) := by decide +kernel
theorem dX8_hitBy_10 : decode cX8_hitBy 10 = .ok (.iconst 0, 1) := by decide +kernel
theorem dX8_hitBy_11 : decode cX8_hitBy 11 = .ok (.istore 5, 2) := by decide +kernel
theorem dX8_hitBy_13 : decode cX8_hitBy 13 = .ok (.iload 5, 2) := by decide +kernel
theorem dX8_hitBy_15 : decode cX8_hitBy 15 = .ok (.aload_n 0, 1) := by decide +kernel
theorem dX8_hitBy_16 : decode cX8_hitBy 16 = .ok (.getfield 40, 3) := by decide +kernel
theorem dX8_hitBy_19 : decode cX8_hitBy 19 = .ok (.if_icmp .ge 107, 3) := by decide +kernel
theorem dX8_hitBy_22 : decode cX8_hitBy 22 = .ok (.iload 5, 2) := by decide +kernel
theorem dX8_hitBy_24 : decode cX8_hitBy 24 = .ok (.bipush 6, 2) := by decide +kernel
theorem dX8_hitBy_26 : decode cX8_hitBy 26 = .ok (.if_icmp .ge 100, 3) := by decide +kernel
theorem dX8_hitBy_29 : decode cX8_hitBy 29 = .ok (.aload_n 0, 1) := by decide +kernel
theorem dX8_hitBy_30 : decode cX8_hitBy 30 = .ok (.getfield 27, 3) := by decide +kernel
theorem dX8_hitBy_33 : decode cX8_hitBy 33 = .ok (.iload 5, 2) := by decide +kernel
theorem dX8_hitBy_35 : decode cX8_hitBy 35 = .ok (.iaload, 1) := by decide +kernel
theorem dX8_hitBy_36 : decode cX8_hitBy 36 = .ok (.iload_n 1, 1) := by decide +kernel
theorem dX8_hitBy_37 : decode cX8_hitBy 37 = .ok (.if_icmp .ne 23, 3) := by decide +kernel
theorem dX8_hitBy_40 : decode cX8_hitBy 40 = .ok (.aload_n 0, 1) := by decide +kernel
theorem dX8_hitBy_41 : decode cX8_hitBy 41 = .ok (.getfield 30, 3) := by decide +kernel
theorem dX8_hitBy_44 : decode cX8_hitBy 44 = .ok (.iload 5, 2) := by decide +kernel
theorem dX8_hitBy_46 : decode cX8_hitBy 46 = .ok (.iaload, 1) := by decide +kernel
theorem dX8_hitBy_47 : decode cX8_hitBy 47 = .ok (.aload_n 0, 1) := by decide +kernel
theorem dX8_hitBy_48 : decode cX8_hitBy 48 = .ok (.getfield 24, 3) := by decide +kernel
theorem dX8_hitBy_51 : decode cX8_hitBy 51 = .ok (.iconst 5, 1) := by decide +kernel
theorem dX8_hitBy_52 : decode cX8_hitBy 52 = .ok (.iaload, 1) := by decide +kernel
theorem dX8_hitBy_53 : decode cX8_hitBy 53 = .ok (.if_icmp .gt 7, 3) := by decide +kernel
theorem dX8_hitBy_56 : decode cX8_hitBy 56 = .ok (.iconst 1, 1) := by decide +kernel
theorem dX8_hitBy_57 : decode cX8_hitBy 57 = .ok (.goto 4, 3) := by decide +kernel
theorem dX8_hitBy_60 : decode cX8_hitBy 60 = .ok (.iconst 0, 1) := by decide +kernel
theorem dX8_hitBy_61 : decode cX8_hitBy 61 = .ok (.istore 6, 2) := by decide +kernel
theorem dX8_hitBy_63 : decode cX8_hitBy 63 = .ok (.aload_n 0, 1) := by decide +kernel
theorem dX8_hitBy_64 : decode cX8_hitBy 64 = .ok (.getfield 27, 3) := by decide +kernel
theorem dX8_hitBy_67 : decode cX8_hitBy 67 = .ok (.iload 5, 2) := by decide +kernel
theorem dX8_hitBy_69 : decode cX8_hitBy 69 = .ok (.iaload, 1) := by decide +kernel
theorem dX8_hitBy_70 : decode cX8_hitBy 70 = .ok (.iload_n 3, 1) := by decide +kernel
theorem dX8_hitBy_71 : decode cX8_hitBy 71 = .ok (.if_icmp .ne 27, 3) := by decide +kernel
theorem dX8_hitBy_74 : decode cX8_hitBy 74 = .ok (.aload_n 0, 1) := by decide +kernel
theorem dX8_hitBy_75 : decode cX8_hitBy 75 = .ok (.getfield 30, 3) := by decide +kernel
theorem dX8_hitBy_78 : decode cX8_hitBy 78 = .ok (.iload 5, 2) := by decide +kernel
theorem dX8_hitBy_80 : decode cX8_hitBy 80 = .ok (.iaload, 1) := by decide +kernel
theorem dX8_hitBy_81 : decode cX8_hitBy 81 = .ok (.aload_n 0, 1) := by decide +kernel
theorem dX8_hitBy_82 : decode cX8_hitBy 82 = .ok (.invokevirtual 115, 3) := by decide +kernel
theorem dX8_hitBy_85 : decode cX8_hitBy 85 = .ok (.isub, 1) := by decide +kernel
theorem dX8_hitBy_86 : decode cX8_hitBy 86 = .ok (.invokestatic 118, 3) := by decide +kernel
theorem dX8_hitBy_89 : decode cX8_hitBy 89 = .ok (.bipush 10, 2) := by decide +kernel
theorem dX8_hitBy_91 : decode cX8_hitBy 91 = .ok (.if_icmp .gt 7, 3) := by decide +kernel
theorem dX8_hitBy_94 : decode cX8_hitBy 94 = .ok (.iconst 1, 1) := by decide +kernel
theorem dX8_hitBy_95 : decode cX8_hitBy 95 = .ok (.goto 4, 3) := by decide +kernel
theorem dX8_hitBy_98 : decode cX8_hitBy 98 = .ok (.iconst 0, 1) := by decide +kernel
theorem dX8_hitBy_99 : decode cX8_hitBy 99 = .ok (.istore 7, 2) := by decide +kernel
theorem dX8_hitBy_101 : decode cX8_hitBy 101 = .ok (.iload 6, 2) := by decide +kernel
theorem dX8_hitBy_103 : decode cX8_hitBy 103 = .ok (.ifCond .ne 8, 3) := by decide +kernel
theorem dX8_hitBy_106 : decode cX8_hitBy 106 = .ok (.iload 7, 2) := by decide +kernel
theorem dX8_hitBy_108 : decode cX8_hitBy 108 = .ok (.ifCond .eq 12, 3) := by decide +kernel
theorem dX8_hitBy_111 : decode cX8_hitBy 111 = .ok (.iload 4, 2) := by decide +kernel
theorem dX8_hitBy_113 : decode cX8_hitBy 113 = .ok (.iconst 1, 1) := by decide +kernel
theorem dX8_hitBy_114 : decode cX8_hitBy 114 = .ok (.iload 5, 2) := by decide +kernel
theorem dX8_hitBy_116 : decode cX8_hitBy 116 = .ok (.ishl, 1) := by decide +kernel
theorem dX8_hitBy_117 : decode cX8_hitBy 117 = .ok (.ior, 1) := by decide +kernel
theorem dX8_hitBy_118 : decode cX8_hitBy 118 = .ok (.istore 4, 2) := by decide +kernel
theorem dX8_hitBy_120 : decode cX8_hitBy 120 = .ok (.iinc 5 1, 3) := by decide +kernel
theorem dX8_hitBy_123 : decode cX8_hitBy 123 = .ok (.goto (-110), 3) := by decide +kernel
theorem dX8_hitBy_126 : decode cX8_hitBy 126 = .ok (.iload 4, 2) := by decide +kernel
theorem dX8_hitBy_128 : decode cX8_hitBy 128 = .ok (.ireturn, 1) := by decide +kernel
/-! X8 hitBy -/
def X8_hitBy_p120 (k13 : MS → Int32 → Int32 → Int32 → Int32 → Option (Int32 × MS)) (st : MS) (v1 : Int32) (v3 : Int32) (v4 : Int32) (v5 : Int32) : Option (Int32 × MS) :=
    nm (v5 + (1 : Int32)) fun x_1 =>
    k13 st v1 v3 v4 x_1
def X8_hitBy_p111 (k13 : MS → Int32 → Int32 → Int32 → Int32 → Option (Int32 × MS)) (st : MS) (v1 : Int32) (v3 : Int32) (v4 : Int32) (v5 : Int32) : Option (Int32 × MS) :=
    nm ((v4 ||| ((1 : Int32) <<< (v5 &&& 31)))) fun x_2 =>
    X8_hitBy_p120 k13 st v1 v3 x_2 v5
def X8_hitBy_p99 (k13 : MS → Int32 → Int32 → Int32 → Int32 → Option (Int32 × MS)) (st : MS) (v1 : Int32) (v3 : Int32) (v4 : Int32) (v5 : Int32) (v6 : Int32) (t0 : Int32) : Option (Int32 × MS) :=
    if v6 = 0 then
      (if t0 = 0 then
        (X8_hitBy_p120 k13 st v1 v3 v4 v5)
      else
      X8_hitBy_p111 k13 st v1 v3 v4 v5)
    else
    X8_hitBy_p111 k13 st v1 v3 v4 v5
def X8_hitBy_p98 (k13 : MS → Int32 → Int32 → Int32 → Int32 → Option (Int32 × MS)) (st : MS) (v1 : Int32) (v3 : Int32) (v4 : Int32) (v5 : Int32) (v6 : Int32) : Option (Int32 × MS) :=
    X8_hitBy_p99 k13 st v1 v3 v4 v5 v6 (0 : Int32)
def X8_hitBy_p61 (k13 : MS → Int32 → Int32 → Int32 → Int32 → Option (Int32 × MS)) (st : MS) (v1 : Int32) (v3 : Int32) (v4 : Int32) (v5 : Int32) (t0 : Int32) : Option (Int32 × MS) :=
    inr v5 6 <|
    if (gA st 4 v5.toNatClampNeg) = v3 then
      (inr v5 6 <|
      bnd (X8_topFar st) fun y_9 st_8 =>
      nm (if 0 ≤ ((gA st 5 v5.toNatClampNeg) - y_9) then ((gA st 5 v5.toNatClampNeg) - y_9) else 0 - ((gA st 5 v5.toNatClampNeg) - y_9)) fun x_11 =>
      if (10 : Int32) < x_11 then
        (X8_hitBy_p98 k13 st_8 v1 v3 v4 v5 t0)
      else
      X8_hitBy_p99 k13 st_8 v1 v3 v4 v5 t0 (1 : Int32))
    else
    X8_hitBy_p98 k13 st v1 v3 v4 v5 t0
def X8_hitBy_p60 (k13 : MS → Int32 → Int32 → Int32 → Int32 → Option (Int32 × MS)) (st : MS) (v1 : Int32) (v3 : Int32) (v4 : Int32) (v5 : Int32) : Option (Int32 × MS) :=
    X8_hitBy_p61 k13 st v1 v3 v4 v5 (0 : Int32)
def X8_hitBy_p126 (st : MS) (v4 : Int32) : Option (Int32 × MS) :=
    some (v4, st)
def X8_hitBy_p13 : Nat → MS → Int32 → Int32 → Int32 → Int32 → Option (Int32 × MS)
  | 0, _, _, _, _, _ => none
  | n + 1, st, v1, v3, v4, v5 =>
    if (gF st 6) ≤ v5 then
      (X8_hitBy_p126 st v4)
    else
    if (6 : Int32) ≤ v5 then
      (X8_hitBy_p126 st v4)
    else
    inr v5 6 <|
    if (gA st 4 v5.toNatClampNeg) = v1 then
      (inr v5 6 <|
      inr (5 : Int32) 7 <|
      if (gA st 3 (5 : Int32).toNatClampNeg) < (gA st 5 v5.toNatClampNeg) then
        (X8_hitBy_p60 (fun st v1 v3 v4 v5 => X8_hitBy_p13  n st v1 v3 v4 v5) st v1 v3 v4 v5)
      else
      X8_hitBy_p61 (fun st v1 v3 v4 v5 => X8_hitBy_p13  n st v1 v3 v4 v5) st v1 v3 v4 v5 (1 : Int32))
    else
    X8_hitBy_p60 (fun st v1 v3 v4 v5 => X8_hitBy_p13  n st v1 v3 v4 v5) st v1 v3 v4 v5
theorem X8_hitBy_p13_s (n : Nat) (st : MS) (v1 : Int32) (v3 : Int32) (v4 : Int32) (v5 : Int32) : X8_hitBy_p13  (n + 1) st v1 v3 v4 v5 =
    (if (gF st 6) ≤ v5 then
      (X8_hitBy_p126 st v4)
    else
    if (6 : Int32) ≤ v5 then
      (X8_hitBy_p126 st v4)
    else
    inr v5 6 <|
    if (gA st 4 v5.toNatClampNeg) = v1 then
      (inr v5 6 <|
      inr (5 : Int32) 7 <|
      if (gA st 3 (5 : Int32).toNatClampNeg) < (gA st 5 v5.toNatClampNeg) then
        (X8_hitBy_p60 (fun st v1 v3 v4 v5 => X8_hitBy_p13  n st v1 v3 v4 v5) st v1 v3 v4 v5)
      else
      X8_hitBy_p61 (fun st v1 v3 v4 v5 => X8_hitBy_p13  n st v1 v3 v4 v5) st v1 v3 v4 v5 (1 : Int32))
    else
    X8_hitBy_p60 (fun st v1 v3 v4 v5 => X8_hitBy_p13  n st v1 v3 v4 v5) st v1 v3 v4 v5) := rfl
def X8_hitBy (st : MS) (v1 : Int32) (v2 : Int32) : Option (Int32 × MS) :=
    bnd (X8_topSide st v1 v2) fun y_21 st_20 =>
    X8_hitBy_p13 5000 st_20 v1 y_21 (0 : Int32) (0 : Int32)
abbrev rmX8_hitBy : Room := { frames := 3, cells := 0, slots := 0, locals := 65 }
theorem hdX8_hitBy : yX8_hitBy.cls = RX8 ∧ yX8_hitBy.cls ≠ "java/lang/invoke/MethodHandle" ∧ yX8_hitBy.cls ≠ "java/lang/invoke/VarHandle" ∧ (parseMethodDescriptor yX8_hitBy.desc).map (fun d => d.parameters.length) = some 2 := by decide +kernel
set_option maxRecDepth 100000 in
set_option maxHeartbeats 4000000 in
theorem okX8_hitBy (z : Nat → Nat) (l : Launch) (D : va_G) (a : Nat → Nat) (T : mT3) (fo : Nat → Option Nat) {st : MS} {v1 : Int32} {v2 : Int32} {r : Int32} {st' : MS} (heq : X8_hitBy st v1 v2 = some (r, st')) : hCi z l D (cT T) yX8_hitBy wsX8_hitBy rmX8_hitBy [.ref (a 0), .int v1, .int v2] (tW a T fo st) r (tW a T fo st') := by
  refine h_body_i (plainFor_of_name (by decide)) rfl (Nat.le_of_ble_eq_true rfl) (fun p e s m args below meth c A Q hx hb hml hown hts hK hA hX hret ls hP hD hS hl => ?_)
  have hl : lv_has ls 8 [(0, .ref (a 0)), (1, .int v1), (2, .int v2)] := hl
  have hin : ∀ w ∈ wsX80, w ∈ wsX8_hitBy := fun w h => List.mem_cons_of_mem _ (List.mem_append_right _ h)
  have f24 : (Cond.fieldLink RX8 24 RX8 (TX8 3).2.1 (TX8 3).2.2.1).before args s = true := hts (.fieldLink RX8 24 RX8 "told" "[I") (by decide +kernel)
  have f27 : (Cond.fieldLink RX8 27 RX8 (TX8 4).2.1 (TX8 4).2.2.1).before args s = true := hts (.fieldLink RX8 27 RX8 "houseSide" "[I") (by decide +kernel)
  have f30 : (Cond.fieldLink RX8 30 RX8 (TX8 5).2.1 (TX8 5).2.2.1).before args s = true := hts (.fieldLink RX8 30 RX8 "houseFar" "[I") (by decide +kernel)
  have f40 : (Cond.fieldLink RX8 40 RX8 (TX8 6).2.1 (TX8 6).2.2.1).before args s = true := hts (.fieldLink RX8 40 RX8 "houses" "I") (by decide +kernel)
  have m118_0 := hts (.methodLink RX8 118 Lib.Math.abs.name) (by decide +kernel)
  have m118_1 := hts (.static Lib.Math.abs.name) (by decide +kernel)
  have m118_2 := hts (.initialized "java/lang/Math") (by decide +kernel)
  have m118_3 := hts (.code Lib.Math.abs.name Lib.Math.abs.code 1 (some .int)) (by decide +kernel)
  have b120 : ∀ (k13 : MS → Int32 → Int32 → Int32 → Int32 → Option (Int32 × MS)) (hk13 : ∀ (st : MS) (v1 : Int32) (v3 : Int32) (v4 : Int32) (v5 : Int32) (H : Heap) (locs : List Loc) (ls : Array Slot), va_P D vwCl (tW a T fo st) H → va_D A (tW a T fo st) → va_S A s.heap H locs → lv_has ls 8 [(0, .ref (a 0)), (1, .int v1), (3, .int v3), (4, .int v4), (5, .int v5)] → k13 st v1 v3 v4 v5 = some (r, st') → W p l e rmX8_hitBy s m args below meth c H locs 0 0 Q (F0 m 13 ls [])), ∀ (st : MS) (v1 : Int32) (v3 : Int32) (v4 : Int32) (v5 : Int32) (H : Heap) (locs : List Loc) (ls : Array Slot), va_P D vwCl (tW a T fo st) H → va_D A (tW a T fo st) → va_S A s.heap H locs → lv_has ls 8 [(0, .ref (a 0)), (1, .int v1), (3, .int v3), (4, .int v4), (5, .int v5)] → X8_hitBy_p120 k13 st v1 v3 v4 v5 = some (r, st') → W p l e rmX8_hitBy s m args below meth c H locs 0 0 Q (F0 m 120 ls []) := by
    intro k13 hk13 st v1 v3 v4 v5 H locs ls hP hD hS hl heq
    unfold X8_hitBy_p120 at heq
    obtain ⟨x_1, ex_1⟩ : ∃ y : Int32, y = v5 + (1 : Int32) := ⟨_, rfl⟩
    have heq := nm_h ex_1 heq
    refine lv_iinc (v := x_1) (lv' := [(5, .int x_1), (0, .ref (a 0)), (1, .int v1), (3, .int v3), (4, .int v4)]) hx hb dX8_hitBy_120 hl (k := 4) rfl (by rw [ex_1]; rfl) (by decide) rfl (fun ls hl => ?_)
    refine lv_goto (tgt := 13) hx hb dX8_hitBy_123 (by decide) ?_
    exact hk13 st v1 v3 v4 x_1 H locs ls hP hD hS (lv_sub hl [1, 2, 3, 4, 0] rfl) heq
  have b111 : ∀ (k13 : MS → Int32 → Int32 → Int32 → Int32 → Option (Int32 × MS)) (hk13 : ∀ (st : MS) (v1 : Int32) (v3 : Int32) (v4 : Int32) (v5 : Int32) (H : Heap) (locs : List Loc) (ls : Array Slot), va_P D vwCl (tW a T fo st) H → va_D A (tW a T fo st) → va_S A s.heap H locs → lv_has ls 8 [(0, .ref (a 0)), (1, .int v1), (3, .int v3), (4, .int v4), (5, .int v5)] → k13 st v1 v3 v4 v5 = some (r, st') → W p l e rmX8_hitBy s m args below meth c H locs 0 0 Q (F0 m 13 ls [])), ∀ (st : MS) (v1 : Int32) (v3 : Int32) (v4 : Int32) (v5 : Int32) (H : Heap) (locs : List Loc) (ls : Array Slot), va_P D vwCl (tW a T fo st) H → va_D A (tW a T fo st) → va_S A s.heap H locs → lv_has ls 8 [(0, .ref (a 0)), (1, .int v1), (3, .int v3), (4, .int v4), (5, .int v5)] → X8_hitBy_p111 k13 st v1 v3 v4 v5 = some (r, st') → W p l e rmX8_hitBy s m args below meth c H locs 0 0 Q (F0 m 111 ls []) := by
    intro k13 hk13 st v1 v3 v4 v5 H locs ls hP hD hS hl heq
    unfold X8_hitBy_p111 at heq
    refine lv_iload hx hb dX8_hitBy_111 (lv_at hl 3 rfl) ?_
    refine lv_iconst (v := (1 : Int32)) hx hb dX8_hitBy_113 (by decide) ?_
    refine lv_iload hx hb dX8_hitBy_114 (lv_at hl 4 rfl) ?_
    refine lv_ishl hx hb dX8_hitBy_116 ?_
    refine lv_ior hx hb dX8_hitBy_117 ?_
    refine lv_topi (fun x_2 ex_2 => ?_)
    have heq := nm_h ex_2 heq
    refine lv_istore (lv' := [(4, .int x_2), (0, .ref (a 0)), (1, .int v1), (3, .int v3), (5, .int v5)]) hx hb dX8_hitBy_118 hl (by decide) rfl (fun ls hl => ?_)
    exact b120 k13 hk13 st v1 v3 x_2 v5 H locs ls hP hD hS (lv_sub hl [1, 2, 3, 0, 4] rfl) heq
  have b99 : ∀ (k13 : MS → Int32 → Int32 → Int32 → Int32 → Option (Int32 × MS)) (hk13 : ∀ (st : MS) (v1 : Int32) (v3 : Int32) (v4 : Int32) (v5 : Int32) (H : Heap) (locs : List Loc) (ls : Array Slot), va_P D vwCl (tW a T fo st) H → va_D A (tW a T fo st) → va_S A s.heap H locs → lv_has ls 8 [(0, .ref (a 0)), (1, .int v1), (3, .int v3), (4, .int v4), (5, .int v5)] → k13 st v1 v3 v4 v5 = some (r, st') → W p l e rmX8_hitBy s m args below meth c H locs 0 0 Q (F0 m 13 ls [])), ∀ (st : MS) (v1 : Int32) (v3 : Int32) (v4 : Int32) (v5 : Int32) (v6 : Int32) (t0 : Int32) (H : Heap) (locs : List Loc) (ls : Array Slot), va_P D vwCl (tW a T fo st) H → va_D A (tW a T fo st) → va_S A s.heap H locs → lv_has ls 8 [(0, .ref (a 0)), (1, .int v1), (3, .int v3), (4, .int v4), (5, .int v5), (6, .int v6)] → X8_hitBy_p99 k13 st v1 v3 v4 v5 v6 t0 = some (r, st') → W p l e rmX8_hitBy s m args below meth c H locs 0 0 Q (F0 m 99 ls [.int t0]) := by
    intro k13 hk13 st v1 v3 v4 v5 v6 t0 H locs ls hP hD hS hl heq
    unfold X8_hitBy_p99 at heq
    refine lv_istore (lv' := [(7, .int t0), (0, .ref (a 0)), (1, .int v1), (3, .int v3), (4, .int v4), (5, .int v5), (6, .int v6)]) hx hb dX8_hitBy_99 hl (by decide) rfl (fun ls hl => ?_)
    refine lv_iload hx hb dX8_hitBy_101 (lv_at hl 6 rfl) ?_
    refine lv_if_ne (tgt := 111) hx hb dX8_hitBy_103 (by decide) (fun c_3 => ?_) (fun c_3 => ?_)
    · have heq := it_f c_3 heq
      exact b111 k13 hk13 st v1 v3 v4 v5 H locs ls hP hD hS (lv_sub hl [1, 2, 3, 4, 5] rfl) heq
    have heq := it_t c_3 heq
    refine lv_iload hx hb dX8_hitBy_106 (lv_at hl 0 rfl) ?_
    refine lv_if_eq (tgt := 120) hx hb dX8_hitBy_108 (by decide) (fun c_4 => ?_) (fun c_4 => ?_)
    · have heq := it_t c_4 heq
      exact b120 k13 hk13 st v1 v3 v4 v5 H locs ls hP hD hS (lv_sub hl [1, 2, 3, 4, 5] rfl) heq
    have heq := it_f c_4 heq
    exact b111 k13 hk13 st v1 v3 v4 v5 H locs ls hP hD hS (lv_sub hl [1, 2, 3, 4, 5] rfl) heq
  have b98 : ∀ (k13 : MS → Int32 → Int32 → Int32 → Int32 → Option (Int32 × MS)) (hk13 : ∀ (st : MS) (v1 : Int32) (v3 : Int32) (v4 : Int32) (v5 : Int32) (H : Heap) (locs : List Loc) (ls : Array Slot), va_P D vwCl (tW a T fo st) H → va_D A (tW a T fo st) → va_S A s.heap H locs → lv_has ls 8 [(0, .ref (a 0)), (1, .int v1), (3, .int v3), (4, .int v4), (5, .int v5)] → k13 st v1 v3 v4 v5 = some (r, st') → W p l e rmX8_hitBy s m args below meth c H locs 0 0 Q (F0 m 13 ls [])), ∀ (st : MS) (v1 : Int32) (v3 : Int32) (v4 : Int32) (v5 : Int32) (v6 : Int32) (H : Heap) (locs : List Loc) (ls : Array Slot), va_P D vwCl (tW a T fo st) H → va_D A (tW a T fo st) → va_S A s.heap H locs → lv_has ls 8 [(0, .ref (a 0)), (1, .int v1), (3, .int v3), (4, .int v4), (5, .int v5), (6, .int v6)] → X8_hitBy_p98 k13 st v1 v3 v4 v5 v6 = some (r, st') → W p l e rmX8_hitBy s m args below meth c H locs 0 0 Q (F0 m 98 ls []) := by
    intro k13 hk13 st v1 v3 v4 v5 v6 H locs ls hP hD hS hl heq
    unfold X8_hitBy_p98 at heq
    refine lv_iconst (v := (0 : Int32)) hx hb dX8_hitBy_98 (by decide) ?_
    exact b99 k13 hk13 st v1 v3 v4 v5 v6 (0 : Int32) H locs ls hP hD hS (lv_sub hl [0, 1, 2, 3, 4, 5] rfl) heq
  have b61 : ∀ (k13 : MS → Int32 → Int32 → Int32 → Int32 → Option (Int32 × MS)) (hk13 : ∀ (st : MS) (v1 : Int32) (v3 : Int32) (v4 : Int32) (v5 : Int32) (H : Heap) (locs : List Loc) (ls : Array Slot), va_P D vwCl (tW a T fo st) H → va_D A (tW a T fo st) → va_S A s.heap H locs → lv_has ls 8 [(0, .ref (a 0)), (1, .int v1), (3, .int v3), (4, .int v4), (5, .int v5)] → k13 st v1 v3 v4 v5 = some (r, st') → W p l e rmX8_hitBy s m args below meth c H locs 0 0 Q (F0 m 13 ls [])), ∀ (st : MS) (v1 : Int32) (v3 : Int32) (v4 : Int32) (v5 : Int32) (t0 : Int32) (H : Heap) (locs : List Loc) (ls : Array Slot), va_P D vwCl (tW a T fo st) H → va_D A (tW a T fo st) → va_S A s.heap H locs → lv_has ls 8 [(0, .ref (a 0)), (1, .int v1), (3, .int v3), (4, .int v4), (5, .int v5)] → X8_hitBy_p61 k13 st v1 v3 v4 v5 t0 = some (r, st') → W p l e rmX8_hitBy s m args below meth c H locs 0 0 Q (F0 m 61 ls [.int t0]) := by
    intro k13 hk13 st v1 v3 v4 v5 t0 H locs ls hP hD hS hl heq
    unfold X8_hitBy_p61 at heq
    refine lv_istore (lv' := [(6, .int t0), (0, .ref (a 0)), (1, .int v1), (3, .int v3), (4, .int v4), (5, .int v5)]) hx hb dX8_hitBy_61 hl (by decide) rfl (fun ls hl => ?_)
    refine lv_aload_n hx hb dX8_hitBy_63 rfl (lv_at hl 1 rfl) ?_
    refine tg (k := 4) (v := .ref (a 5)) hx hb hts hin hown hK hP (by decide) f27 rfl dX8_hitBy_64 rfl ?_
    refine lv_iload hx hb dX8_hitBy_67 (lv_at hl 5 rfl) ?_
    obtain ⟨n_5, heq⟩ := inr_h heq
    refine tal (k := 4) (q := 5) (n := 6) hx hb hK hP rfl n_5 dX8_hitBy_69 ?_
    refine lv_iload_n hx hb dX8_hitBy_70 rfl (lv_at hl 3 rfl) ?_
    refine lv_icmp_ne (tgt := 98) hx hb dX8_hitBy_71 (by decide) (fun c_6 => ?_) (fun c_6 => ?_)
    · have heq := it_f c_6 heq
      exact b98 k13 hk13 st v1 v3 v4 v5 t0 H locs ls hP hD hS (lv_sub hl [1, 2, 3, 4, 5, 0] rfl) heq
    have heq := it_t c_6 heq
    refine lv_aload_n hx hb dX8_hitBy_74 rfl (lv_at hl 1 rfl) ?_
    refine tg (k := 5) (v := .ref (a 6)) hx hb hts hin hown hK hP (by decide) f30 rfl dX8_hitBy_75 rfl ?_
    refine lv_iload hx hb dX8_hitBy_78 (lv_at hl 5 rfl) ?_
    obtain ⟨n_7, heq⟩ := inr_h heq
    refine tal (k := 5) (q := 6) (n := 6) hx hb hK hP rfl n_7 dX8_hitBy_80 ?_
    refine lv_aload_n hx hb dX8_hitBy_81 rfl (lv_at hl 1 rfl) ?_
    obtain ⟨y_9, st_8, h_10, heq⟩ := bnd_h heq
    refine h_vi (own := RX8) (As := []) (rest := [.int (gA st 5 v5.toNatClampNeg)]) (wr := []) hx hb hml hown hts (okX8_topFar z l D a T fo h_10) (cwV 0 hts gX8_hitBy_X8_topFar rfl rfl rfl hdX8_topFar ⟨Nat.le_of_ble_eq_true rfl, Nat.le_of_ble_eq_true rfl⟩) hK hA hX hP hD hS (perm_nil _) (perm_nil2 _) (ci := 8) (q0 := 0) rfl rfl rfl hl.1 rfl (Nat.le_of_ble_eq_true rfl) dX8_hitBy_82 ⟨Nat.le_of_ble_eq_true rfl, Nat.le_of_ble_eq_true rfl⟩ (fun H locs hP hD hS => ?_)
    refine lv_isub hx hb dX8_hitBy_85 ?_
    refine va_mabs hx hb (hml.trans hl.1.symm) hown m118_0 m118_1 m118_2 m118_3 (Nat.le_of_ble_eq_true rfl) (Nat.le_of_ble_eq_true rfl) (Nat.le_of_ble_eq_true rfl) (Nat.le_of_ble_eq_true rfl) dX8_hitBy_86 ?_
    refine lv_topi (fun x_11 ex_11 => ?_)
    have heq := nm_h ex_11 heq
    refine lv_bipush (v := (10 : Int32)) hx hb dX8_hitBy_89 (by decide) ?_
    refine lv_icmp_gt (tgt := 98) hx hb dX8_hitBy_91 (by decide) (fun c_12 => ?_) (fun c_12 => ?_)
    · have heq := it_t c_12 heq
      exact b98 k13 hk13 st_8 v1 v3 v4 v5 t0 H locs ls hP hD hS (lv_sub hl [1, 2, 3, 4, 5, 0] rfl) heq
    have heq := it_f c_12 heq
    refine lv_iconst (v := (1 : Int32)) hx hb dX8_hitBy_94 (by decide) ?_
    refine lv_goto (tgt := 99) hx hb dX8_hitBy_95 (by decide) ?_
    exact b99 k13 hk13 st_8 v1 v3 v4 v5 t0 (1 : Int32) H locs ls hP hD hS (lv_sub hl [1, 2, 3, 4, 5, 0] rfl) heq
  have b60 : ∀ (k13 : MS → Int32 → Int32 → Int32 → Int32 → Option (Int32 × MS)) (hk13 : ∀ (st : MS) (v1 : Int32) (v3 : Int32) (v4 : Int32) (v5 : Int32) (H : Heap) (locs : List Loc) (ls : Array Slot), va_P D vwCl (tW a T fo st) H → va_D A (tW a T fo st) → va_S A s.heap H locs → lv_has ls 8 [(0, .ref (a 0)), (1, .int v1), (3, .int v3), (4, .int v4), (5, .int v5)] → k13 st v1 v3 v4 v5 = some (r, st') → W p l e rmX8_hitBy s m args below meth c H locs 0 0 Q (F0 m 13 ls [])), ∀ (st : MS) (v1 : Int32) (v3 : Int32) (v4 : Int32) (v5 : Int32) (H : Heap) (locs : List Loc) (ls : Array Slot), va_P D vwCl (tW a T fo st) H → va_D A (tW a T fo st) → va_S A s.heap H locs → lv_has ls 8 [(0, .ref (a 0)), (1, .int v1), (3, .int v3), (4, .int v4), (5, .int v5)] → X8_hitBy_p60 k13 st v1 v3 v4 v5 = some (r, st') → W p l e rmX8_hitBy s m args below meth c H locs 0 0 Q (F0 m 60 ls []) := by
    intro k13 hk13 st v1 v3 v4 v5 H locs ls hP hD hS hl heq
    unfold X8_hitBy_p60 at heq
    refine lv_iconst (v := (0 : Int32)) hx hb dX8_hitBy_60 (by decide) ?_
    exact b61 k13 hk13 st v1 v3 v4 v5 (0 : Int32) H locs ls hP hD hS (lv_sub hl [0, 1, 2, 3, 4] rfl) heq
  have b126 : ∀ (st : MS) (v4 : Int32) (H : Heap) (locs : List Loc) (ls : Array Slot), va_P D vwCl (tW a T fo st) H → va_D A (tW a T fo st) → va_S A s.heap H locs → lv_has ls 8 [(4, .int v4)] → X8_hitBy_p126  st v4 = some (r, st') → W p l e rmX8_hitBy s m args below meth c H locs 0 0 Q (F0 m 126 ls []) := by
    intro st v4 H locs ls hP hD hS hl heq
    unfold X8_hitBy_p126 at heq
    refine lv_iload hx hb dX8_hitBy_126 (lv_at hl 0 rfl) ?_
    obtain ⟨heq, heq2⟩ := ret_h heq
    subst heq
    subst heq2
    exact hret 128 H locs ls hP hD hS rfl dX8_hitBy_128
  have b13 : ∀ (n : Nat), ∀ (st : MS) (v1 : Int32) (v3 : Int32) (v4 : Int32) (v5 : Int32) (H : Heap) (locs : List Loc) (ls : Array Slot), va_P D vwCl (tW a T fo st) H → va_D A (tW a T fo st) → va_S A s.heap H locs → lv_has ls 8 [(0, .ref (a 0)), (1, .int v1), (3, .int v3), (4, .int v4), (5, .int v5)] → X8_hitBy_p13  n st v1 v3 v4 v5 = some (r, st') → W p l e rmX8_hitBy s m args below meth c H locs 0 0 Q (F0 m 13 ls []) := by
    intro n
    induction n with
    | zero => intro st v1 v3 v4 v5 H locs ls hP hD hS hl heq; cases heq
    | succ n ih =>
      intro st v1 v3 v4 v5 H locs ls hP hD hS hl heq
      rw [X8_hitBy_p13_s] at heq
      refine lv_iload hx hb dX8_hitBy_13 (lv_at hl 4 rfl) ?_
      refine lv_aload_n hx hb dX8_hitBy_15 rfl (lv_at hl 0 rfl) ?_
      refine tg (k := 6) (v := .int (gF st 6)) hx hb hts hin hown hK hP (by decide) f40 rfl dX8_hitBy_16 rfl ?_
      refine lv_icmp_ge (tgt := 126) hx hb dX8_hitBy_19 (by decide) (fun c_13 => ?_) (fun c_13 => ?_)
      · have heq := it_t c_13 heq
        exact b126 st v4 H locs ls hP hD hS (lv_sub hl [3] rfl) heq
      have heq := it_f c_13 heq
      refine lv_iload hx hb dX8_hitBy_22 (lv_at hl 4 rfl) ?_
      refine lv_bipush (v := (6 : Int32)) hx hb dX8_hitBy_24 (by decide) ?_
      refine lv_icmp_ge (tgt := 126) hx hb dX8_hitBy_26 (by decide) (fun c_14 => ?_) (fun c_14 => ?_)
      · have heq := it_t c_14 heq
        exact b126 st v4 H locs ls hP hD hS (lv_sub hl [3] rfl) heq
      have heq := it_f c_14 heq
      refine lv_aload_n hx hb dX8_hitBy_29 rfl (lv_at hl 0 rfl) ?_
      refine tg (k := 4) (v := .ref (a 5)) hx hb hts hin hown hK hP (by decide) f27 rfl dX8_hitBy_30 rfl ?_
      refine lv_iload hx hb dX8_hitBy_33 (lv_at hl 4 rfl) ?_
      obtain ⟨n_15, heq⟩ := inr_h heq
      refine tal (k := 4) (q := 5) (n := 6) hx hb hK hP rfl n_15 dX8_hitBy_35 ?_
      refine lv_iload_n hx hb dX8_hitBy_36 rfl (lv_at hl 1 rfl) ?_
      refine lv_icmp_ne (tgt := 60) hx hb dX8_hitBy_37 (by decide) (fun c_16 => ?_) (fun c_16 => ?_)
      · have heq := it_f c_16 heq
        exact b60 (fun st v1 v3 v4 v5 => X8_hitBy_p13  n st v1 v3 v4 v5) ih st v1 v3 v4 v5 H locs ls hP hD hS (lv_sub hl [0, 1, 2, 3, 4] rfl) heq
      have heq := it_t c_16 heq
      refine lv_aload_n hx hb dX8_hitBy_40 rfl (lv_at hl 0 rfl) ?_
      refine tg (k := 5) (v := .ref (a 6)) hx hb hts hin hown hK hP (by decide) f30 rfl dX8_hitBy_41 rfl ?_
      refine lv_iload hx hb dX8_hitBy_44 (lv_at hl 4 rfl) ?_
      obtain ⟨n_17, heq⟩ := inr_h heq
      refine tal (k := 5) (q := 6) (n := 6) hx hb hK hP rfl n_17 dX8_hitBy_46 ?_
      refine lv_aload_n hx hb dX8_hitBy_47 rfl (lv_at hl 0 rfl) ?_
      refine tg (k := 3) (v := .ref (a 4)) hx hb hts hin hown hK hP (by decide) f24 rfl dX8_hitBy_48 rfl ?_
      refine lv_iconst (v := (5 : Int32)) hx hb dX8_hitBy_51 (by decide) ?_
      obtain ⟨n_18, heq⟩ := inr_h heq
      refine tal (k := 3) (q := 4) (n := 7) hx hb hK hP rfl n_18 dX8_hitBy_52 ?_
      refine lv_icmp_gt (tgt := 60) hx hb dX8_hitBy_53 (by decide) (fun c_19 => ?_) (fun c_19 => ?_)
      · have heq := it_t c_19 heq
        exact b60 (fun st v1 v3 v4 v5 => X8_hitBy_p13  n st v1 v3 v4 v5) ih st v1 v3 v4 v5 H locs ls hP hD hS (lv_sub hl [0, 1, 2, 3, 4] rfl) heq
      have heq := it_f c_19 heq
      refine lv_iconst (v := (1 : Int32)) hx hb dX8_hitBy_56 (by decide) ?_
      refine lv_goto (tgt := 61) hx hb dX8_hitBy_57 (by decide) ?_
      exact b61 (fun st v1 v3 v4 v5 => X8_hitBy_p13  n st v1 v3 v4 v5) ih st v1 v3 v4 v5 (1 : Int32) H locs ls hP hD hS (lv_sub hl [0, 1, 2, 3, 4] rfl) heq
  obtain ⟨H, hH⟩ : ∃ H, H = s.heap := ⟨_, rfl⟩
  obtain ⟨locs, hlocs⟩ : ∃ z : List Loc, z = [] := ⟨_, rfl⟩
  have hS : va_S A s.heap H locs := by rw [hH, hlocs]; exact hS
  have hP : va_P D vwCl (tW a T fo st) H := by rw [hH]; exact hP
  suffices h9 : W p l e rmX8_hitBy s m args below meth c H locs 0 0 Q (F0 m 0 ls []) by rw [hH, hlocs] at h9; exact h9
  clear hH hlocs
  unfold X8_hitBy at heq
  refine lv_aload_n hx hb dX8_hitBy_0 rfl (lv_at hl 0 rfl) ?_
  refine lv_iload_n hx hb dX8_hitBy_1 rfl (lv_at hl 1 rfl) ?_
  refine lv_iload_n hx hb dX8_hitBy_2 rfl (lv_at hl 2 rfl) ?_
  obtain ⟨y_21, st_20, h_22, heq⟩ := bnd_h heq
  refine h_vi (own := RX8) (As := [.int v1, .int v2]) (rest := []) (wr := []) hx hb hml hown hts (okX8_topSide z l D a T fo h_22) (cwV 2 hts gX8_hitBy_X8_topSide rfl rfl rfl hdX8_topSide ⟨Nat.le_of_ble_eq_true rfl, Nat.le_of_ble_eq_true rfl⟩) hK hA hX hP hD hS (perm_nil _) (perm_nil2 _) (ci := 8) (q0 := 0) rfl rfl rfl hl.1 rfl (Nat.le_of_ble_eq_true rfl) dX8_hitBy_3 ⟨Nat.le_of_ble_eq_true rfl, Nat.le_of_ble_eq_true rfl⟩ (fun H locs hP hD hS => ?_)
  refine lv_istore_n (lv' := [(3, .int y_21), (0, .ref (a 0)), (1, .int v1), (2, .int v2)]) hx hb dX8_hitBy_6 rfl hl (by decide) rfl (fun ls hl => ?_)
  refine lv_iconst (v := (0 : Int32)) hx hb dX8_hitBy_7 (by decide) ?_
  refine lv_istore (lv' := [(4, .int (0 : Int32)), (3, .int y_21), (0, .ref (a 0)), (1, .int v1), (2, .int v2)]) hx hb dX8_hitBy_8 hl (by decide) rfl (fun ls hl => ?_)
  refine lv_iconst (v := (0 : Int32)) hx hb dX8_hitBy_10 (by decide) ?_
  refine lv_istore (lv' := [(5, .int (0 : Int32)), (4, .int (0 : Int32)), (3, .int y_21), (0, .ref (a 0)), (1, .int v1), (2, .int v2)]) hx hb dX8_hitBy_11 hl (by decide) rfl (fun ls hl => ?_)
  exact b13 5000 st_20 v1 y_21 (0 : Int32) (0 : Int32) H locs ls hP hD hS (lv_sub hl [3, 4, 2, 1, 0] rfl) heq
set_option maxRecDepth 20000 in
theorem ggX8_kickedBy_X10_around : GoodIn wsX8_kickedBy wsX10_around := goodIn_r _ [6, 7, 8, 9, 10] (by decide +kernel) (by decide +kernel)
set_option maxRecDepth 20000 in
theorem gX8_kickedBy_X10_around_n109 : GoodIn wsX8_kickedBy (wsX10_around) := ggX8_kickedBy_X10_around
set_option maxRecDepth 20000 in
theorem ggX8_kickedBy_X8_kickFar : GoodIn wsX8_kickedBy wsX8_kickFar := goodIn_r _ [15, 16, 17, 18, 19, 20, 21, 22, 23, 24, 25, 26] (by decide +kernel) (by decide +kernel)
set_option maxRecDepth 20000 in
theorem gX8_kickedBy_X8_kickFar : GoodIn wsX8_kickedBy (wsV RX8 123 RX8 yX8_kickFar wsX8_kickFar) := goodIn_app (goodIn_of _ (by decide +kernel)) ggX8_kickedBy_X8_kickFar
theorem dX8_kickedBy_0 : decode cX8_kickedBy 0 = .ok (.iload_n 1, 1) := by decide +kernel
theorem dX8_kickedBy_1 : decode cX8_kickedBy 1 = .ok (.bipush 6, 2) := by decide +kernel
theorem dX8_kickedBy_3 : decode cX8_kickedBy 3 = .ok (.iadd, 1) := by decide +kernel
theorem dX8_kickedBy_4 : decode cX8_kickedBy 4 = .ok (.invokestatic 109, 3) := by decide +kernel
theorem dX8_kickedBy_7 : decode cX8_kickedBy 7 = .ok (.istore_n 2, 1) := by decide +kernel
theorem dX8_kickedBy_8 : decode cX8_kickedBy 8 = .ok (.iconst 0, 1) := by decide +kernel
theorem dX8_kickedBy_9 : decode cX8_kickedBy 9 = .ok (.istore_n 3, 1) := by decide +kernel
theorem dX8_kickedBy_10 : decode cX8_kickedBy 10 = .ok (.iconst 0, 1) := by decide +kernel
theorem dX8_kickedBy_11 : decode cX8_kickedBy 11 = .ok (.istore 4, 2) := by decide +kernel
theorem dX8_kickedBy_13 : decode cX8_kickedBy 13 = .ok (.iload 4, 2) := by decide +kernel
theorem dX8_kickedBy_15 : decode cX8_kickedBy 15 = .ok (.aload_n 0, 1) := by decide +kernel
theorem dX8_kickedBy_16 : decode cX8_kickedBy 16 = .ok (.getfield 40, 3) := by decide +kernel
theorem dX8_kickedBy_19 : decode cX8_kickedBy 19 = .ok (.if_icmp .ge 48, 3) := by decide +kernel
theorem dX8_kickedBy_22 : decode cX8_kickedBy 22 = .ok (.iload 4, 2) := by decide +kernel
theorem dX8_kickedBy_24 : decode cX8_kickedBy 24 = .ok (.bipush 6, 2) := by decide +kernel
theorem dX8_kickedBy_26 : decode cX8_kickedBy 26 = .ok (.if_icmp .ge 41, 3) := by decide +kernel
theorem dX8_kickedBy_29 : decode cX8_kickedBy 29 = .ok (.aload_n 0, 1) := by decide +kernel
theorem dX8_kickedBy_30 : decode cX8_kickedBy 30 = .ok (.getfield 27, 3) := by decide +kernel
theorem dX8_kickedBy_33 : decode cX8_kickedBy 33 = .ok (.iload 4, 2) := by decide +kernel
theorem dX8_kickedBy_35 : decode cX8_kickedBy 35 = .ok (.iaload, 1) := by decide +kernel
theorem dX8_kickedBy_36 : decode cX8_kickedBy 36 = .ok (.iload_n 2, 1) := by decide +kernel
theorem dX8_kickedBy_37 : decode cX8_kickedBy 37 = .ok (.if_icmp .ne 24, 3) := by decide +kernel
theorem dX8_kickedBy_40 : decode cX8_kickedBy 40 = .ok (.aload_n 0, 1) := by decide +kernel
theorem dX8_kickedBy_41 : decode cX8_kickedBy 41 = .ok (.getfield 30, 3) := by decide +kernel
theorem dX8_kickedBy_44 : decode cX8_kickedBy 44 = .ok (.iload 4, 2) := by decide +kernel
theorem dX8_kickedBy_46 : decode cX8_kickedBy 46 = .ok (.iaload, 1) := by decide +kernel
theorem dX8_kickedBy_47 : decode cX8_kickedBy 47 = .ok (.aload_n 0, 1) := by decide +kernel
theorem dX8_kickedBy_48 : decode cX8_kickedBy 48 = .ok (.invokevirtual 123, 3) := by decide +kernel
theorem dX8_kickedBy_51 : decode cX8_kickedBy 51 = .ok (.if_icmp .gt 10, 3) := by decide +kernel
theorem dX8_kickedBy_54 : decode cX8_kickedBy 54 = .ok (.iload_n 3, 1) := by decide +kernel
theorem dX8_kickedBy_55 : decode cX8_kickedBy 55 = .ok (.iconst 1, 1) := by decide +kernel
theorem dX8_kickedBy_56 : decode cX8_kickedBy 56 = .ok (.iload 4, 2) := by decide +kernel
theorem dX8_kickedBy_58 : decode cX8_kickedBy 58 = .ok (.ishl, 1) := by decide +kernel
theorem dX8_kickedBy_59 : decode cX8_kickedBy 59 = .ok (.ior, 1) := by decide +kernel
theorem dX8_kickedBy_60 : decode cX8_kickedBy 60 = .ok (.istore_n 3, 1) := by decide +kernel
theorem dX8_kickedBy_61 : decode cX8_kickedBy 61 = .ok (.iinc 4 1, 3) := by decide +kernel
theorem dX8_kickedBy_64 : decode cX8_kickedBy 64 = .ok (.goto (-51), 3) := by decide +kernel
theorem dX8_kickedBy_67 : decode cX8_kickedBy 67 = .ok (.iload_n 3, 1) := by decide +kernel
theorem dX8_kickedBy_68 : decode cX8_kickedBy 68 = .ok (.ireturn, 1) := by decide +kernel
/-! X8 kickedBy -/
def X8_kickedBy_p61 (k13 : MS → Int32 → Int32 → Int32 → Option (Int32 × MS)) (st : MS) (v2 : Int32) (v3 : Int32) (v4 : Int32) : Option (Int32 × MS) :=
    nm (v4 + (1 : Int32)) fun x_1 =>
    k13 st v2 v3 x_1
def X8_kickedBy_p67 (st : MS) (v3 : Int32) : Option (Int32 × MS) :=
    some (v3, st)
def X8_kickedBy_p13 : Nat → MS → Int32 → Int32 → Int32 → Option (Int32 × MS)
  | 0, _, _, _, _ => none
  | n + 1, st, v2, v3, v4 =>
    if (gF st 6) ≤ v4 then
      (X8_kickedBy_p67 st v3)
    else
    if (6 : Int32) ≤ v4 then
      (X8_kickedBy_p67 st v3)
    else
    inr v4 6 <|
    if (gA st 4 v4.toNatClampNeg) = v2 then
      (inr v4 6 <|
      bnd (X8_kickFar st) fun y_8 st_7 =>
      if y_8 < (gA st 5 v4.toNatClampNeg) then
        (X8_kickedBy_p61 (fun st v2 v3 v4 => X8_kickedBy_p13  n st v2 v3 v4) st_7 v2 v3 v4)
      else
      nm ((v3 ||| ((1 : Int32) <<< (v4 &&& 31)))) fun x_11 =>
      X8_kickedBy_p61 (fun st v2 v3 v4 => X8_kickedBy_p13  n st v2 v3 v4) st_7 v2 x_11 v4)
    else
    X8_kickedBy_p61 (fun st v2 v3 v4 => X8_kickedBy_p13  n st v2 v3 v4) st v2 v3 v4
theorem X8_kickedBy_p13_s (n : Nat) (st : MS) (v2 : Int32) (v3 : Int32) (v4 : Int32) : X8_kickedBy_p13  (n + 1) st v2 v3 v4 =
    (if (gF st 6) ≤ v4 then
      (X8_kickedBy_p67 st v3)
    else
    if (6 : Int32) ≤ v4 then
      (X8_kickedBy_p67 st v3)
    else
    inr v4 6 <|
    if (gA st 4 v4.toNatClampNeg) = v2 then
      (inr v4 6 <|
      bnd (X8_kickFar st) fun y_8 st_7 =>
      if y_8 < (gA st 5 v4.toNatClampNeg) then
        (X8_kickedBy_p61 (fun st v2 v3 v4 => X8_kickedBy_p13  n st v2 v3 v4) st_7 v2 v3 v4)
      else
      nm ((v3 ||| ((1 : Int32) <<< (v4 &&& 31)))) fun x_11 =>
      X8_kickedBy_p61 (fun st v2 v3 v4 => X8_kickedBy_p13  n st v2 v3 v4) st_7 v2 x_11 v4)
    else
    X8_kickedBy_p61 (fun st v2 v3 v4 => X8_kickedBy_p13  n st v2 v3 v4) st v2 v3 v4) := rfl
def X8_kickedBy (st : MS) (v1 : Int32) : Option (Int32 × MS) :=
    bd1 (X10_around (v1 + (6 : Int32))) fun y_12 =>
    X8_kickedBy_p13 5000 st y_12 (0 : Int32) (0 : Int32)
abbrev rmX8_kickedBy : Room := { frames := 2, cells := 0, slots := 0, locals := 42 }
theorem hdX8_kickedBy : yX8_kickedBy.cls = RX8 ∧ yX8_kickedBy.cls ≠ "java/lang/invoke/MethodHandle" ∧ yX8_kickedBy.cls ≠ "java/lang/invoke/VarHandle" ∧ (parseMethodDescriptor yX8_kickedBy.desc).map (fun d => d.parameters.length) = some 1 := by decide +kernel
set_option maxRecDepth 100000 in
set_option maxHeartbeats 4000000 in
theorem okX8_kickedBy (z : Nat → Nat) (l : Launch) (D : va_G) (a : Nat → Nat) (T : mT3) (fo : Nat → Option Nat) {st : MS} {v1 : Int32} {r : Int32} {st' : MS} (heq : X8_kickedBy st v1 = some (r, st')) : hCi z l D (cT T) yX8_kickedBy wsX8_kickedBy rmX8_kickedBy [.ref (a 0), .int v1] (tW a T fo st) r (tW a T fo st') := by
  refine h_body_i (plainFor_of_name (by decide)) rfl (Nat.le_of_ble_eq_true rfl) (fun p e s m args below meth c A Q hx hb hml hown hts hK hA hX hret ls hP hD hS hl => ?_)
  have hl : lv_has ls 5 [(0, .ref (a 0)), (1, .int v1)] := hl
  have hin : ∀ w ∈ wsX80, w ∈ wsX8_kickedBy := fun w h => List.mem_cons_of_mem _ (List.mem_append_right _ h)
  have f27 : (Cond.fieldLink RX8 27 RX8 (TX8 4).2.1 (TX8 4).2.2.1).before args s = true := hts (.fieldLink RX8 27 RX8 "houseSide" "[I") (by decide +kernel)
  have f30 : (Cond.fieldLink RX8 30 RX8 (TX8 5).2.1 (TX8 5).2.2.1).before args s = true := hts (.fieldLink RX8 30 RX8 "houseFar" "[I") (by decide +kernel)
  have f40 : (Cond.fieldLink RX8 40 RX8 (TX8 6).2.1 (TX8 6).2.2.1).before args s = true := hts (.fieldLink RX8 40 RX8 "houses" "I") (by decide +kernel)
  have wi_X10 : (Cond.initialized RX10).before args s = true := hts (.initialized RX10) (by decide +kernel)
  have ws_X10_around := hts (.static yX10_around) (by decide +kernel)
  have b61 : ∀ (k13 : MS → Int32 → Int32 → Int32 → Option (Int32 × MS)) (hk13 : ∀ (st : MS) (v2 : Int32) (v3 : Int32) (v4 : Int32) (H : Heap) (locs : List Loc) (ls : Array Slot), va_P D vwCl (tW a T fo st) H → va_D A (tW a T fo st) → va_S A s.heap H locs → lv_has ls 5 [(0, .ref (a 0)), (2, .int v2), (3, .int v3), (4, .int v4)] → k13 st v2 v3 v4 = some (r, st') → W p l e rmX8_kickedBy s m args below meth c H locs 0 0 Q (F0 m 13 ls [])), ∀ (st : MS) (v2 : Int32) (v3 : Int32) (v4 : Int32) (H : Heap) (locs : List Loc) (ls : Array Slot), va_P D vwCl (tW a T fo st) H → va_D A (tW a T fo st) → va_S A s.heap H locs → lv_has ls 5 [(0, .ref (a 0)), (2, .int v2), (3, .int v3), (4, .int v4)] → X8_kickedBy_p61 k13 st v2 v3 v4 = some (r, st') → W p l e rmX8_kickedBy s m args below meth c H locs 0 0 Q (F0 m 61 ls []) := by
    intro k13 hk13 st v2 v3 v4 H locs ls hP hD hS hl heq
    unfold X8_kickedBy_p61 at heq
    obtain ⟨x_1, ex_1⟩ : ∃ y : Int32, y = v4 + (1 : Int32) := ⟨_, rfl⟩
    have heq := nm_h ex_1 heq
    refine lv_iinc (v := x_1) (lv' := [(4, .int x_1), (0, .ref (a 0)), (2, .int v2), (3, .int v3)]) hx hb dX8_kickedBy_61 hl (k := 3) rfl (by rw [ex_1]; rfl) (by decide) rfl (fun ls hl => ?_)
    refine lv_goto (tgt := 13) hx hb dX8_kickedBy_64 (by decide) ?_
    exact hk13 st v2 v3 x_1 H locs ls hP hD hS (lv_sub hl [1, 2, 3, 0] rfl) heq
  have b67 : ∀ (st : MS) (v3 : Int32) (H : Heap) (locs : List Loc) (ls : Array Slot), va_P D vwCl (tW a T fo st) H → va_D A (tW a T fo st) → va_S A s.heap H locs → lv_has ls 5 [(3, .int v3)] → X8_kickedBy_p67  st v3 = some (r, st') → W p l e rmX8_kickedBy s m args below meth c H locs 0 0 Q (F0 m 67 ls []) := by
    intro st v3 H locs ls hP hD hS hl heq
    unfold X8_kickedBy_p67 at heq
    refine lv_iload_n hx hb dX8_kickedBy_67 rfl (lv_at hl 0 rfl) ?_
    obtain ⟨heq, heq2⟩ := ret_h heq
    subst heq
    subst heq2
    exact hret 68 H locs ls hP hD hS rfl dX8_kickedBy_68
  have b13 : ∀ (n : Nat), ∀ (st : MS) (v2 : Int32) (v3 : Int32) (v4 : Int32) (H : Heap) (locs : List Loc) (ls : Array Slot), va_P D vwCl (tW a T fo st) H → va_D A (tW a T fo st) → va_S A s.heap H locs → lv_has ls 5 [(0, .ref (a 0)), (2, .int v2), (3, .int v3), (4, .int v4)] → X8_kickedBy_p13  n st v2 v3 v4 = some (r, st') → W p l e rmX8_kickedBy s m args below meth c H locs 0 0 Q (F0 m 13 ls []) := by
    intro n
    induction n with
    | zero => intro st v2 v3 v4 H locs ls hP hD hS hl heq; cases heq
    | succ n ih =>
      intro st v2 v3 v4 H locs ls hP hD hS hl heq
      rw [X8_kickedBy_p13_s] at heq
      refine lv_iload hx hb dX8_kickedBy_13 (lv_at hl 3 rfl) ?_
      refine lv_aload_n hx hb dX8_kickedBy_15 rfl (lv_at hl 0 rfl) ?_
      refine tg (k := 6) (v := .int (gF st 6)) hx hb hts hin hown hK hP (by decide) f40 rfl dX8_kickedBy_16 rfl ?_
      refine lv_icmp_ge (tgt := 67) hx hb dX8_kickedBy_19 (by decide) (fun c_2 => ?_) (fun c_2 => ?_)
      · have heq := it_t c_2 heq
        exact b67 st v3 H locs ls hP hD hS (lv_sub hl [2] rfl) heq
      have heq := it_f c_2 heq
      refine lv_iload hx hb dX8_kickedBy_22 (lv_at hl 3 rfl) ?_
      refine lv_bipush (v := (6 : Int32)) hx hb dX8_kickedBy_24 (by decide) ?_
      refine lv_icmp_ge (tgt := 67) hx hb dX8_kickedBy_26 (by decide) (fun c_3 => ?_) (fun c_3 => ?_)
      · have heq := it_t c_3 heq
        exact b67 st v3 H locs ls hP hD hS (lv_sub hl [2] rfl) heq
      have heq := it_f c_3 heq
      refine lv_aload_n hx hb dX8_kickedBy_29 rfl (lv_at hl 0 rfl) ?_
      refine tg (k := 4) (v := .ref (a 5)) hx hb hts hin hown hK hP (by decide) f27 rfl dX8_kickedBy_30 rfl ?_
      refine lv_iload hx hb dX8_kickedBy_33 (lv_at hl 3 rfl) ?_
      obtain ⟨n_4, heq⟩ := inr_h heq
      refine tal (k := 4) (q := 5) (n := 6) hx hb hK hP rfl n_4 dX8_kickedBy_35 ?_
      refine lv_iload_n hx hb dX8_kickedBy_36 rfl (lv_at hl 1 rfl) ?_
      refine lv_icmp_ne (tgt := 61) hx hb dX8_kickedBy_37 (by decide) (fun c_5 => ?_) (fun c_5 => ?_)
      · have heq := it_f c_5 heq
        exact b61 (fun st v2 v3 v4 => X8_kickedBy_p13  n st v2 v3 v4) ih st v2 v3 v4 H locs ls hP hD hS (lv_sub hl [0, 1, 2, 3] rfl) heq
      have heq := it_t c_5 heq
      refine lv_aload_n hx hb dX8_kickedBy_40 rfl (lv_at hl 0 rfl) ?_
      refine tg (k := 5) (v := .ref (a 6)) hx hb hts hin hown hK hP (by decide) f30 rfl dX8_kickedBy_41 rfl ?_
      refine lv_iload hx hb dX8_kickedBy_44 (lv_at hl 3 rfl) ?_
      obtain ⟨n_6, heq⟩ := inr_h heq
      refine tal (k := 5) (q := 6) (n := 6) hx hb hK hP rfl n_6 dX8_kickedBy_46 ?_
      refine lv_aload_n hx hb dX8_kickedBy_47 rfl (lv_at hl 0 rfl) ?_
      obtain ⟨y_8, st_7, h_9, heq⟩ := bnd_h heq
      refine h_vi (own := RX8) (As := []) (rest := [.int (gA st 5 v4.toNatClampNeg)]) (wr := []) hx hb hml hown hts (okX8_kickFar z l D a T fo h_9) (cwV 0 hts gX8_kickedBy_X8_kickFar rfl rfl rfl hdX8_kickFar ⟨Nat.le_of_ble_eq_true rfl, Nat.le_of_ble_eq_true rfl⟩) hK hA hX hP hD hS (perm_nil _) (perm_nil2 _) (ci := 8) (q0 := 0) rfl rfl rfl hl.1 rfl (Nat.le_of_ble_eq_true rfl) dX8_kickedBy_48 ⟨Nat.le_of_ble_eq_true rfl, Nat.le_of_ble_eq_true rfl⟩ (fun H locs hP hD hS => ?_)
      refine lv_icmp_gt (tgt := 61) hx hb dX8_kickedBy_51 (by decide) (fun c_10 => ?_) (fun c_10 => ?_)
      · have heq := it_t c_10 heq
        exact b61 (fun st v2 v3 v4 => X8_kickedBy_p13  n st v2 v3 v4) ih st_7 v2 v3 v4 H locs ls hP hD hS (lv_sub hl [0, 1, 2, 3] rfl) heq
      have heq := it_f c_10 heq
      refine lv_iload_n hx hb dX8_kickedBy_54 rfl (lv_at hl 2 rfl) ?_
      refine lv_iconst (v := (1 : Int32)) hx hb dX8_kickedBy_55 (by decide) ?_
      refine lv_iload hx hb dX8_kickedBy_56 (lv_at hl 3 rfl) ?_
      refine lv_ishl hx hb dX8_kickedBy_58 ?_
      refine lv_ior hx hb dX8_kickedBy_59 ?_
      refine lv_topi (fun x_11 ex_11 => ?_)
      have heq := nm_h ex_11 heq
      refine lv_istore_n (lv' := [(3, .int x_11), (0, .ref (a 0)), (2, .int v2), (4, .int v4)]) hx hb dX8_kickedBy_60 rfl hl (by decide) rfl (fun ls hl => ?_)
      exact b61 (fun st v2 v3 v4 => X8_kickedBy_p13  n st v2 v3 v4) ih st_7 v2 x_11 v4 H locs ls hP hD hS (lv_sub hl [1, 2, 0, 3] rfl) heq
  obtain ⟨H, hH⟩ : ∃ H, H = s.heap := ⟨_, rfl⟩
  obtain ⟨locs, hlocs⟩ : ∃ z : List Loc, z = [] := ⟨_, rfl⟩
  have hS : va_S A s.heap H locs := by rw [hH, hlocs]; exact hS
  have hP : va_P D vwCl (tW a T fo st) H := by rw [hH]; exact hP
  suffices h9 : W p l e rmX8_kickedBy s m args below meth c H locs 0 0 Q (F0 m 0 ls []) by rw [hH, hlocs] at h9; exact h9
  clear hH hlocs
  unfold X8_kickedBy at heq
  refine lv_iload_n hx hb dX8_kickedBy_0 rfl (lv_at hl 1 rfl) ?_
  refine lv_bipush (v := (6 : Int32)) hx hb dX8_kickedBy_1 (by decide) ?_
  refine lv_iadd hx hb dX8_kickedBy_3 ?_
  obtain ⟨y_12, h_13, heq⟩ := bd1_h heq
  refine h_sni (own := RX8) (As := [.int (v1 + (6 : Int32))]) (rest := []) (w0 := []) (w1 := []) (wr := (tW a T fo st)) hx hb hml hown hts (okX10_around z l D h_13) ⟨va_cnB 1 hts gX8_kickedBy_X10_around_n109 rfl rfl rfl (hX.nest 2 rfl) wi_X10 (hdX10_around).2 ⟨Nat.le_of_ble_eq_true rfl, Nat.le_of_ble_eq_true rfl⟩, ws_X10_around, trivial⟩ (hK.sub [] rfl) hA hX hP hD hS (List.Perm.refl _) (List.Perm.refl _) rfl hl.1 rfl (Nat.le_of_ble_eq_true rfl) dX8_kickedBy_4 ⟨Nat.le_of_ble_eq_true rfl, Nat.le_of_ble_eq_true rfl⟩ (fun H locs hP hD hS => ?_)
  refine lv_istore_n (lv' := [(2, .int y_12), (0, .ref (a 0)), (1, .int v1)]) hx hb dX8_kickedBy_7 rfl hl (by decide) rfl (fun ls hl => ?_)
  refine lv_iconst (v := (0 : Int32)) hx hb dX8_kickedBy_8 (by decide) ?_
  refine lv_istore_n (lv' := [(3, .int (0 : Int32)), (2, .int y_12), (0, .ref (a 0)), (1, .int v1)]) hx hb dX8_kickedBy_9 rfl hl (by decide) rfl (fun ls hl => ?_)
  refine lv_iconst (v := (0 : Int32)) hx hb dX8_kickedBy_10 (by decide) ?_
  refine lv_istore (lv' := [(4, .int (0 : Int32)), (3, .int (0 : Int32)), (2, .int y_12), (0, .ref (a 0)), (1, .int v1)]) hx hb dX8_kickedBy_11 hl (by decide) rfl (fun ls hl => ?_)
  exact b13 5000 st y_12 (0 : Int32) (0 : Int32) H locs ls hP hD hS (lv_sub hl [3, 2, 1, 0] rfl) heq
set_option maxRecDepth 20000 in
theorem ggX8_struckBy_X8_hitBy : GoodIn wsX8_struckBy wsX8_hitBy := goodIn_r _ [5, 6, 7, 8, 9, 10, 11, 12, 13, 14, 15, 16, 4, 17, 18, 19, 20, 21, 22, 23, 24, 25, 26, 27, 28, 29, 30, 31, 32, 41, 42, 43, 44, 45, 46, 47, 48, 49, 50] (by decide +kernel) (by decide +kernel)
set_option maxRecDepth 20000 in
theorem gX8_struckBy_X8_hitBy : GoodIn wsX8_struckBy (wsV RX8 126 RX8 yX8_hitBy wsX8_hitBy) := goodIn_app (goodIn_of _ (by decide +kernel)) ggX8_struckBy_X8_hitBy
set_option maxRecDepth 20000 in
theorem ggX8_struckBy_X8_kickedBy : GoodIn wsX8_struckBy wsX8_kickedBy := goodIn_r _ [36, 6, 7, 8, 22, 23, 24, 25, 26, 27, 28, 37, 38, 39, 4, 40, 9, 41, 42, 43, 44, 45, 46, 47, 48, 49, 50] (by decide +kernel) (by decide +kernel)
set_option maxRecDepth 20000 in
theorem gX8_struckBy_X8_kickedBy : GoodIn wsX8_struckBy (wsV RX8 129 RX8 yX8_kickedBy wsX8_kickedBy) := goodIn_app (goodIn_of _ (by decide +kernel)) ggX8_struckBy_X8_kickedBy
theorem dX8_struckBy_0 : decode cX8_struckBy 0 = .ok (.aload_n 0, 1) := by decide +kernel
theorem dX8_struckBy_1 : decode cX8_struckBy 1 = .ok (.iload_n 1, 1) := by decide +kernel
theorem dX8_struckBy_2 : decode cX8_struckBy 2 = .ok (.iload_n 2, 1) := by decide +kernel
theorem dX8_struckBy_3 : decode cX8_struckBy 3 = .ok (.invokevirtual 126, 3) := by decide +kernel
theorem dX8_struckBy_6 : decode cX8_struckBy 6 = .ok (.aload_n 0, 1) := by decide +kernel
theorem dX8_struckBy_7 : decode cX8_struckBy 7 = .ok (.iload_n 1, 1) := by decide +kernel
theorem dX8_struckBy_8 : decode cX8_struckBy 8 = .ok (.invokevirtual 129, 3) := by decide +kernel
theorem dX8_struckBy_11 : decode cX8_struckBy 11 = .ok (.ior, 1) := by decide +kernel
theorem dX8_struckBy_12 : decode cX8_struckBy 12 = .ok (.ireturn, 1) := by decide +kernel
/-! X8 struckBy -/
def X8_struckBy (st : MS) (v1 : Int32) (v2 : Int32) : Option (Int32 × MS) :=
    bnd (X8_hitBy st v1 v2) fun y_2 st_1 =>
    bnd (X8_kickedBy st_1 v1) fun y_5 st_4 =>
    some ((y_2 ||| y_5), st_4)
abbrev rmX8_struckBy : Room := { frames := 4, cells := 0, slots := 0, locals := 92 }
theorem hdX8_struckBy : yX8_struckBy.cls = RX8 ∧ yX8_struckBy.cls ≠ "java/lang/invoke/MethodHandle" ∧ yX8_struckBy.cls ≠ "java/lang/invoke/VarHandle" ∧ (parseMethodDescriptor yX8_struckBy.desc).map (fun d => d.parameters.length) = some 2 := by decide +kernel
set_option maxRecDepth 100000 in
set_option maxHeartbeats 4000000 in
theorem okX8_struckBy (z : Nat → Nat) (l : Launch) (D : va_G) (a : Nat → Nat) (T : mT3) (fo : Nat → Option Nat) {st : MS} {v1 : Int32} {v2 : Int32} {r : Int32} {st' : MS} (heq : X8_struckBy st v1 v2 = some (r, st')) : hCi z l D (cT T) yX8_struckBy wsX8_struckBy rmX8_struckBy [.ref (a 0), .int v1, .int v2] (tW a T fo st) r (tW a T fo st') := by
  refine h_body_i (plainFor_of_name (by decide)) rfl (Nat.le_of_ble_eq_true rfl) (fun p e s m args below meth c A Q hx hb hml hown hts hK hA hX hret ls hP hD hS hl => ?_)
  have hl : lv_has ls 3 [(0, .ref (a 0)), (1, .int v1), (2, .int v2)] := hl
  obtain ⟨H, hH⟩ : ∃ H, H = s.heap := ⟨_, rfl⟩
  obtain ⟨locs, hlocs⟩ : ∃ z : List Loc, z = [] := ⟨_, rfl⟩
  have hS : va_S A s.heap H locs := by rw [hH, hlocs]; exact hS
  have hP : va_P D vwCl (tW a T fo st) H := by rw [hH]; exact hP
  suffices h9 : W p l e rmX8_struckBy s m args below meth c H locs 0 0 Q (F0 m 0 ls []) by rw [hH, hlocs] at h9; exact h9
  clear hH hlocs
  unfold X8_struckBy at heq
  refine lv_aload_n hx hb dX8_struckBy_0 rfl (lv_at hl 0 rfl) ?_
  refine lv_iload_n hx hb dX8_struckBy_1 rfl (lv_at hl 1 rfl) ?_
  refine lv_iload_n hx hb dX8_struckBy_2 rfl (lv_at hl 2 rfl) ?_
  obtain ⟨y_2, st_1, h_3, heq⟩ := bnd_h heq
  refine h_vi (own := RX8) (As := [.int v1, .int v2]) (rest := []) (wr := []) hx hb hml hown hts (okX8_hitBy z l D a T fo h_3) (cwV 2 hts gX8_struckBy_X8_hitBy rfl rfl rfl hdX8_hitBy ⟨Nat.le_of_ble_eq_true rfl, Nat.le_of_ble_eq_true rfl⟩) hK hA hX hP hD hS (perm_nil _) (perm_nil2 _) (ci := 8) (q0 := 0) rfl rfl rfl hl.1 rfl (Nat.le_of_ble_eq_true rfl) dX8_struckBy_3 ⟨Nat.le_of_ble_eq_true rfl, Nat.le_of_ble_eq_true rfl⟩ (fun H locs hP hD hS => ?_)
  refine lv_aload_n hx hb dX8_struckBy_6 rfl (lv_at hl 0 rfl) ?_
  refine lv_iload_n hx hb dX8_struckBy_7 rfl (lv_at hl 1 rfl) ?_
  obtain ⟨y_5, st_4, h_6, heq⟩ := bnd_h heq
  refine h_vi (own := RX8) (As := [.int v1]) (rest := [.int y_2]) (wr := []) hx hb hml hown hts (okX8_kickedBy z l D a T fo h_6) (cwV 1 hts gX8_struckBy_X8_kickedBy rfl rfl rfl hdX8_kickedBy ⟨Nat.le_of_ble_eq_true rfl, Nat.le_of_ble_eq_true rfl⟩) hK hA hX hP hD hS (perm_nil _) (perm_nil2 _) (ci := 8) (q0 := 0) rfl rfl rfl hl.1 rfl (Nat.le_of_ble_eq_true rfl) dX8_struckBy_8 ⟨Nat.le_of_ble_eq_true rfl, Nat.le_of_ble_eq_true rfl⟩ (fun H locs hP hD hS => ?_)
  refine lv_ior hx hb dX8_struckBy_11 ?_
  obtain ⟨heq, heq2⟩ := ret_h heq
  subst heq
  subst heq2
  exact hret 12 H locs ls hP hD hS rfl dX8_struckBy_12
