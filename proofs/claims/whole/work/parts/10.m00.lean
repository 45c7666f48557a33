theorem dX11_thrown_0 : decode cX11_thrown 0 = .ok (.aload_n 0, 1) := by decide +kernel
theorem dX11_thrown_1 : decode cX11_thrown 1 = .ok (.getfield 75, 3) := by decide +kernel
theorem dX11_thrown_4 : decode cX11_thrown 4 = .ok (.ireturn, 1) := by decide +kernel
/-! thrown -/
def X11_thrown (st : MS) : Option (Int32 × MS) :=
    some ((gF st 17), st)
abbrev rmX11_thrown : Room := { frames := 0, cells := 0, slots := 0, locals := 0 }
theorem hdX11_thrown : yX11_thrown.cls = RX11 ∧ yX11_thrown.cls ≠ "java/lang/invoke/MethodHandle" ∧ yX11_thrown.cls ≠ "java/lang/invoke/VarHandle" ∧ (parseMethodDescriptor yX11_thrown.desc).map (fun d => d.parameters.length) = some 0 := by decide +kernel
set_option maxRecDepth 100000 in
set_option maxHeartbeats 4000000 in
theorem okX11_thrown (l : Launch) (D : va_G) (a : Nat → Nat) (T : mT3) {st : MS} {r : Int32} {st' : MS} (heq : X11_thrown st = some (r, st')) : gCi l D (mT T) yX11_thrown wsX11_thrown rmX11_thrown [.ref (a 0)] (mW a T st) r (mW a T st') := by
  refine g_body_i (by decide) rfl (Nat.le_of_ble_eq_true rfl) (fun p e s m args below meth c A Q hx hb hml hown hts hK hA hret ls hP hD hS hl => ?_)
  have hl : lv_has ls 1 [(0, .ref (a 0))] := hl
  have hin : ∀ w ∈ wsX110, w ∈ wsX11_thrown := fun w h => List.mem_cons_of_mem _ (List.mem_append_right _ h)
  have f75 : (Cond.fieldLink RX11 75 RX11 (TX11 17).2.1 (TX11 17).2.2.1).before args s = true := hts (.fieldLink RX11 75 "LaidDownTheLaneModel" "thrown" "I") (by decide +kernel)
  obtain ⟨H, hH⟩ : ∃ H, H = s.heap := ⟨_, rfl⟩
  obtain ⟨locs, hlocs⟩ : ∃ z : List Loc, z = [] := ⟨_, rfl⟩
  have hS : va_S A s.heap H locs := by rw [hH, hlocs]; exact hS
  have hP : va_P D vwCl (mW a T st) H := by rw [hH]; exact hP
  suffices h9 : W p l e rmX11_thrown s m args below meth c H locs 0 0 Q (F0 m 0 ls []) by rw [hH, hlocs] at h9; exact h9
  clear hH hlocs
  unfold X11_thrown at heq
  refine lv_aload_n hx hb dX11_thrown_0 rfl (lv_at hl 0 rfl) ?_
  refine mg (k := 17) (v := .int (gF st 17)) hx hb hts hin hown hK hP (by decide) f75 rfl dX11_thrown_1 rfl ?_
  obtain ⟨heq, heq2⟩ := ret_h heq
  subst heq
  subst heq2
  exact hret 4 H locs ls hP hD hS rfl dX11_thrown_4
theorem dX11_in_0 : decode cX11_in 0 = .ok (.lload_n 0, 1) := by decide +kernel
theorem dX11_in_1 : decode cX11_in 1 = .ok (.lload_n 2, 1) := by decide +kernel
theorem dX11_in_2 : decode cX11_in 2 = .ok (.lcmp, 1) := by decide +kernel
theorem dX11_in_3 : decode cX11_in 3 = .ok (.ifCond .lt 14, 3) := by decide +kernel
theorem dX11_in_6 : decode cX11_in 6 = .ok (.lload_n 0, 1) := by decide +kernel
theorem dX11_in_7 : decode cX11_in 7 = .ok (.lload 4, 2) := by decide +kernel
theorem dX11_in_9 : decode cX11_in 9 = .ok (.lcmp, 1) := by decide +kernel
theorem dX11_in_10 : decode cX11_in 10 = .ok (.ifCond .gt 7, 3) := by decide +kernel
theorem dX11_in_13 : decode cX11_in 13 = .ok (.iconst 1, 1) := by decide +kernel
theorem dX11_in_14 : decode cX11_in 14 = .ok (.goto 4, 3) := by decide +kernel
theorem dX11_in_17 : decode cX11_in 17 = .ok (.iconst 0, 1) := by decide +kernel
theorem dX11_in_18 : decode cX11_in 18 = .ok (.ireturn, 1) := by decide +kernel
/-! in -/
def X11_in_p18 (t0 : Int32) : Option Int32 :=
    gz t0 <|
    some t0
def X11_in (v0 : Int64) (v2 : Int64) (v4 : Int64) : Option Int32 :=
    if (lg_cmp v0 v2) < 0 then
      (X11_in_p18 (0 : Int32))
    else
    if 0 < (lg_cmp v0 v4) then
      (X11_in_p18 (0 : Int32))
    else
    X11_in_p18 (1 : Int32)
abbrev rmX11_in : Room := { frames := 0, cells := 0, slots := 0, locals := 0 }
theorem hdX11_in : yX11_in.cls = RX11 ∧ yX11_in.cls ≠ "java/lang/invoke/MethodHandle" ∧ yX11_in.cls ≠ "java/lang/invoke/VarHandle" ∧ (parseMethodDescriptor yX11_in.desc).map (fun d => d.parameters.length) = some 3 := by decide +kernel
set_option maxRecDepth 100000 in
set_option maxHeartbeats 4000000 in
theorem okX11_in (l : Launch) (D : va_G) {v0 : Int64} {v2 : Int64} {v4 : Int64} {r : Int32} (heq : X11_in v0 v2 v4 = some r) : gCi l D [] yX11_in wsX11_in rmX11_in [.long v0, .long v2, .long v4] [] r [] := by
  refine g_body_i (by decide) rfl (Nat.le_of_ble_eq_true rfl) (fun p e s m args below meth c A Q hx hb hml hown hts hK hA hret ls hP hD hS hl => ?_)
  have hl : lv_has ls 6 [(0, .long v0), (2, .long v2), (4, .long v4)] := hl
  have b18 : ∀ (t0 : Int32) (H : Heap) (locs : List Loc) (ls : Array Slot), va_P D vwCl [] H → va_D A [] → va_S A s.heap H locs → lv_has ls 6 [] → X11_in_p18  t0 = some r → W p l e rmX11_in s m args below meth c H locs 0 0 Q (F0 m 18 ls [.int t0]) := by
    intro t0 H locs ls hP hD hS hl heq
    unfold X11_in_p18 at heq
    obtain ⟨n_1, _, heq⟩ := gz_h heq
    have heq := Option.some.inj heq
    subst heq
    exact hret 18 H locs ls hP hD hS n_1 dX11_in_18
  obtain ⟨H, hH⟩ : ∃ H, H = s.heap := ⟨_, rfl⟩
  obtain ⟨locs, hlocs⟩ : ∃ z : List Loc, z = [] := ⟨_, rfl⟩
  have hS : va_S A s.heap H locs := by rw [hH, hlocs]; exact hS
  have hP : va_P D vwCl [] H := by rw [hH]; exact hP
  suffices h9 : W p l e rmX11_in s m args below meth c H locs 0 0 Q (F0 m 0 ls []) by rw [hH, hlocs] at h9; exact h9
  clear hH hlocs
  unfold X11_in at heq
  refine lv_lload_n hx hb dX11_in_0 rfl (lv_at hl 0 rfl) ?_
  refine lv_lload_n hx hb dX11_in_1 rfl (lv_at hl 1 rfl) ?_
  refine W.lcmp hx hb dX11_in_2 ?_
  refine lv_if_lt (tgt := 17) hx hb dX11_in_3 (by decide) (fun c_2 => ?_) (fun c_2 => ?_)
  · have heq := it_t c_2 heq
    refine lv_iconst (v := (0 : Int32)) hx hb dX11_in_17 (by decide) ?_
    exact b18 (0 : Int32) H locs ls hP hD hS (lv_sub hl [] rfl) heq
  have heq := it_f c_2 heq
  refine lv_lload_n hx hb dX11_in_6 rfl (lv_at hl 0 rfl) ?_
  refine lv_lload hx hb dX11_in_7 (lv_at hl 2 rfl) ?_
  refine W.lcmp hx hb dX11_in_9 ?_
  refine lv_if_gt (tgt := 17) hx hb dX11_in_10 (by decide) (fun c_3 => ?_) (fun c_3 => ?_)
  · have heq := it_t c_3 heq
    refine lv_iconst (v := (0 : Int32)) hx hb dX11_in_17 (by decide) ?_
    exact b18 (0 : Int32) H locs ls hP hD hS (lv_sub hl [] rfl) heq
  have heq := it_f c_3 heq
  refine lv_iconst (v := (1 : Int32)) hx hb dX11_in_13 (by decide) ?_
  refine lv_goto (tgt := 18) hx hb dX11_in_14 (by decide) ?_
  exact b18 (1 : Int32) H locs ls hP hD hS (lv_sub hl [] rfl) heq
set_option maxRecDepth 20000 in
theorem ggX11_isSide_X11_in : GoodIn wsX11_isSide wsX11_in := goodIn_r _ [5] (by decide +kernel) (by decide +kernel)
set_option maxRecDepth 20000 in
theorem gX11_isSide_X11_in : GoodIn wsX11_isSide (va_wsS RX11 81 yX11_in wsX11_in) := goodIn_app (goodIn_of _ (by decide +kernel)) ggX11_isSide_X11_in
theorem dX11_isSide_0 : decode cX11_isSide 0 = .ok (.iload_n 0, 1) := by decide +kernel
theorem dX11_isSide_1 : decode cX11_isSide 1 = .ok (.i2l, 1) := by decide +kernel
theorem dX11_isSide_2 : decode cX11_isSide 2 = .ok (.lconst 0, 1) := by decide +kernel
theorem dX11_isSide_3 : decode cX11_isSide 3 = .ok (.ldc2_w 79, 3) := by decide +kernel
theorem dX11_isSide_6 : decode cX11_isSide 6 = .ok (.invokestatic 81, 3) := by decide +kernel
theorem dX11_isSide_9 : decode cX11_isSide 9 = .ok (.ireturn, 1) := by decide +kernel
/-! isSide -/
def X11_isSide (v0 : Int32) : Option Int32 :=
    bd1 (X11_in (v0.toInt64) (0 : Int64) (11 : Int64)) fun y_1 =>
    gz y_1 <|
    some y_1
abbrev rmX11_isSide : Room := { frames := 1, cells := 0, slots := 0, locals := 25 }
theorem hdX11_isSide : yX11_isSide.cls = RX11 ∧ yX11_isSide.cls ≠ "java/lang/invoke/MethodHandle" ∧ yX11_isSide.cls ≠ "java/lang/invoke/VarHandle" ∧ (parseMethodDescriptor yX11_isSide.desc).map (fun d => d.parameters.length) = some 1 := by decide +kernel
set_option maxRecDepth 100000 in
set_option maxHeartbeats 4000000 in
theorem okX11_isSide (l : Launch) (D : va_G) {v0 : Int32} {r : Int32} (heq : X11_isSide v0 = some r) : gCi l D [] yX11_isSide wsX11_isSide rmX11_isSide [.int v0] [] r [] := by
  refine g_body_i (by decide) rfl (Nat.le_of_ble_eq_true rfl) (fun p e s m args below meth c A Q hx hb hml hown hts hK hA hret ls hP hD hS hl => ?_)
  have hl : lv_has ls 1 [(0, .int v0)] := hl
  have c79 := hts (.constantLong RX11 79 (11)) (by decide +kernel)
  obtain ⟨H, hH⟩ : ∃ H, H = s.heap := ⟨_, rfl⟩
  obtain ⟨locs, hlocs⟩ : ∃ z : List Loc, z = [] := ⟨_, rfl⟩
  have hS : va_S A s.heap H locs := by rw [hH, hlocs]; exact hS
  have hP : va_P D vwCl [] H := by rw [hH]; exact hP
  suffices h9 : W p l e rmX11_isSide s m args below meth c H locs 0 0 Q (F0 m 0 ls []) by rw [hH, hlocs] at h9; exact h9
  clear hH hlocs
  unfold X11_isSide at heq
  refine lv_iload_n hx hb dX11_isSide_0 rfl (lv_at hl 0 rfl) ?_
  refine lv_i2l hx hb dX11_isSide_1 rfl ?_
  refine lv_lconst (v := (0 : Int64)) hx hb dX11_isSide_2 (by decide) ?_
  refine lv_ldc2 (v := (11 : Int64)) hx hb hown c79 dX11_isSide_3 ?_
  obtain ⟨y_1, h_2, heq⟩ := bd1_h heq
  refine g_si (own := RX11) (D := D) (As := [.long (v0.toInt64), .long (0 : Int64), .long (11 : Int64)]) (rest := []) hx hb hml hown hts (okX11_in l D h_2) (cwS 3 hts gX11_isSide_X11_in rfl rfl rfl hdX11_in ⟨Nat.le_of_ble_eq_true rfl, Nat.le_of_ble_eq_true rfl⟩) hK hA hP hS rfl hl.1 rfl (Nat.le_of_ble_eq_true rfl) dX11_isSide_6 ⟨Nat.le_of_ble_eq_true rfl, Nat.le_of_ble_eq_true rfl⟩ (fun H locs hP hS => ?_)
  obtain ⟨n_3, _, heq⟩ := gz_h heq
  have heq := Option.some.inj heq
  subst heq
  exact hret 9 H locs ls hP hD hS n_3 dX11_isSide_9
theorem dX11_hasBit_0 : decode cX11_hasBit 0 = .ok (.iload_n 0, 1) := by decide +kernel
theorem dX11_hasBit_1 : decode cX11_hasBit 1 = .ok (.iload_n 1, 1) := by decide +kernel
theorem dX11_hasBit_2 : decode cX11_hasBit 2 = .ok (.ishr, 1) := by decide +kernel
theorem dX11_hasBit_3 : decode cX11_hasBit 3 = .ok (.iconst 1, 1) := by decide +kernel
theorem dX11_hasBit_4 : decode cX11_hasBit 4 = .ok (.iand, 1) := by decide +kernel
theorem dX11_hasBit_5 : decode cX11_hasBit 5 = .ok (.iconst 1, 1) := by decide +kernel
theorem dX11_hasBit_6 : decode cX11_hasBit 6 = .ok (.if_icmp .ne 7, 3) := by decide +kernel
theorem dX11_hasBit_9 : decode cX11_hasBit 9 = .ok (.iconst 1, 1) := by decide +kernel
theorem dX11_hasBit_10 : decode cX11_hasBit 10 = .ok (.goto 4, 3) := by decide +kernel
theorem dX11_hasBit_13 : decode cX11_hasBit 13 = .ok (.iconst 0, 1) := by decide +kernel
theorem dX11_hasBit_14 : decode cX11_hasBit 14 = .ok (.ireturn, 1) := by decide +kernel
/-! hasBit -/
def X11_hasBit_p14 (t0 : Int32) : Option Int32 :=
    gz t0 <|
    some t0
def X11_hasBit (v0 : Int32) (v1 : Int32) : Option Int32 :=
    if ((v0 >>> (v1 &&& 31)) &&& (1 : Int32)) = (1 : Int32) then
      (X11_hasBit_p14 (1 : Int32))
    else
    X11_hasBit_p14 (0 : Int32)
abbrev rmX11_hasBit : Room := { frames := 0, cells := 0, slots := 0, locals := 0 }
theorem hdX11_hasBit : yX11_hasBit.cls = RX11 ∧ yX11_hasBit.cls ≠ "java/lang/invoke/MethodHandle" ∧ yX11_hasBit.cls ≠ "java/lang/invoke/VarHandle" ∧ (parseMethodDescriptor yX11_hasBit.desc).map (fun d => d.parameters.length) = some 2 := by decide +kernel
set_option maxRecDepth 100000 in
set_option maxHeartbeats 4000000 in
theorem okX11_hasBit (l : Launch) (D : va_G) {v0 : Int32} {v1 : Int32} {r : Int32} (heq : X11_hasBit v0 v1 = some r) : gCi l D [] yX11_hasBit wsX11_hasBit rmX11_hasBit [.int v0, .int v1] [] r [] := by
  refine g_body_i (by decide) rfl (Nat.le_of_ble_eq_true rfl) (fun p e s m args below meth c A Q hx hb hml hown hts hK hA hret ls hP hD hS hl => ?_)
  have hl : lv_has ls 2 [(0, .int v0), (1, .int v1)] := hl
  have b14 : ∀ (t0 : Int32) (H : Heap) (locs : List Loc) (ls : Array Slot), va_P D vwCl [] H → va_D A [] → va_S A s.heap H locs → lv_has ls 2 [] → X11_hasBit_p14  t0 = some r → W p l e rmX11_hasBit s m args below meth c H locs 0 0 Q (F0 m 14 ls [.int t0]) := by
    intro t0 H locs ls hP hD hS hl heq
    unfold X11_hasBit_p14 at heq
    obtain ⟨n_1, _, heq⟩ := gz_h heq
    have heq := Option.some.inj heq
    subst heq
    exact hret 14 H locs ls hP hD hS n_1 dX11_hasBit_14
  obtain ⟨H, hH⟩ : ∃ H, H = s.heap := ⟨_, rfl⟩
  obtain ⟨locs, hlocs⟩ : ∃ z : List Loc, z = [] := ⟨_, rfl⟩
  have hS : va_S A s.heap H locs := by rw [hH, hlocs]; exact hS
  have hP : va_P D vwCl [] H := by rw [hH]; exact hP
  suffices h9 : W p l e rmX11_hasBit s m args below meth c H locs 0 0 Q (F0 m 0 ls []) by rw [hH, hlocs] at h9; exact h9
  clear hH hlocs
  unfold X11_hasBit at heq
  refine lv_iload_n hx hb dX11_hasBit_0 rfl (lv_at hl 0 rfl) ?_
  refine lv_iload_n hx hb dX11_hasBit_1 rfl (lv_at hl 1 rfl) ?_
  refine lv_ishr hx hb dX11_hasBit_2 ?_
  refine lv_iconst (v := (1 : Int32)) hx hb dX11_hasBit_3 (by decide) ?_
  refine lv_iand hx hb dX11_hasBit_4 ?_
  refine lv_iconst (v := (1 : Int32)) hx hb dX11_hasBit_5 (by decide) ?_
  refine lv_icmp_ne (tgt := 13) hx hb dX11_hasBit_6 (by decide) (fun c_2 => ?_) (fun c_2 => ?_)
  · have heq := it_f c_2 heq
    refine lv_iconst (v := (0 : Int32)) hx hb dX11_hasBit_13 (by decide) ?_
    exact b14 (0 : Int32) H locs ls hP hD hS (lv_sub hl [] rfl) heq
  have heq := it_t c_2 heq
  refine lv_iconst (v := (1 : Int32)) hx hb dX11_hasBit_9 (by decide) ?_
  refine lv_goto (tgt := 14) hx hb dX11_hasBit_10 (by decide) ?_
  exact b14 (1 : Int32) H locs ls hP hD hS (lv_sub hl [] rfl) heq
theorem dX11_onesOf_0 : decode cX11_onesOf 0 = .ok (.iconst 0, 1) := by decide +kernel
theorem dX11_onesOf_1 : decode cX11_onesOf 1 = .ok (.istore_n 1, 1) := by decide +kernel
theorem dX11_onesOf_2 : decode cX11_onesOf 2 = .ok (.iload_n 0, 1) := by decide +kernel
theorem dX11_onesOf_3 : decode cX11_onesOf 3 = .ok (.istore_n 2, 1) := by decide +kernel
theorem dX11_onesOf_4 : decode cX11_onesOf 4 = .ok (.iload_n 2, 1) := by decide +kernel
theorem dX11_onesOf_5 : decode cX11_onesOf 5 = .ok (.ifCond .eq 15, 3) := by decide +kernel
theorem dX11_onesOf_8 : decode cX11_onesOf 8 = .ok (.iinc 1 1, 3) := by decide +kernel
theorem dX11_onesOf_11 : decode cX11_onesOf 11 = .ok (.iload_n 2, 1) := by decide +kernel
theorem dX11_onesOf_12 : decode cX11_onesOf 12 = .ok (.iload_n 2, 1) := by decide +kernel
theorem dX11_onesOf_13 : decode cX11_onesOf 13 = .ok (.iconst 1, 1) := by decide +kernel
theorem dX11_onesOf_14 : decode cX11_onesOf 14 = .ok (.isub, 1) := by decide +kernel
theorem dX11_onesOf_15 : decode cX11_onesOf 15 = .ok (.iand, 1) := by decide +kernel
theorem dX11_onesOf_16 : decode cX11_onesOf 16 = .ok (.istore_n 2, 1) := by decide +kernel
theorem dX11_onesOf_17 : decode cX11_onesOf 17 = .ok (.goto (-13), 3) := by decide +kernel
theorem dX11_onesOf_20 : decode cX11_onesOf 20 = .ok (.iload_n 1, 1) := by decide +kernel
theorem dX11_onesOf_21 : decode cX11_onesOf 21 = .ok (.ireturn, 1) := by decide +kernel
/-! onesOf -/
def X11_onesOf_p20 (v1 : Int32) : Option Int32 :=
    some v1
def X11_onesOf_p4 : Nat → Int32 → Int32 → Option Int32
  | 0, _, _ => none
  | n + 1, v1, v2 =>
    if v2 = 0 then
      (X11_onesOf_p20 v1)
    else
    nm (v1 + (1 : Int32)) fun x_2 =>
    nm ((v2 &&& (v2 - (1 : Int32)))) fun x_3 =>
    X11_onesOf_p4  n x_2 x_3
theorem X11_onesOf_p4_s (n : Nat) (v1 : Int32) (v2 : Int32) : X11_onesOf_p4  (n + 1) v1 v2 =
    (if v2 = 0 then
      (X11_onesOf_p20 v1)
    else
    nm (v1 + (1 : Int32)) fun x_2 =>
    nm ((v2 &&& (v2 - (1 : Int32)))) fun x_3 =>
    X11_onesOf_p4  n x_2 x_3) := rfl
def X11_onesOf (v0 : Int32) : Option Int32 :=
    X11_onesOf_p4 5000 (0 : Int32) v0
abbrev rmX11_onesOf : Room := { frames := 0, cells := 0, slots := 0, locals := 0 }
theorem hdX11_onesOf : yX11_onesOf.cls = RX11 ∧ yX11_onesOf.cls ≠ "java/lang/invoke/MethodHandle" ∧ yX11_onesOf.cls ≠ "java/lang/invoke/VarHandle" ∧ (parseMethodDescriptor yX11_onesOf.desc).map (fun d => d.parameters.length) = some 1 := by decide +kernel
set_option maxRecDepth 100000 in
set_option maxHeartbeats 4000000 in
theorem okX11_onesOf (l : Launch) (D : va_G) {v0 : Int32} {r : Int32} (heq : X11_onesOf v0 = some r) : gCi l D [] yX11_onesOf wsX11_onesOf rmX11_onesOf [.int v0] [] r [] := by
  refine g_body_i (by decide) rfl (Nat.le_of_ble_eq_true rfl) (fun p e s m args below meth c A Q hx hb hml hown hts hK hA hret ls hP hD hS hl => ?_)
  have hl : lv_has ls 3 [(0, .int v0)] := hl
  have b20 : ∀ (v1 : Int32) (H : Heap) (locs : List Loc) (ls : Array Slot), va_P D vwCl [] H → va_D A [] → va_S A s.heap H locs → lv_has ls 3 [(1, .int v1)] → X11_onesOf_p20  v1 = some r → W p l e rmX11_onesOf s m args below meth c H locs 0 0 Q (F0 m 20 ls []) := by
    intro v1 H locs ls hP hD hS hl heq
    unfold X11_onesOf_p20 at heq
    refine lv_iload_n hx hb dX11_onesOf_20 rfl (lv_at hl 0 rfl) ?_
    have heq := Option.some.inj heq
    subst heq
    exact hret 21 H locs ls hP hD hS rfl dX11_onesOf_21
  have b4 : ∀ (n : Nat), ∀ (v1 : Int32) (v2 : Int32) (H : Heap) (locs : List Loc) (ls : Array Slot), va_P D vwCl [] H → va_D A [] → va_S A s.heap H locs → lv_has ls 3 [(1, .int v1), (2, .int v2)] → X11_onesOf_p4  n v1 v2 = some r → W p l e rmX11_onesOf s m args below meth c H locs 0 0 Q (F0 m 4 ls []) := by
    intro n
    induction n with
    | zero => intro v1 v2 H locs ls hP hD hS hl heq; cases heq
    | succ n ih =>
      intro v1 v2 H locs ls hP hD hS hl heq
      rw [X11_onesOf_p4_s] at heq
      refine lv_iload_n hx hb dX11_onesOf_4 rfl (lv_at hl 1 rfl) ?_
      refine lv_if_eq (tgt := 20) hx hb dX11_onesOf_5 (by decide) (fun c_1 => ?_) (fun c_1 => ?_)
      · have heq := it_t c_1 heq
        exact b20 v1 H locs ls hP hD hS (lv_sub hl [0] rfl) heq
      have heq := it_f c_1 heq
      obtain ⟨x_2, ex_2⟩ : ∃ y : Int32, y = v1 + (1 : Int32) := ⟨_, rfl⟩
      have heq := nm_h ex_2 heq
      refine lv_iinc (v := x_2) (lv' := [(1, .int x_2), (2, .int v2)]) hx hb dX11_onesOf_8 hl (k := 0) rfl (by rw [ex_2]; rfl) (by decide) rfl (fun ls hl => ?_)
      refine lv_iload_n hx hb dX11_onesOf_11 rfl (lv_at hl 1 rfl) ?_
      refine lv_iload_n hx hb dX11_onesOf_12 rfl (lv_at hl 1 rfl) ?_
      refine lv_iconst (v := (1 : Int32)) hx hb dX11_onesOf_13 (by decide) ?_
      refine lv_isub hx hb dX11_onesOf_14 ?_
      refine lv_iand hx hb dX11_onesOf_15 ?_
      refine lv_topi (fun x_3 ex_3 => ?_)
      have heq := nm_h ex_3 heq
      refine lv_istore_n (lv' := [(2, .int x_3), (1, .int x_2)]) hx hb dX11_onesOf_16 rfl hl (by decide) rfl (fun ls hl => ?_)
      refine lv_goto (tgt := 4) hx hb dX11_onesOf_17 (by decide) ?_
      exact ih x_2 x_3 H locs ls hP hD hS (lv_sub hl [1, 0] rfl) heq
  obtain ⟨H, hH⟩ : ∃ H, H = s.heap := ⟨_, rfl⟩
  obtain ⟨locs, hlocs⟩ : ∃ z : List Loc, z = [] := ⟨_, rfl⟩
  have hS : va_S A s.heap H locs := by rw [hH, hlocs]; exact hS
  have hP : va_P D vwCl [] H := by rw [hH]; exact hP
  suffices h9 : W p l e rmX11_onesOf s m args below meth c H locs 0 0 Q (F0 m 0 ls []) by rw [hH, hlocs] at h9; exact h9
  clear hH hlocs
  unfold X11_onesOf at heq
  refine lv_iconst (v := (0 : Int32)) hx hb dX11_onesOf_0 (by decide) ?_
  refine lv_istore_n (lv' := [(1, .int (0 : Int32)), (0, .int v0)]) hx hb dX11_onesOf_1 rfl hl (by decide) rfl (fun ls hl => ?_)
  refine lv_iload_n hx hb dX11_onesOf_2 rfl (lv_at hl 1 rfl) ?_
  refine lv_istore_n (lv' := [(2, .int v0), (1, .int (0 : Int32)), (0, .int v0)]) hx hb dX11_onesOf_3 rfl hl (by decide) rfl (fun ls hl => ?_)
  exact b4 5000 (0 : Int32) v0 H locs ls hP hD hS (lv_sub hl [1, 0] rfl) heq
theorem dX11_greater_0 : decode cX11_greater 0 = .ok (.iload_n 0, 1) := by decide +kernel
theorem dX11_greater_1 : decode cX11_greater 1 = .ok (.iload_n 1, 1) := by decide +kernel
theorem dX11_greater_2 : decode cX11_greater 2 = .ok (.if_icmp .le 7, 3) := by decide +kernel
theorem dX11_greater_5 : decode cX11_greater 5 = .ok (.iload_n 0, 1) := by decide +kernel
theorem dX11_greater_6 : decode cX11_greater 6 = .ok (.goto 4, 3) := by decide +kernel
theorem dX11_greater_9 : decode cX11_greater 9 = .ok (.iload_n 1, 1) := by decide +kernel
theorem dX11_greater_10 : decode cX11_greater 10 = .ok (.ireturn, 1) := by decide +kernel
/-! greater -/
def X11_greater_p10 (t0 : Int32) : Option Int32 :=
    some t0
def X11_greater (v0 : Int32) (v1 : Int32) : Option Int32 :=
    if v0 ≤ v1 then
      (X11_greater_p10 v1)
    else
    X11_greater_p10 v0
abbrev rmX11_greater : Room := { frames := 0, cells := 0, slots := 0, locals := 0 }
theorem hdX11_greater : yX11_greater.cls = RX11 ∧ yX11_greater.cls ≠ "java/lang/invoke/MethodHandle" ∧ yX11_greater.cls ≠ "java/lang/invoke/VarHandle" ∧ (parseMethodDescriptor yX11_greater.desc).map (fun d => d.parameters.length) = some 2 := by decide +kernel
set_option maxRecDepth 100000 in
set_option maxHeartbeats 4000000 in
theorem okX11_greater (l : Launch) (D : va_G) {v0 : Int32} {v1 : Int32} {r : Int32} (heq : X11_greater v0 v1 = some r) : gCi l D [] yX11_greater wsX11_greater rmX11_greater [.int v0, .int v1] [] r [] := by
  refine g_body_i (by decide) rfl (Nat.le_of_ble_eq_true rfl) (fun p e s m args below meth c A Q hx hb hml hown hts hK hA hret ls hP hD hS hl => ?_)
  have hl : lv_has ls 2 [(0, .int v0), (1, .int v1)] := hl
  have b10 : ∀ (t0 : Int32) (H : Heap) (locs : List Loc) (ls : Array Slot), va_P D vwCl [] H → va_D A [] → va_S A s.heap H locs → lv_has ls 2 [] → X11_greater_p10  t0 = some r → W p l e rmX11_greater s m args below meth c H locs 0 0 Q (F0 m 10 ls [.int t0]) := by
    intro t0 H locs ls hP hD hS hl heq
    unfold X11_greater_p10 at heq
    have heq := Option.some.inj heq
    subst heq
    exact hret 10 H locs ls hP hD hS rfl dX11_greater_10
  obtain ⟨H, hH⟩ : ∃ H, H = s.heap := ⟨_, rfl⟩
  obtain ⟨locs, hlocs⟩ : ∃ z : List Loc, z = [] := ⟨_, rfl⟩
  have hS : va_S A s.heap H locs := by rw [hH, hlocs]; exact hS
  have hP : va_P D vwCl [] H := by rw [hH]; exact hP
  suffices h9 : W p l e rmX11_greater s m args below meth c H locs 0 0 Q (F0 m 0 ls []) by rw [hH, hlocs] at h9; exact h9
  clear hH hlocs
  unfold X11_greater at heq
  refine lv_iload_n hx hb dX11_greater_0 rfl (lv_at hl 0 rfl) ?_
  refine lv_iload_n hx hb dX11_greater_1 rfl (lv_at hl 1 rfl) ?_
  refine lv_icmp_le (tgt := 9) hx hb dX11_greater_2 (by decide) (fun c_1 => ?_) (fun c_1 => ?_)
  · have heq := it_t c_1 heq
    refine lv_iload_n hx hb dX11_greater_9 rfl (lv_at hl 1 rfl) ?_
    exact b10 v1 H locs ls hP hD hS (lv_sub hl [] rfl) heq
  have heq := it_f c_1 heq
  refine lv_iload_n hx hb dX11_greater_5 rfl (lv_at hl 0 rfl) ?_
  refine lv_goto (tgt := 10) hx hb dX11_greater_6 (by decide) ?_
  exact b10 v0 H locs ls hP hD hS (lv_sub hl [] rfl) heq
theorem dX11_plainly_0 : decode cX11_plainly 0 = .ok (.iload_n 0, 1) := by decide +kernel
theorem dX11_plainly_1 : decode cX11_plainly 1 = .ok (.ifCond .ge 8, 3) := by decide +kernel
theorem dX11_plainly_4 : decode cX11_plainly 4 = .ok (.iload_n 0, 1) := by decide +kernel
theorem dX11_plainly_5 : decode cX11_plainly 5 = .ok (.ineg, 1) := by decide +kernel
theorem dX11_plainly_6 : decode cX11_plainly 6 = .ok (.goto 4, 3) := by decide +kernel
theorem dX11_plainly_9 : decode cX11_plainly 9 = .ok (.iload_n 0, 1) := by decide +kernel
theorem dX11_plainly_10 : decode cX11_plainly 10 = .ok (.ireturn, 1) := by decide +kernel
/-! plainly -/
def X11_plainly_p10 (t0 : Int32) : Option Int32 :=
    some t0
def X11_plainly (v0 : Int32) : Option Int32 :=
    if 0 ≤ v0 then
      (X11_plainly_p10 v0)
    else
    X11_plainly_p10 (-v0)
abbrev rmX11_plainly : Room := { frames := 0, cells := 0, slots := 0, locals := 0 }
theorem hdX11_plainly : yX11_plainly.cls = RX11 ∧ yX11_plainly.cls ≠ "java/lang/invoke/MethodHandle" ∧ yX11_plainly.cls ≠ "java/lang/invoke/VarHandle" ∧ (parseMethodDescriptor yX11_plainly.desc).map (fun d => d.parameters.length) = some 1 := by decide +kernel
set_option maxRecDepth 100000 in
set_option maxHeartbeats 4000000 in
theorem okX11_plainly (l : Launch) (D : va_G) {v0 : Int32} {r : Int32} (heq : X11_plainly v0 = some r) : gCi l D [] yX11_plainly wsX11_plainly rmX11_plainly [.int v0] [] r [] := by
  refine g_body_i (by decide) rfl (Nat.le_of_ble_eq_true rfl) (fun p e s m args below meth c A Q hx hb hml hown hts hK hA hret ls hP hD hS hl => ?_)
  have hl : lv_has ls 1 [(0, .int v0)] := hl
  have b10 : ∀ (t0 : Int32) (H : Heap) (locs : List Loc) (ls : Array Slot), va_P D vwCl [] H → va_D A [] → va_S A s.heap H locs → lv_has ls 1 [] → X11_plainly_p10  t0 = some r → W p l e rmX11_plainly s m args below meth c H locs 0 0 Q (F0 m 10 ls [.int t0]) := by
    intro t0 H locs ls hP hD hS hl heq
    unfold X11_plainly_p10 at heq
    have heq := Option.some.inj heq
    subst heq
    exact hret 10 H locs ls hP hD hS rfl dX11_plainly_10
  obtain ⟨H, hH⟩ : ∃ H, H = s.heap := ⟨_, rfl⟩
  obtain ⟨locs, hlocs⟩ : ∃ z : List Loc, z = [] := ⟨_, rfl⟩
  have hS : va_S A s.heap H locs := by rw [hH, hlocs]; exact hS
  have hP : va_P D vwCl [] H := by rw [hH]; exact hP
  suffices h9 : W p l e rmX11_plainly s m args below meth c H locs 0 0 Q (F0 m 0 ls []) by rw [hH, hlocs] at h9; exact h9
  clear hH hlocs
  unfold X11_plainly at heq
  refine lv_iload_n hx hb dX11_plainly_0 rfl (lv_at hl 0 rfl) ?_
  refine lv_if_ge (tgt := 9) hx hb dX11_plainly_1 (by decide) (fun c_1 => ?_) (fun c_1 => ?_)
  · have heq := it_t c_1 heq
    refine lv_iload_n hx hb dX11_plainly_9 rfl (lv_at hl 0 rfl) ?_
    exact b10 v0 H locs ls hP hD hS (lv_sub hl [] rfl) heq
  have heq := it_f c_1 heq
  refine lv_iload_n hx hb dX11_plainly_4 rfl (lv_at hl 0 rfl) ?_
  refine lv_ineg hx hb dX11_plainly_5 ?_
  refine lv_goto (tgt := 10) hx hb dX11_plainly_6 (by decide) ?_
  exact b10 (-v0) H locs ls hP hD hS (lv_sub hl [] rfl) heq
theorem dX11_alike_0 : decode cX11_alike 0 = .ok (.aload_n 0, 1) := by decide +kernel
theorem dX11_alike_1 : decode cX11_alike 1 = .ok (.getfield 7, 3) := by decide +kernel
theorem dX11_alike_4 : decode cX11_alike 4 = .ok (.iload_n 1, 1) := by decide +kernel
theorem dX11_alike_5 : decode cX11_alike 5 = .ok (.iaload, 1) := by decide +kernel
theorem dX11_alike_6 : decode cX11_alike 6 = .ok (.aload_n 0, 1) := by decide +kernel
theorem dX11_alike_7 : decode cX11_alike 7 = .ok (.getfield 7, 3) := by decide +kernel
theorem dX11_alike_10 : decode cX11_alike 10 = .ok (.iload_n 2, 1) := by decide +kernel
theorem dX11_alike_11 : decode cX11_alike 11 = .ok (.iaload, 1) := by decide +kernel
theorem dX11_alike_12 : decode cX11_alike 12 = .ok (.imul, 1) := by decide +kernel
theorem dX11_alike_13 : decode cX11_alike 13 = .ok (.aload_n 0, 1) := by decide +kernel
theorem dX11_alike_14 : decode cX11_alike 14 = .ok (.getfield 13, 3) := by decide +kernel
theorem dX11_alike_17 : decode cX11_alike 17 = .ok (.iload_n 1, 1) := by decide +kernel
theorem dX11_alike_18 : decode cX11_alike 18 = .ok (.iaload, 1) := by decide +kernel
theorem dX11_alike_19 : decode cX11_alike 19 = .ok (.aload_n 0, 1) := by decide +kernel
theorem dX11_alike_20 : decode cX11_alike 20 = .ok (.getfield 13, 3) := by decide +kernel
theorem dX11_alike_23 : decode cX11_alike 23 = .ok (.iload_n 2, 1) := by decide +kernel
theorem dX11_alike_24 : decode cX11_alike 24 = .ok (.iaload, 1) := by decide +kernel
theorem dX11_alike_25 : decode cX11_alike 25 = .ok (.imul, 1) := by decide +kernel
theorem dX11_alike_26 : decode cX11_alike 26 = .ok (.iadd, 1) := by decide +kernel
theorem dX11_alike_27 : decode cX11_alike 27 = .ok (.ireturn, 1) := by decide +kernel
/-! alike -/
def X11_alike (st : MS) (v1 : Int32) (v2 : Int32) : Option (Int32 × MS) :=
    inr v1 12 <|
    inr v2 12 <|
    inr v1 12 <|
    inr v2 12 <|
    some ((((gA st 0 v1.toNatClampNeg) * (gA st 0 v2.toNatClampNeg)) + ((gA st 1 v1.toNatClampNeg) * (gA st 1 v2.toNatClampNeg))), st)
abbrev rmX11_alike : Room := { frames := 0, cells := 0, slots := 0, locals := 0 }
theorem hdX11_alike : yX11_alike.cls = RX11 ∧ yX11_alike.cls ≠ "java/lang/invoke/MethodHandle" ∧ yX11_alike.cls ≠ "java/lang/invoke/VarHandle" ∧ (parseMethodDescriptor yX11_alike.desc).map (fun d => d.parameters.length) = some 2 := by decide +kernel
set_option maxRecDepth 100000 in
set_option maxHeartbeats 4000000 in
theorem okX11_alike (l : Launch) (D : va_G) (a : Nat → Nat) (T : mT3) {st : MS} {v1 : Int32} {v2 : Int32} {r : Int32} {st' : MS} (heq : X11_alike st v1 v2 = some (r, st')) : gCi l D (mT T) yX11_alike wsX11_alike rmX11_alike [.ref (a 0), .int v1, .int v2] (mW a T st) r (mW a T st') := by
  refine g_body_i (by decide) rfl (Nat.le_of_ble_eq_true rfl) (fun p e s m args below meth c A Q hx hb hml hown hts hK hA hret ls hP hD hS hl => ?_)
  have hl : lv_has ls 3 [(0, .ref (a 0)), (1, .int v1), (2, .int v2)] := hl
  have hin : ∀ w ∈ wsX110, w ∈ wsX11_alike := fun w h => List.mem_cons_of_mem _ (List.mem_append_right _ h)
  have f7 : (Cond.fieldLink RX11 7 RX11 (TX11 0).2.1 (TX11 0).2.2.1).before args s = true := hts (.fieldLink RX11 7 "LaidDownTheLaneModel" "ahead" "[I") (by decide +kernel)
  have f13 : (Cond.fieldLink RX11 13 RX11 (TX11 1).2.1 (TX11 1).2.2.1).before args s = true := hts (.fieldLink RX11 13 "LaidDownTheLaneModel" "aside" "[I") (by decide +kernel)
  obtain ⟨H, hH⟩ : ∃ H, H = s.heap := ⟨_, rfl⟩
  obtain ⟨locs, hlocs⟩ : ∃ z : List Loc, z = [] := ⟨_, rfl⟩
  have hS : va_S A s.heap H locs := by rw [hH, hlocs]; exact hS
  have hP : va_P D vwCl (mW a T st) H := by rw [hH]; exact hP
  suffices h9 : W p l e rmX11_alike s m args below meth c H locs 0 0 Q (F0 m 0 ls []) by rw [hH, hlocs] at h9; exact h9
  clear hH hlocs
  unfold X11_alike at heq
  refine lv_aload_n hx hb dX11_alike_0 rfl (lv_at hl 0 rfl) ?_
  refine mg (k := 0) (v := .ref (a 1)) hx hb hts hin hown hK hP (by decide) f7 rfl dX11_alike_1 rfl ?_
  refine lv_iload_n hx hb dX11_alike_4 rfl (lv_at hl 1 rfl) ?_
  obtain ⟨n_1, heq⟩ := inr_h heq
  refine mal (k := 0) (q := 1) (n := 12) hx hb hK hP rfl n_1 dX11_alike_5 ?_
  refine lv_aload_n hx hb dX11_alike_6 rfl (lv_at hl 0 rfl) ?_
  refine mg (k := 0) (v := .ref (a 1)) hx hb hts hin hown hK hP (by decide) f7 rfl dX11_alike_7 rfl ?_
  refine lv_iload_n hx hb dX11_alike_10 rfl (lv_at hl 2 rfl) ?_
  obtain ⟨n_2, heq⟩ := inr_h heq
  refine mal (k := 0) (q := 1) (n := 12) hx hb hK hP rfl n_2 dX11_alike_11 ?_
  refine lv_imul hx hb dX11_alike_12 ?_
  refine lv_aload_n hx hb dX11_alike_13 rfl (lv_at hl 0 rfl) ?_
  refine mg (k := 1) (v := .ref (a 2)) hx hb hts hin hown hK hP (by decide) f13 rfl dX11_alike_14 rfl ?_
  refine lv_iload_n hx hb dX11_alike_17 rfl (lv_at hl 1 rfl) ?_
  obtain ⟨n_3, heq⟩ := inr_h heq
  refine mal (k := 1) (q := 2) (n := 12) hx hb hK hP rfl n_3 dX11_alike_18 ?_
  refine lv_aload_n hx hb dX11_alike_19 rfl (lv_at hl 0 rfl) ?_
  refine mg (k := 1) (v := .ref (a 2)) hx hb hts hin hown hK hP (by decide) f13 rfl dX11_alike_20 rfl ?_
  refine lv_iload_n hx hb dX11_alike_23 rfl (lv_at hl 2 rfl) ?_
  obtain ⟨n_4, heq⟩ := inr_h heq
  refine mal (k := 1) (q := 2) (n := 12) hx hb hK hP rfl n_4 dX11_alike_24 ?_
  refine lv_imul hx hb dX11_alike_25 ?_
  refine lv_iadd hx hb dX11_alike_26 ?_
  obtain ⟨heq, heq2⟩ := ret_h heq
  subst heq
  subst heq2
  exact hret 27 H locs ls hP hD hS rfl dX11_alike_27
theorem dX11_burnsOf_0 : decode cX11_burnsOf 0 = .ok (.iconst 4, 1) := by decide +kernel
theorem dX11_burnsOf_1 : decode cX11_burnsOf 1 = .ok (.iconst 2, 1) := by decide +kernel
theorem dX11_burnsOf_2 : decode cX11_burnsOf 2 = .ok (.aload_n 0, 1) := by decide +kernel
theorem dX11_burnsOf_3 : decode cX11_burnsOf 3 = .ok (.getfield 19, 3) := by decide +kernel
theorem dX11_burnsOf_6 : decode cX11_burnsOf 6 = .ok (.iload_n 1, 1) := by decide +kernel
theorem dX11_burnsOf_7 : decode cX11_burnsOf 7 = .ok (.iaload, 1) := by decide +kernel
theorem dX11_burnsOf_8 : decode cX11_burnsOf 8 = .ok (.imul, 1) := by decide +kernel
theorem dX11_burnsOf_9 : decode cX11_burnsOf 9 = .ok (.iadd, 1) := by decide +kernel
theorem dX11_burnsOf_10 : decode cX11_burnsOf 10 = .ok (.istore_n 2, 1) := by decide +kernel
theorem dX11_burnsOf_11 : decode cX11_burnsOf 11 = .ok (.aload_n 0, 1) := by decide +kernel
theorem dX11_burnsOf_12 : decode cX11_burnsOf 12 = .ok (.getfield 16, 3) := by decide +kernel
theorem dX11_burnsOf_15 : decode cX11_burnsOf 15 = .ok (.iload_n 1, 1) := by decide +kernel
theorem dX11_burnsOf_16 : decode cX11_burnsOf 16 = .ok (.iaload, 1) := by decide +kernel
theorem dX11_burnsOf_17 : decode cX11_burnsOf 17 = .ok (.iconst 2, 1) := by decide +kernel
theorem dX11_burnsOf_18 : decode cX11_burnsOf 18 = .ok (.if_icmp .ne 7, 3) := by decide +kernel
theorem dX11_burnsOf_21 : decode cX11_burnsOf 21 = .ok (.iload_n 2, 1) := by decide +kernel
theorem dX11_burnsOf_22 : decode cX11_burnsOf 22 = .ok (.goto 38, 3) := by decide +kernel
theorem dX11_burnsOf_25 : decode cX11_burnsOf 25 = .ok (.aload_n 0, 1) := by decide +kernel
theorem dX11_burnsOf_26 : decode cX11_burnsOf 26 = .ok (.getfield 16, 3) := by decide +kernel
theorem dX11_burnsOf_29 : decode cX11_burnsOf 29 = .ok (.iload_n 1, 1) := by decide +kernel
theorem dX11_burnsOf_30 : decode cX11_burnsOf 30 = .ok (.iaload, 1) := by decide +kernel
theorem dX11_burnsOf_31 : decode cX11_burnsOf 31 = .ok (.iconst 3, 1) := by decide +kernel
theorem dX11_burnsOf_32 : decode cX11_burnsOf 32 = .ok (.if_icmp .ne 9, 3) := by decide +kernel
theorem dX11_burnsOf_35 : decode cX11_burnsOf 35 = .ok (.iconst 2, 1) := by decide +kernel
theorem dX11_burnsOf_36 : decode cX11_burnsOf 36 = .ok (.iload_n 2, 1) := by decide +kernel
theorem dX11_burnsOf_37 : decode cX11_burnsOf 37 = .ok (.imul, 1) := by decide +kernel
theorem dX11_burnsOf_38 : decode cX11_burnsOf 38 = .ok (.goto 22, 3) := by decide +kernel
theorem dX11_burnsOf_41 : decode cX11_burnsOf 41 = .ok (.aload_n 0, 1) := by decide +kernel
theorem dX11_burnsOf_42 : decode cX11_burnsOf 42 = .ok (.getfield 16, 3) := by decide +kernel
theorem dX11_burnsOf_45 : decode cX11_burnsOf 45 = .ok (.iload_n 1, 1) := by decide +kernel
theorem dX11_burnsOf_46 : decode cX11_burnsOf 46 = .ok (.iaload, 1) := by decide +kernel
theorem dX11_burnsOf_47 : decode cX11_burnsOf 47 = .ok (.bipush 6, 2) := by decide +kernel
theorem dX11_burnsOf_49 : decode cX11_burnsOf 49 = .ok (.if_icmp .ne 9, 3) := by decide +kernel
theorem dX11_burnsOf_52 : decode cX11_burnsOf 52 = .ok (.iload_n 2, 1) := by decide +kernel
theorem dX11_burnsOf_53 : decode cX11_burnsOf 53 = .ok (.iconst 2, 1) := by decide +kernel
theorem dX11_burnsOf_54 : decode cX11_burnsOf 54 = .ok (.idiv, 1) := by decide +kernel
theorem dX11_burnsOf_55 : decode cX11_burnsOf 55 = .ok (.goto 5, 3) := by decide +kernel
theorem dX11_burnsOf_58 : decode cX11_burnsOf 58 = .ok (.bipush (-4), 2) := by decide +kernel
theorem dX11_burnsOf_60 : decode cX11_burnsOf 60 = .ok (.ireturn, 1) := by decide +kernel
/-! burnsOf -/
def X11_burnsOf_p60 (st : MS) (t0 : Int32) : Option (Int32 × MS) :=
    some (t0, st)
def X11_burnsOf (st : MS) (v1 : Int32) : Option (Int32 × MS) :=
    inr v1 12 <|
    nm (((4 : Int32) + ((2 : Int32) * (gA st 3 v1.toNatClampNeg)))) fun x_2 =>
    inr v1 12 <|
    if (gA st 2 v1.toNatClampNeg) = (2 : Int32) then
      (X11_burnsOf_p60 st x_2)
    else
    inr v1 12 <|
    if (gA st 2 v1.toNatClampNeg) = (3 : Int32) then
      (X11_burnsOf_p60 st ((2 : Int32) * x_2))
    else
    inr v1 12 <|
    if (gA st 2 v1.toNatClampNeg) = (6 : Int32) then
      (dvi (2 : Int32) <|
      X11_burnsOf_p60 st (x_2 / (2 : Int32)))
    else
    X11_burnsOf_p60 st (-4 : Int32)
abbrev rmX11_burnsOf : Room := { frames := 0, cells := 0, slots := 0, locals := 0 }
theorem hdX11_burnsOf : yX11_burnsOf.cls = RX11 ∧ yX11_burnsOf.cls ≠ "java/lang/invoke/MethodHandle" ∧ yX11_burnsOf.cls ≠ "java/lang/invoke/VarHandle" ∧ (parseMethodDescriptor yX11_burnsOf.desc).map (fun d => d.parameters.length) = some 1 := by decide +kernel
set_option maxRecDepth 100000 in
set_option maxHeartbeats 4000000 in
theorem okX11_burnsOf (l : Launch) (D : va_G) (a : Nat → Nat) (T : mT3) {st : MS} {v1 : Int32} {r : Int32} {st' : MS} (heq : X11_burnsOf st v1 = some (r, st')) : gCi l D (mT T) yX11_burnsOf wsX11_burnsOf rmX11_burnsOf [.ref (a 0), .int v1] (mW a T st) r (mW a T st') := by
  refine g_body_i (by decide) rfl (Nat.le_of_ble_eq_true rfl) (fun p e s m args below meth c A Q hx hb hml hown hts hK hA hret ls hP hD hS hl => ?_)
  have hl : lv_has ls 3 [(0, .ref (a 0)), (1, .int v1)] := hl
  have hin : ∀ w ∈ wsX110, w ∈ wsX11_burnsOf := fun w h => List.mem_cons_of_mem _ (List.mem_append_right _ h)
  have f16 : (Cond.fieldLink RX11 16 RX11 (TX11 2).2.1 (TX11 2).2.2.1).before args s = true := hts (.fieldLink RX11 16 "LaidDownTheLaneModel" "kinds" "[I") (by decide +kernel)
  have f19 : (Cond.fieldLink RX11 19 RX11 (TX11 3).2.1 (TX11 3).2.2.1).before args s = true := hts (.fieldLink RX11 19 "LaidDownTheLaneModel" "figures" "[I") (by decide +kernel)
  have b60 : ∀ (st : MS) (t0 : Int32) (H : Heap) (locs : List Loc) (ls : Array Slot), va_P D vwCl (mW a T st) H → va_D A (mW a T st) → va_S A s.heap H locs → lv_has ls 3 [] → X11_burnsOf_p60  st t0 = some (r, st') → W p l e rmX11_burnsOf s m args below meth c H locs 0 0 Q (F0 m 60 ls [.int t0]) := by
    intro st t0 H locs ls hP hD hS hl heq
    unfold X11_burnsOf_p60 at heq
    obtain ⟨heq, heq2⟩ := ret_h heq
    subst heq
    subst heq2
    exact hret 60 H locs ls hP hD hS rfl dX11_burnsOf_60
  obtain ⟨H, hH⟩ : ∃ H, H = s.heap := ⟨_, rfl⟩
  obtain ⟨locs, hlocs⟩ : ∃ z : List Loc, z = [] := ⟨_, rfl⟩
  have hS : va_S A s.heap H locs := by rw [hH, hlocs]; exact hS
  have hP : va_P D vwCl (mW a T st) H := by rw [hH]; exact hP
  suffices h9 : W p l e rmX11_burnsOf s m args below meth c H locs 0 0 Q (F0 m 0 ls []) by rw [hH, hlocs] at h9; exact h9
  clear hH hlocs
  unfold X11_burnsOf at heq
  refine lv_iconst (v := (4 : Int32)) hx hb dX11_burnsOf_0 (by decide) ?_
  refine lv_iconst (v := (2 : Int32)) hx hb dX11_burnsOf_1 (by decide) ?_
  refine lv_aload_n hx hb dX11_burnsOf_2 rfl (lv_at hl 0 rfl) ?_
  refine mg (k := 3) (v := .ref (a 4)) hx hb hts hin hown hK hP (by decide) f19 rfl dX11_burnsOf_3 rfl ?_
  refine lv_iload_n hx hb dX11_burnsOf_6 rfl (lv_at hl 1 rfl) ?_
  obtain ⟨n_1, heq⟩ := inr_h heq
  refine mal (k := 3) (q := 4) (n := 12) hx hb hK hP rfl n_1 dX11_burnsOf_7 ?_
  refine lv_imul hx hb dX11_burnsOf_8 ?_
  refine lv_iadd hx hb dX11_burnsOf_9 ?_
  refine lv_topi (fun x_2 ex_2 => ?_)
  have heq := nm_h ex_2 heq
  refine lv_istore_n (lv' := [(2, .int x_2), (0, .ref (a 0)), (1, .int v1)]) hx hb dX11_burnsOf_10 rfl hl (by decide) rfl (fun ls hl => ?_)
  refine lv_aload_n hx hb dX11_burnsOf_11 rfl (lv_at hl 1 rfl) ?_
  refine mg (k := 2) (v := .ref (a 3)) hx hb hts hin hown hK hP (by decide) f16 rfl dX11_burnsOf_12 rfl ?_
  refine lv_iload_n hx hb dX11_burnsOf_15 rfl (lv_at hl 2 rfl) ?_
  obtain ⟨n_3, heq⟩ := inr_h heq
  refine mal (k := 2) (q := 3) (n := 12) hx hb hK hP rfl n_3 dX11_burnsOf_16 ?_
  refine lv_iconst (v := (2 : Int32)) hx hb dX11_burnsOf_17 (by decide) ?_
  refine lv_icmp_ne (tgt := 25) hx hb dX11_burnsOf_18 (by decide) (fun c_4 => ?_) (fun c_4 => ?_)
  · have heq := it_f c_4 heq
    refine lv_aload_n hx hb dX11_burnsOf_25 rfl (lv_at hl 1 rfl) ?_
    refine mg (k := 2) (v := .ref (a 3)) hx hb hts hin hown hK hP (by decide) f16 rfl dX11_burnsOf_26 rfl ?_
    refine lv_iload_n hx hb dX11_burnsOf_29 rfl (lv_at hl 2 rfl) ?_
    obtain ⟨n_5, heq⟩ := inr_h heq
    refine mal (k := 2) (q := 3) (n := 12) hx hb hK hP rfl n_5 dX11_burnsOf_30 ?_
    refine lv_iconst (v := (3 : Int32)) hx hb dX11_burnsOf_31 (by decide) ?_
    refine lv_icmp_ne (tgt := 41) hx hb dX11_burnsOf_32 (by decide) (fun c_6 => ?_) (fun c_6 => ?_)
    · have heq := it_f c_6 heq
      refine lv_aload_n hx hb dX11_burnsOf_41 rfl (lv_at hl 1 rfl) ?_
      refine mg (k := 2) (v := .ref (a 3)) hx hb hts hin hown hK hP (by decide) f16 rfl dX11_burnsOf_42 rfl ?_
      refine lv_iload_n hx hb dX11_burnsOf_45 rfl (lv_at hl 2 rfl) ?_
      obtain ⟨n_7, heq⟩ := inr_h heq
      refine mal (k := 2) (q := 3) (n := 12) hx hb hK hP rfl n_7 dX11_burnsOf_46 ?_
      refine lv_bipush (v := (6 : Int32)) hx hb dX11_burnsOf_47 (by decide) ?_
      refine lv_icmp_ne (tgt := 58) hx hb dX11_burnsOf_49 (by decide) (fun c_8 => ?_) (fun c_8 => ?_)
      · have heq := it_f c_8 heq
        refine lv_bipush (v := (-4 : Int32)) hx hb dX11_burnsOf_58 (by decide) ?_
        exact b60 st (-4 : Int32) H locs ls hP hD hS (lv_sub hl [] rfl) heq
      have heq := it_t c_8 heq
      refine lv_iload_n hx hb dX11_burnsOf_52 rfl (lv_at hl 0 rfl) ?_
      refine lv_iconst (v := (2 : Int32)) hx hb dX11_burnsOf_53 (by decide) ?_
      obtain ⟨n_9, heq⟩ := dvi_h heq
      refine lv_idiv hx hb dX11_burnsOf_54 n_9 ?_
      refine lv_goto (tgt := 60) hx hb dX11_burnsOf_55 (by decide) ?_
      exact b60 st (x_2 / (2 : Int32)) H locs ls hP hD hS (lv_sub hl [] rfl) heq
    have heq := it_t c_6 heq
    refine lv_iconst (v := (2 : Int32)) hx hb dX11_burnsOf_35 (by decide) ?_
    refine lv_iload_n hx hb dX11_burnsOf_36 rfl (lv_at hl 0 rfl) ?_
    refine lv_imul hx hb dX11_burnsOf_37 ?_
    refine lv_goto (tgt := 60) hx hb dX11_burnsOf_38 (by decide) ?_
    exact b60 st ((2 : Int32) * x_2) H locs ls hP hD hS (lv_sub hl [] rfl) heq
  have heq := it_t c_4 heq
  refine lv_iload_n hx hb dX11_burnsOf_21 rfl (lv_at hl 0 rfl) ?_
  refine lv_goto (tgt := 60) hx hb dX11_burnsOf_22 (by decide) ?_
  exact b60 st x_2 H locs ls hP hD hS (lv_sub hl [] rfl) heq
theorem dX11_bearsWhole_0 : decode cX11_bearsWhole 0 = .ok (.aload_n 0, 1) := by decide +kernel
theorem dX11_bearsWhole_1 : decode cX11_bearsWhole 1 = .ok (.getfield 16, 3) := by decide +kernel
theorem dX11_bearsWhole_4 : decode cX11_bearsWhole 4 = .ok (.iload_n 1, 1) := by decide +kernel
theorem dX11_bearsWhole_5 : decode cX11_bearsWhole 5 = .ok (.iaload, 1) := by decide +kernel
theorem dX11_bearsWhole_6 : decode cX11_bearsWhole 6 = .ok (.tableswitch 77 1 7 #[42, 44, 51, 60, 62, 44, 74], 42) := by decide +kernel
theorem dX11_bearsWhole_48 : decode cX11_bearsWhole 48 = .ok (.iconst 0, 1) := by decide +kernel
theorem dX11_bearsWhole_49 : decode cX11_bearsWhole 49 = .ok (.ireturn, 1) := by decide +kernel
theorem dX11_bearsWhole_50 : decode cX11_bearsWhole 50 = .ok (.aload_n 0, 1) := by decide +kernel
theorem dX11_bearsWhole_51 : decode cX11_bearsWhole 51 = .ok (.getfield 19, 3) := by decide +kernel
theorem dX11_bearsWhole_54 : decode cX11_bearsWhole 54 = .ok (.iload_n 1, 1) := by decide +kernel
theorem dX11_bearsWhole_55 : decode cX11_bearsWhole 55 = .ok (.iaload, 1) := by decide +kernel
theorem dX11_bearsWhole_56 : decode cX11_bearsWhole 56 = .ok (.ireturn, 1) := by decide +kernel
theorem dX11_bearsWhole_57 : decode cX11_bearsWhole 57 = .ok (.aload_n 0, 1) := by decide +kernel
theorem dX11_bearsWhole_58 : decode cX11_bearsWhole 58 = .ok (.getfield 19, 3) := by decide +kernel
theorem dX11_bearsWhole_61 : decode cX11_bearsWhole 61 = .ok (.iload_n 1, 1) := by decide +kernel
theorem dX11_bearsWhole_62 : decode cX11_bearsWhole 62 = .ok (.iaload, 1) := by decide +kernel
theorem dX11_bearsWhole_63 : decode cX11_bearsWhole 63 = .ok (.iconst 2, 1) := by decide +kernel
theorem dX11_bearsWhole_64 : decode cX11_bearsWhole 64 = .ok (.iadd, 1) := by decide +kernel
theorem dX11_bearsWhole_65 : decode cX11_bearsWhole 65 = .ok (.ireturn, 1) := by decide +kernel
theorem dX11_bearsWhole_66 : decode cX11_bearsWhole 66 = .ok (.iconst 4, 1) := by decide +kernel
theorem dX11_bearsWhole_67 : decode cX11_bearsWhole 67 = .ok (.ireturn, 1) := by decide +kernel
theorem dX11_bearsWhole_68 : decode cX11_bearsWhole 68 = .ok (.bipush 9, 2) := by decide +kernel
theorem dX11_bearsWhole_70 : decode cX11_bearsWhole 70 = .ok (.aload_n 0, 1) := by decide +kernel
theorem dX11_bearsWhole_71 : decode cX11_bearsWhole 71 = .ok (.getfield 19, 3) := by decide +kernel
theorem dX11_bearsWhole_74 : decode cX11_bearsWhole 74 = .ok (.iload_n 1, 1) := by decide +kernel
theorem dX11_bearsWhole_75 : decode cX11_bearsWhole 75 = .ok (.iaload, 1) := by decide +kernel
theorem dX11_bearsWhole_76 : decode cX11_bearsWhole 76 = .ok (.iconst 3, 1) := by decide +kernel
theorem dX11_bearsWhole_77 : decode cX11_bearsWhole 77 = .ok (.idiv, 1) := by decide +kernel
theorem dX11_bearsWhole_78 : decode cX11_bearsWhole 78 = .ok (.isub, 1) := by decide +kernel
theorem dX11_bearsWhole_79 : decode cX11_bearsWhole 79 = .ok (.ireturn, 1) := by decide +kernel
theorem dX11_bearsWhole_80 : decode cX11_bearsWhole 80 = .ok (.bipush 11, 2) := by decide +kernel
theorem dX11_bearsWhole_82 : decode cX11_bearsWhole 82 = .ok (.ireturn, 1) := by decide +kernel
theorem dX11_bearsWhole_83 : decode cX11_bearsWhole 83 = .ok (.bipush 9, 2) := by decide +kernel
theorem dX11_bearsWhole_85 : decode cX11_bearsWhole 85 = .ok (.ireturn, 1) := by decide +kernel
/-! bearsWhole -/
def X11_bearsWhole (st : MS) (v1 : Int32) : Option (Int32 × MS) :=
    inr v1 12 <|
    nm ((gA st 2 v1.toNatClampNeg)) fun x_2 =>
    if x_2 = (1 : Int32) then
      (some ((0 : Int32), st))
    else
    if x_2 = (2 : Int32) then
      (inr v1 12 <|
      some ((gA st 3 v1.toNatClampNeg), st))
    else
    if x_2 = (3 : Int32) then
      (inr v1 12 <|
      some (((gA st 3 v1.toNatClampNeg) + (2 : Int32)), st))
    else
    if x_2 = (4 : Int32) then
      (some ((4 : Int32), st))
    else
    if x_2 = (5 : Int32) then
      (inr v1 12 <|
      dvi (3 : Int32) <|
      some (((9 : Int32) - ((gA st 3 v1.toNatClampNeg) / (3 : Int32))), st))
    else
    if x_2 = (6 : Int32) then
      (inr v1 12 <|
      some ((gA st 3 v1.toNatClampNeg), st))
    else
    if x_2 = (7 : Int32) then
      (some ((11 : Int32), st))
    else
    some ((9 : Int32), st)
abbrev rmX11_bearsWhole : Room := { frames := 0, cells := 0, slots := 0, locals := 0 }
theorem hdX11_bearsWhole : yX11_bearsWhole.cls = RX11 ∧ yX11_bearsWhole.cls ≠ "java/lang/invoke/MethodHandle" ∧ yX11_bearsWhole.cls ≠ "java/lang/invoke/VarHandle" ∧ (parseMethodDescriptor yX11_bearsWhole.desc).map (fun d => d.parameters.length) = some 1 := by decide +kernel
set_option maxRecDepth 100000 in
set_option maxHeartbeats 4000000 in
theorem okX11_bearsWhole (l : Launch) (D : va_G) (a : Nat → Nat) (T : mT3) {st : MS} {v1 : Int32} {r : Int32} {st' : MS} (heq : X11_bearsWhole st v1 = some (r, st')) : gCi l D (mT T) yX11_bearsWhole wsX11_bearsWhole rmX11_bearsWhole [.ref (a 0), .int v1] (mW a T st) r (mW a T st') := by
  refine g_body_i (by decide) rfl (Nat.le_of_ble_eq_true rfl) (fun p e s m args below meth c A Q hx hb hml hown hts hK hA hret ls hP hD hS hl => ?_)
  have hl : lv_has ls 2 [(0, .ref (a 0)), (1, .int v1)] := hl
  have hin : ∀ w ∈ wsX110, w ∈ wsX11_bearsWhole := fun w h => List.mem_cons_of_mem _ (List.mem_append_right _ h)
  have f16 : (Cond.fieldLink RX11 16 RX11 (TX11 2).2.1 (TX11 2).2.2.1).before args s = true := hts (.fieldLink RX11 16 "LaidDownTheLaneModel" "kinds" "[I") (by decide +kernel)
  have f19 : (Cond.fieldLink RX11 19 RX11 (TX11 3).2.1 (TX11 3).2.2.1).before args s = true := hts (.fieldLink RX11 19 "LaidDownTheLaneModel" "figures" "[I") (by decide +kernel)
  obtain ⟨H, hH⟩ : ∃ H, H = s.heap := ⟨_, rfl⟩
  obtain ⟨locs, hlocs⟩ : ∃ z : List Loc, z = [] := ⟨_, rfl⟩
  have hS : va_S A s.heap H locs := by rw [hH, hlocs]; exact hS
  have hP : va_P D vwCl (mW a T st) H := by rw [hH]; exact hP
  suffices h9 : W p l e rmX11_bearsWhole s m args below meth c H locs 0 0 Q (F0 m 0 ls []) by rw [hH, hlocs] at h9; exact h9
  clear hH hlocs
  unfold X11_bearsWhole at heq
  refine lv_aload_n hx hb dX11_bearsWhole_0 rfl (lv_at hl 0 rfl) ?_
  refine mg (k := 2) (v := .ref (a 3)) hx hb hts hin hown hK hP (by decide) f16 rfl dX11_bearsWhole_1 rfl ?_
  refine lv_iload_n hx hb dX11_bearsWhole_4 rfl (lv_at hl 1 rfl) ?_
  obtain ⟨n_1, heq⟩ := inr_h heq
  refine mal (k := 2) (q := 3) (n := 12) hx hb hK hP rfl n_1 dX11_bearsWhole_5 ?_
  refine lv_topi (fun x_2 ex_2 => ?_)
  have heq := nm_h ex_2 heq
  by_cases c_3 : x_2 = (1 : Int32)
  · have heq := it_t c_3 heq
    refine lv_tableIn (tgt := 48) hx hb dX11_bearsWhole_6 (by rw [c_3]; decide) (by rw [c_3]; decide) (by rw [c_3]; rfl) (by decide) ?_
    refine lv_iconst (v := (0 : Int32)) hx hb dX11_bearsWhole_48 (by decide) ?_
    obtain ⟨heq, heq2⟩ := ret_h heq
    subst heq
    subst heq2
    exact hret 49 H locs ls hP hD hS rfl dX11_bearsWhole_49
  have heq := it_f c_3 heq
  by_cases c_4 : x_2 = (2 : Int32)
  · have heq := it_t c_4 heq
    refine lv_tableIn (tgt := 50) hx hb dX11_bearsWhole_6 (by rw [c_4]; decide) (by rw [c_4]; decide) (by rw [c_4]; rfl) (by decide) ?_
    refine lv_aload_n hx hb dX11_bearsWhole_50 rfl (lv_at hl 0 rfl) ?_
    refine mg (k := 3) (v := .ref (a 4)) hx hb hts hin hown hK hP (by decide) f19 rfl dX11_bearsWhole_51 rfl ?_
    refine lv_iload_n hx hb dX11_bearsWhole_54 rfl (lv_at hl 1 rfl) ?_
    obtain ⟨n_5, heq⟩ := inr_h heq
    refine mal (k := 3) (q := 4) (n := 12) hx hb hK hP rfl n_5 dX11_bearsWhole_55 ?_
    obtain ⟨heq, heq2⟩ := ret_h heq
    subst heq
    subst heq2
    exact hret 56 H locs ls hP hD hS rfl dX11_bearsWhole_56
  have heq := it_f c_4 heq
  by_cases c_6 : x_2 = (3 : Int32)
  · have heq := it_t c_6 heq
    refine lv_tableIn (tgt := 57) hx hb dX11_bearsWhole_6 (by rw [c_6]; decide) (by rw [c_6]; decide) (by rw [c_6]; rfl) (by decide) ?_
    refine lv_aload_n hx hb dX11_bearsWhole_57 rfl (lv_at hl 0 rfl) ?_
    refine mg (k := 3) (v := .ref (a 4)) hx hb hts hin hown hK hP (by decide) f19 rfl dX11_bearsWhole_58 rfl ?_
    refine lv_iload_n hx hb dX11_bearsWhole_61 rfl (lv_at hl 1 rfl) ?_
    obtain ⟨n_7, heq⟩ := inr_h heq
    refine mal (k := 3) (q := 4) (n := 12) hx hb hK hP rfl n_7 dX11_bearsWhole_62 ?_
    refine lv_iconst (v := (2 : Int32)) hx hb dX11_bearsWhole_63 (by decide) ?_
    refine lv_iadd hx hb dX11_bearsWhole_64 ?_
    obtain ⟨heq, heq2⟩ := ret_h heq
    subst heq
    subst heq2
    exact hret 65 H locs ls hP hD hS rfl dX11_bearsWhole_65
  have heq := it_f c_6 heq
  by_cases c_8 : x_2 = (4 : Int32)
  · have heq := it_t c_8 heq
    refine lv_tableIn (tgt := 66) hx hb dX11_bearsWhole_6 (by rw [c_8]; decide) (by rw [c_8]; decide) (by rw [c_8]; rfl) (by decide) ?_
    refine lv_iconst (v := (4 : Int32)) hx hb dX11_bearsWhole_66 (by decide) ?_
    obtain ⟨heq, heq2⟩ := ret_h heq
    subst heq
    subst heq2
    exact hret 67 H locs ls hP hD hS rfl dX11_bearsWhole_67
  have heq := it_f c_8 heq
  by_cases c_9 : x_2 = (5 : Int32)
  · have heq := it_t c_9 heq
    refine lv_tableIn (tgt := 68) hx hb dX11_bearsWhole_6 (by rw [c_9]; decide) (by rw [c_9]; decide) (by rw [c_9]; rfl) (by decide) ?_
    refine lv_bipush (v := (9 : Int32)) hx hb dX11_bearsWhole_68 (by decide) ?_
    refine lv_aload_n hx hb dX11_bearsWhole_70 rfl (lv_at hl 0 rfl) ?_
    refine mg (k := 3) (v := .ref (a 4)) hx hb hts hin hown hK hP (by decide) f19 rfl dX11_bearsWhole_71 rfl ?_
    refine lv_iload_n hx hb dX11_bearsWhole_74 rfl (lv_at hl 1 rfl) ?_
    obtain ⟨n_10, heq⟩ := inr_h heq
    refine mal (k := 3) (q := 4) (n := 12) hx hb hK hP rfl n_10 dX11_bearsWhole_75 ?_
    refine lv_iconst (v := (3 : Int32)) hx hb dX11_bearsWhole_76 (by decide) ?_
    obtain ⟨n_11, heq⟩ := dvi_h heq
    refine lv_idiv hx hb dX11_bearsWhole_77 n_11 ?_
    refine lv_isub hx hb dX11_bearsWhole_78 ?_
    obtain ⟨heq, heq2⟩ := ret_h heq
    subst heq
    subst heq2
    exact hret 79 H locs ls hP hD hS rfl dX11_bearsWhole_79
  have heq := it_f c_9 heq
  by_cases c_12 : x_2 = (6 : Int32)
  · have heq := it_t c_12 heq
    refine lv_tableIn (tgt := 50) hx hb dX11_bearsWhole_6 (by rw [c_12]; decide) (by rw [c_12]; decide) (by rw [c_12]; rfl) (by decide) ?_
    refine lv_aload_n hx hb dX11_bearsWhole_50 rfl (lv_at hl 0 rfl) ?_
    refine mg (k := 3) (v := .ref (a 4)) hx hb hts hin hown hK hP (by decide) f19 rfl dX11_bearsWhole_51 rfl ?_
    refine lv_iload_n hx hb dX11_bearsWhole_54 rfl (lv_at hl 1 rfl) ?_
    obtain ⟨n_13, heq⟩ := inr_h heq
    refine mal (k := 3) (q := 4) (n := 12) hx hb hK hP rfl n_13 dX11_bearsWhole_55 ?_
    obtain ⟨heq, heq2⟩ := ret_h heq
    subst heq
    subst heq2
    exact hret 56 H locs ls hP hD hS rfl dX11_bearsWhole_56
  have heq := it_f c_12 heq
  by_cases c_14 : x_2 = (7 : Int32)
  · have heq := it_t c_14 heq
    refine lv_tableIn (tgt := 80) hx hb dX11_bearsWhole_6 (by rw [c_14]; decide) (by rw [c_14]; decide) (by rw [c_14]; rfl) (by decide) ?_
    refine lv_bipush (v := (11 : Int32)) hx hb dX11_bearsWhole_80 (by decide) ?_
    obtain ⟨heq, heq2⟩ := ret_h heq
    subst heq
    subst heq2
    exact hret 82 H locs ls hP hD hS rfl dX11_bearsWhole_82
  have heq := it_f c_14 heq
  refine lv_tableOut (tgt := 83) hx hb dX11_bearsWhole_6 (sw_out fun k h1 h2 => ?_) (by decide) ?_
  · rcases (show k = 1 ∨ k = 2 ∨ k = 3 ∨ k = 4 ∨ k = 5 ∨ k = 6 ∨ k = 7 by omega) with rfl | rfl | rfl | rfl | rfl | rfl | rfl
    · exact c_3
    · exact c_4
    · exact c_6
    · exact c_8
    · exact c_9
    · exact c_12
    · exact c_14
  refine lv_bipush (v := (9 : Int32)) hx hb dX11_bearsWhole_83 (by decide) ?_
  obtain ⟨heq, heq2⟩ := ret_h heq
  subst heq
  subst heq2
  exact hret 85 H locs ls hP hD hS rfl dX11_bearsWhole_85
set_option maxRecDepth 20000 in
theorem ggX11_bearsOf_X11_burnsOf : GoodIn wsX11_bearsOf wsX11_burnsOf := goodIn_r _ [8, 9, 10, 15, 16, 17, 18, 19, 20, 21, 22, 23, 24, 25, 26, 27, 28, 29, 30, 31, 32, 33, 34, 35, 36, 37, 38, 39, 40, 41, 42, 43, 44, 45, 46, 47, 48, 49, 50, 51] (by decide +kernel) (by decide +kernel)
set_option maxRecDepth 20000 in
theorem gX11_bearsOf_X11_burnsOf : GoodIn wsX11_bearsOf (wsV RX11 85 RX11 yX11_burnsOf wsX11_burnsOf) := goodIn_app (goodIn_of _ (by decide +kernel)) ggX11_bearsOf_X11_burnsOf
set_option maxRecDepth 20000 in
theorem ggX11_bearsOf_X11_bearsWhole : GoodIn wsX11_bearsOf wsX11_bearsWhole := goodIn_r _ [14, 10, 9, 15, 16, 17, 18, 19, 20, 21, 22, 23, 24, 25, 26, 27, 28, 29, 30, 31, 32, 33, 34, 35, 36, 37, 38, 39, 40, 41, 42, 43, 44, 45, 46, 47, 48, 49, 50, 51] (by decide +kernel) (by decide +kernel)
set_option maxRecDepth 20000 in
theorem gX11_bearsOf_X11_bearsWhole : GoodIn wsX11_bearsOf (wsV RX11 96 RX11 yX11_bearsWhole wsX11_bearsWhole) := goodIn_app (goodIn_of _ (by decide +kernel)) ggX11_bearsOf_X11_bearsWhole
theorem dX11_bearsOf_0 : decode cX11_bearsOf 0 = .ok (.aload_n 0, 1) := by decide +kernel
theorem dX11_bearsOf_1 : decode cX11_bearsOf 1 = .ok (.iload_n 1, 1) := by decide +kernel
theorem dX11_bearsOf_2 : decode cX11_bearsOf 2 = .ok (.invokevirtual 85, 3) := by decide +kernel
theorem dX11_bearsOf_5 : decode cX11_bearsOf 5 = .ok (.istore_n 2, 1) := by decide +kernel
theorem dX11_bearsOf_6 : decode cX11_bearsOf 6 = .ok (.aload_n 0, 1) := by decide +kernel
theorem dX11_bearsOf_7 : decode cX11_bearsOf 7 = .ok (.getfield 89, 3) := by decide +kernel
theorem dX11_bearsOf_10 : decode cX11_bearsOf 10 = .ok (.ifCond .eq 30, 3) := by decide +kernel
theorem dX11_bearsOf_13 : decode cX11_bearsOf 13 = .ok (.iload_n 2, 1) := by decide +kernel
theorem dX11_bearsOf_14 : decode cX11_bearsOf 14 = .ok (.ifCond .lt 26, 3) := by decide +kernel
theorem dX11_bearsOf_17 : decode cX11_bearsOf 17 = .ok (.aload_n 0, 1) := by decide +kernel
theorem dX11_bearsOf_18 : decode cX11_bearsOf 18 = .ok (.getfield 93, 3) := by decide +kernel
theorem dX11_bearsOf_21 : decode cX11_bearsOf 21 = .ok (.iload_n 2, 1) := by decide +kernel
theorem dX11_bearsOf_22 : decode cX11_bearsOf 22 = .ok (.aload_n 0, 1) := by decide +kernel
theorem dX11_bearsOf_23 : decode cX11_bearsOf 23 = .ok (.getfield 50, 3) := by decide +kernel
theorem dX11_bearsOf_26 : decode cX11_bearsOf 26 = .ok (.iload_n 1, 1) := by decide +kernel
theorem dX11_bearsOf_27 : decode cX11_bearsOf 27 = .ok (.iaload, 1) := by decide +kernel
theorem dX11_bearsOf_28 : decode cX11_bearsOf 28 = .ok (.iload_n 2, 1) := by decide +kernel
theorem dX11_bearsOf_29 : decode cX11_bearsOf 29 = .ok (.iconst 3, 1) := by decide +kernel
theorem dX11_bearsOf_30 : decode cX11_bearsOf 30 = .ok (.idiv, 1) := by decide +kernel
theorem dX11_bearsOf_31 : decode cX11_bearsOf 31 = .ok (.imul, 1) := by decide +kernel
theorem dX11_bearsOf_32 : decode cX11_bearsOf 32 = .ok (.iadd, 1) := by decide +kernel
theorem dX11_bearsOf_33 : decode cX11_bearsOf 33 = .ok (.if_icmp .lt 7, 3) := by decide +kernel
theorem dX11_bearsOf_36 : decode cX11_bearsOf 36 = .ok (.iconst 0, 1) := by decide +kernel
theorem dX11_bearsOf_37 : decode cX11_bearsOf 37 = .ok (.goto 8, 3) := by decide +kernel
theorem dX11_bearsOf_40 : decode cX11_bearsOf 40 = .ok (.aload_n 0, 1) := by decide +kernel
theorem dX11_bearsOf_41 : decode cX11_bearsOf 41 = .ok (.iload_n 1, 1) := by decide +kernel
theorem dX11_bearsOf_42 : decode cX11_bearsOf 42 = .ok (.invokevirtual 96, 3) := by decide +kernel
theorem dX11_bearsOf_45 : decode cX11_bearsOf 45 = .ok (.ireturn, 1) := by decide +kernel
/-! bearsOf -/
def X11_bearsOf_p45 (st : MS) (t0 : Int32) : Option (Int32 × MS) :=
    some (t0, st)
def X11_bearsOf_p40 (st : MS) (v1 : Int32) : Option (Int32 × MS) :=
    bnd (X11_bearsWhole st v1) fun y_2 st_1 =>
    X11_bearsOf_p45 st_1 y_2
def X11_bearsOf (st : MS) (v1 : Int32) : Option (Int32 × MS) :=
    bnd (X11_burnsOf st v1) fun y_5 st_4 =>
    if (gF st_4 5) = 0 then
      (X11_bearsOf_p40 st_4 v1)
    else
    if y_5 < 0 then
      (X11_bearsOf_p40 st_4 v1)
    else
    inr v1 12 <|
    dvi (3 : Int32) <|
    if (gF st_4 6) < (y_5 + ((gA st_4 18 v1.toNatClampNeg) * (y_5 / (3 : Int32)))) then
      (X11_bearsOf_p40 st_4 v1)
    else
    X11_bearsOf_p45 st_4 (0 : Int32)
abbrev rmX11_bearsOf : Room := { frames := 1, cells := 0, slots := 0, locals := 22 }
theorem hdX11_bearsOf : yX11_bearsOf.cls = RX11 ∧ yX11_bearsOf.cls ≠ "java/lang/invoke/MethodHandle" ∧ yX11_bearsOf.cls ≠ "java/lang/invoke/VarHandle" ∧ (parseMethodDescriptor yX11_bearsOf.desc).map (fun d => d.parameters.length) = some 1 := by decide +kernel
set_option maxRecDepth 100000 in
set_option maxHeartbeats 4000000 in
theorem okX11_bearsOf (l : Launch) (D : va_G) (a : Nat → Nat) (T : mT3) {st : MS} {v1 : Int32} {r : Int32} {st' : MS} (heq : X11_bearsOf st v1 = some (r, st')) : gCi l D (mT T) yX11_bearsOf wsX11_bearsOf rmX11_bearsOf [.ref (a 0), .int v1] (mW a T st) r (mW a T st') := by
  refine g_body_i (by decide) rfl (Nat.le_of_ble_eq_true rfl) (fun p e s m args below meth c A Q hx hb hml hown hts hK hA hret ls hP hD hS hl => ?_)
  have hl : lv_has ls 3 [(0, .ref (a 0)), (1, .int v1)] := hl
  have hin : ∀ w ∈ wsX110, w ∈ wsX11_bearsOf := fun w h => List.mem_cons_of_mem _ (List.mem_append_right _ h)
  have f50 : (Cond.fieldLink RX11 50 RX11 (TX11 18).2.1 (TX11 18).2.2.1).before args s = true := hts (.fieldLink RX11 50 "LaidDownTheLaneModel" "shifts" "[I") (by decide +kernel)
  have f89 : (Cond.fieldLink RX11 89 RX11 (TX11 5).2.1 (TX11 5).2.2.1).before args s = true := hts (.fieldLink RX11 89 "LaidDownTheLaneModel" "isLit" "Z") (by decide +kernel)
  have f93 : (Cond.fieldLink RX11 93 RX11 (TX11 6).2.1 (TX11 6).2.2.1).before args s = true := hts (.fieldLink RX11 93 "LaidDownTheLaneModel" "minute" "I") (by decide +kernel)
  have b45 : ∀ (st : MS) (t0 : Int32) (H : Heap) (locs : List Loc) (ls : Array Slot), va_P D vwCl (mW a T st) H → va_D A (mW a T st) → va_S A s.heap H locs → lv_has ls 3 [] → X11_bearsOf_p45  st t0 = some (r, st') → W p l e rmX11_bearsOf s m args below meth c H locs 0 0 Q (F0 m 45 ls [.int t0]) := by
    intro st t0 H locs ls hP hD hS hl heq
    unfold X11_bearsOf_p45 at heq
    obtain ⟨heq, heq2⟩ := ret_h heq
    subst heq
    subst heq2
    exact hret 45 H locs ls hP hD hS rfl dX11_bearsOf_45
  have b40 : ∀ (st : MS) (v1 : Int32) (H : Heap) (locs : List Loc) (ls : Array Slot), va_P D vwCl (mW a T st) H → va_D A (mW a T st) → va_S A s.heap H locs → lv_has ls 3 [(0, .ref (a 0)), (1, .int v1)] → X11_bearsOf_p40  st v1 = some (r, st') → W p l e rmX11_bearsOf s m args below meth c H locs 0 0 Q (F0 m 40 ls []) := by
    intro st v1 H locs ls hP hD hS hl heq
    unfold X11_bearsOf_p40 at heq
    refine lv_aload_n hx hb dX11_bearsOf_40 rfl (lv_at hl 0 rfl) ?_
    refine lv_iload_n hx hb dX11_bearsOf_41 rfl (lv_at hl 1 rfl) ?_
    obtain ⟨y_2, st_1, h_3, heq⟩ := bnd_h heq
    refine g_vi (own := RX11) (As := [.int v1]) (rest := []) hx hb hml hown hts (okX11_bearsWhole l D a T h_3) (cwV 1 hts gX11_bearsOf_X11_bearsWhole rfl rfl rfl hdX11_bearsWhole ⟨Nat.le_of_ble_eq_true rfl, Nat.le_of_ble_eq_true rfl⟩) hK hA hP hD hS (ci := 11) (q0 := 0) rfl rfl rfl hl.1 rfl (Nat.le_of_ble_eq_true rfl) dX11_bearsOf_42 ⟨Nat.le_of_ble_eq_true rfl, Nat.le_of_ble_eq_true rfl⟩ (fun H locs hP hD hS => ?_)
    exact b45 st_1 y_2 H locs ls hP hD hS (lv_sub hl [] rfl) heq
  obtain ⟨H, hH⟩ : ∃ H, H = s.heap := ⟨_, rfl⟩
  obtain ⟨locs, hlocs⟩ : ∃ z : List Loc, z = [] := ⟨_, rfl⟩
  have hS : va_S A s.heap H locs := by rw [hH, hlocs]; exact hS
  have hP : va_P D vwCl (mW a T st) H := by rw [hH]; exact hP
  suffices h9 : W p l e rmX11_bearsOf s m args below meth c H locs 0 0 Q (F0 m 0 ls []) by rw [hH, hlocs] at h9; exact h9
  clear hH hlocs
  unfold X11_bearsOf at heq
  refine lv_aload_n hx hb dX11_bearsOf_0 rfl (lv_at hl 0 rfl) ?_
  refine lv_iload_n hx hb dX11_bearsOf_1 rfl (lv_at hl 1 rfl) ?_
  obtain ⟨y_5, st_4, h_6, heq⟩ := bnd_h heq
  refine g_vi (own := RX11) (As := [.int v1]) (rest := []) hx hb hml hown hts (okX11_burnsOf l D a T h_6) (cwV 1 hts gX11_bearsOf_X11_burnsOf rfl rfl rfl hdX11_burnsOf ⟨Nat.le_of_ble_eq_true rfl, Nat.le_of_ble_eq_true rfl⟩) hK hA hP hD hS (ci := 11) (q0 := 0) rfl rfl rfl hl.1 rfl (Nat.le_of_ble_eq_true rfl) dX11_bearsOf_2 ⟨Nat.le_of_ble_eq_true rfl, Nat.le_of_ble_eq_true rfl⟩ (fun H locs hP hD hS => ?_)
  refine lv_istore_n (lv' := [(2, .int y_5), (0, .ref (a 0)), (1, .int v1)]) hx hb dX11_bearsOf_5 rfl hl (by decide) rfl (fun ls hl => ?_)
  refine lv_aload_n hx hb dX11_bearsOf_6 rfl (lv_at hl 1 rfl) ?_
  refine mg (k := 5) (v := .int (gF st_4 5)) hx hb hts hin hown hK hP (by decide) f89 rfl dX11_bearsOf_7 rfl ?_
  refine lv_if_eq (tgt := 40) hx hb dX11_bearsOf_10 (by decide) (fun c_7 => ?_) (fun c_7 => ?_)
  · have heq := it_t c_7 heq
    exact b40 st_4 v1 H locs ls hP hD hS (lv_sub hl [1, 2] rfl) heq
  have heq := it_f c_7 heq
  refine lv_iload_n hx hb dX11_bearsOf_13 rfl (lv_at hl 0 rfl) ?_
  refine lv_if_lt (tgt := 40) hx hb dX11_bearsOf_14 (by decide) (fun c_8 => ?_) (fun c_8 => ?_)
  · have heq := it_t c_8 heq
    exact b40 st_4 v1 H locs ls hP hD hS (lv_sub hl [1, 2] rfl) heq
  have heq := it_f c_8 heq
  refine lv_aload_n hx hb dX11_bearsOf_17 rfl (lv_at hl 1 rfl) ?_
  refine mg (k := 6) (v := .int (gF st_4 6)) hx hb hts hin hown hK hP (by decide) f93 rfl dX11_bearsOf_18 rfl ?_
  refine lv_iload_n hx hb dX11_bearsOf_21 rfl (lv_at hl 0 rfl) ?_
  refine lv_aload_n hx hb dX11_bearsOf_22 rfl (lv_at hl 1 rfl) ?_
  refine mg (k := 18) (v := .ref (a 14)) hx hb hts hin hown hK hP (by decide) f50 rfl dX11_bearsOf_23 rfl ?_
  refine lv_iload_n hx hb dX11_bearsOf_26 rfl (lv_at hl 2 rfl) ?_
  obtain ⟨n_9, heq⟩ := inr_h heq
  refine mal (k := 18) (q := 14) (n := 12) hx hb hK hP rfl n_9 dX11_bearsOf_27 ?_
  refine lv_iload_n hx hb dX11_bearsOf_28 rfl (lv_at hl 0 rfl) ?_
  refine lv_iconst (v := (3 : Int32)) hx hb dX11_bearsOf_29 (by decide) ?_
  obtain ⟨n_10, heq⟩ := dvi_h heq
  refine lv_idiv hx hb dX11_bearsOf_30 n_10 ?_
  refine lv_imul hx hb dX11_bearsOf_31 ?_
  refine lv_iadd hx hb dX11_bearsOf_32 ?_
  refine lv_icmp_lt (tgt := 40) hx hb dX11_bearsOf_33 (by decide) (fun c_11 => ?_) (fun c_11 => ?_)
  · have heq := it_t c_11 heq
    exact b40 st_4 v1 H locs ls hP hD hS (lv_sub hl [1, 2] rfl) heq
  have heq := it_f c_11 heq
  refine lv_iconst (v := (0 : Int32)) hx hb dX11_bearsOf_36 (by decide) ?_
  refine lv_goto (tgt := 45) hx hb dX11_bearsOf_37 (by decide) ?_
  exact b45 st_4 (0 : Int32) H locs ls hP hD hS (lv_sub hl [] rfl) heq
set_option maxRecDepth 20000 in
theorem ggX11_pressesTo_X11_alike : GoodIn wsX11_pressesTo wsX11_alike := goodIn_r _ [6, 7, 8, 9, 10, 11, 12, 13, 14, 15, 16, 17, 18, 19, 20, 21, 22, 23, 24, 25, 26, 27, 28, 29, 30, 31, 32, 33, 34, 35, 36, 37, 38, 39, 40, 41, 42, 43, 44, 45] (by decide +kernel) (by decide +kernel)
set_option maxRecDepth 20000 in
theorem gX11_pressesTo_X11_alike : GoodIn wsX11_pressesTo (wsV RX11 99 RX11 yX11_alike wsX11_alike) := goodIn_app (goodIn_of _ (by decide +kernel)) ggX11_pressesTo_X11_alike
theorem dX11_pressesTo_0 : decode cX11_pressesTo 0 = .ok (.aload_n 0, 1) := by decide +kernel
theorem dX11_pressesTo_1 : decode cX11_pressesTo 1 = .ok (.iload_n 1, 1) := by decide +kernel
theorem dX11_pressesTo_2 : decode cX11_pressesTo 2 = .ok (.aload_n 0, 1) := by decide +kernel
theorem dX11_pressesTo_3 : decode cX11_pressesTo 3 = .ok (.getfield 22, 3) := by decide +kernel
theorem dX11_pressesTo_6 : decode cX11_pressesTo 6 = .ok (.iconst 0, 1) := by decide +kernel
theorem dX11_pressesTo_7 : decode cX11_pressesTo 7 = .ok (.iaload, 1) := by decide +kernel
theorem dX11_pressesTo_8 : decode cX11_pressesTo 8 = .ok (.invokevirtual 99, 3) := by decide +kernel
theorem dX11_pressesTo_11 : decode cX11_pressesTo 11 = .ok (.aload_n 0, 1) := by decide +kernel
theorem dX11_pressesTo_12 : decode cX11_pressesTo 12 = .ok (.getfield 22, 3) := by decide +kernel
theorem dX11_pressesTo_15 : decode cX11_pressesTo 15 = .ok (.iconst 1, 1) := by decide +kernel
theorem dX11_pressesTo_16 : decode cX11_pressesTo 16 = .ok (.iaload, 1) := by decide +kernel
theorem dX11_pressesTo_17 : decode cX11_pressesTo 17 = .ok (.imul, 1) := by decide +kernel
theorem dX11_pressesTo_18 : decode cX11_pressesTo 18 = .ok (.aload_n 0, 1) := by decide +kernel
theorem dX11_pressesTo_19 : decode cX11_pressesTo 19 = .ok (.iload_n 1, 1) := by decide +kernel
theorem dX11_pressesTo_20 : decode cX11_pressesTo 20 = .ok (.aload_n 0, 1) := by decide +kernel
theorem dX11_pressesTo_21 : decode cX11_pressesTo 21 = .ok (.getfield 22, 3) := by decide +kernel
theorem dX11_pressesTo_24 : decode cX11_pressesTo 24 = .ok (.iconst 2, 1) := by decide +kernel
theorem dX11_pressesTo_25 : decode cX11_pressesTo 25 = .ok (.iaload, 1) := by decide +kernel
theorem dX11_pressesTo_26 : decode cX11_pressesTo 26 = .ok (.invokevirtual 99, 3) := by decide +kernel
theorem dX11_pressesTo_29 : decode cX11_pressesTo 29 = .ok (.aload_n 0, 1) := by decide +kernel
theorem dX11_pressesTo_30 : decode cX11_pressesTo 30 = .ok (.getfield 22, 3) := by decide +kernel
theorem dX11_pressesTo_33 : decode cX11_pressesTo 33 = .ok (.iconst 3, 1) := by decide +kernel
theorem dX11_pressesTo_34 : decode cX11_pressesTo 34 = .ok (.iaload, 1) := by decide +kernel
theorem dX11_pressesTo_35 : decode cX11_pressesTo 35 = .ok (.imul, 1) := by decide +kernel
theorem dX11_pressesTo_36 : decode cX11_pressesTo 36 = .ok (.iadd, 1) := by decide +kernel
theorem dX11_pressesTo_37 : decode cX11_pressesTo 37 = .ok (.istore_n 2, 1) := by decide +kernel
theorem dX11_pressesTo_38 : decode cX11_pressesTo 38 = .ok (.aload_n 0, 1) := by decide +kernel
theorem dX11_pressesTo_39 : decode cX11_pressesTo 39 = .ok (.getfield 22, 3) := by decide +kernel
theorem dX11_pressesTo_42 : decode cX11_pressesTo 42 = .ok (.iconst 4, 1) := by decide +kernel
theorem dX11_pressesTo_43 : decode cX11_pressesTo 43 = .ok (.iaload, 1) := by decide +kernel
theorem dX11_pressesTo_44 : decode cX11_pressesTo 44 = .ok (.iload_n 2, 1) := by decide +kernel
theorem dX11_pressesTo_45 : decode cX11_pressesTo 45 = .ok (.bipush 10, 2) := by decide +kernel
theorem dX11_pressesTo_47 : decode cX11_pressesTo 47 = .ok (.idiv, 1) := by decide +kernel
theorem dX11_pressesTo_48 : decode cX11_pressesTo 48 = .ok (.iadd, 1) := by decide +kernel
theorem dX11_pressesTo_49 : decode cX11_pressesTo 49 = .ok (.ireturn, 1) := by decide +kernel
/-! pressesTo -/
def X11_pressesTo (st : MS) (v1 : Int32) : Option (Int32 × MS) :=
    inr (0 : Int32) 7 <|
    bnd (X11_alike st v1 (gA st 4 (0 : Int32).toNatClampNeg)) fun y_3 st_2 =>
    inr (1 : Int32) 7 <|
    inr (2 : Int32) 7 <|
    bnd (X11_alike st_2 v1 (gA st_2 4 (2 : Int32).toNatClampNeg)) fun y_8 st_7 =>
    inr (3 : Int32) 7 <|
    nm (((y_3 * (gA st_2 4 (1 : Int32).toNatClampNeg)) + (y_8 * (gA st_7 4 (3 : Int32).toNatClampNeg)))) fun x_11 =>
    inr (4 : Int32) 7 <|
    dvi (10 : Int32) <|
    some (((gA st_7 4 (4 : Int32).toNatClampNeg) + (x_11 / (10 : Int32))), st_7)
abbrev rmX11_pressesTo : Room := { frames := 1, cells := 0, slots := 0, locals := 22 }
theorem hdX11_pressesTo : yX11_pressesTo.cls = RX11 ∧ yX11_pressesTo.cls ≠ "java/lang/invoke/MethodHandle" ∧ yX11_pressesTo.cls ≠ "java/lang/invoke/VarHandle" ∧ (parseMethodDescriptor yX11_pressesTo.desc).map (fun d => d.parameters.length) = some 1 := by decide +kernel
set_option maxRecDepth 100000 in
set_option maxHeartbeats 4000000 in
theorem okX11_pressesTo (l : Launch) (D : va_G) (a : Nat → Nat) (T : mT3) {st : MS} {v1 : Int32} {r : Int32} {st' : MS} (heq : X11_pressesTo st v1 = some (r, st')) : gCi l D (mT T) yX11_pressesTo wsX11_pressesTo rmX11_pressesTo [.ref (a 0), .int v1] (mW a T st) r (mW a T st') := by
  refine g_body_i (by decide) rfl (Nat.le_of_ble_eq_true rfl) (fun p e s m args below meth c A Q hx hb hml hown hts hK hA hret ls hP hD hS hl => ?_)
  have hl : lv_has ls 3 [(0, .ref (a 0)), (1, .int v1)] := hl
  have hin : ∀ w ∈ wsX110, w ∈ wsX11_pressesTo := fun w h => List.mem_cons_of_mem _ (List.mem_append_right _ h)
  have f22 : (Cond.fieldLink RX11 22 RX11 (TX11 4).2.1 (TX11 4).2.2.1).before args s = true := hts (.fieldLink RX11 22 "LaidDownTheLaneModel" "settings" "[I") (by decide +kernel)
  obtain ⟨H, hH⟩ : ∃ H, H = s.heap := ⟨_, rfl⟩
  obtain ⟨locs, hlocs⟩ : ∃ z : List Loc, z = [] := ⟨_, rfl⟩
  have hS : va_S A s.heap H locs := by rw [hH, hlocs]; exact hS
  have hP : va_P D vwCl (mW a T st) H := by rw [hH]; exact hP
  suffices h9 : W p l e rmX11_pressesTo s m args below meth c H locs 0 0 Q (F0 m 0 ls []) by rw [hH, hlocs] at h9; exact h9
  clear hH hlocs
  unfold X11_pressesTo at heq
  refine lv_aload_n hx hb dX11_pressesTo_0 rfl (lv_at hl 0 rfl) ?_
  refine lv_iload_n hx hb dX11_pressesTo_1 rfl (lv_at hl 1 rfl) ?_
  refine lv_aload_n hx hb dX11_pressesTo_2 rfl (lv_at hl 0 rfl) ?_
  refine mg (k := 4) (v := .ref (a 5)) hx hb hts hin hown hK hP (by decide) f22 rfl dX11_pressesTo_3 rfl ?_
  refine lv_iconst (v := (0 : Int32)) hx hb dX11_pressesTo_6 (by decide) ?_
  obtain ⟨n_1, heq⟩ := inr_h heq
  refine mal (k := 4) (q := 5) (n := 7) hx hb hK hP rfl n_1 dX11_pressesTo_7 ?_
  obtain ⟨y_3, st_2, h_4, heq⟩ := bnd_h heq
  refine g_vi (own := RX11) (As := [.int v1, .int (gA st 4 (0 : Int32).toNatClampNeg)]) (rest := []) hx hb hml hown hts (okX11_alike l D a T h_4) (cwV 2 hts gX11_pressesTo_X11_alike rfl rfl rfl hdX11_alike ⟨Nat.le_of_ble_eq_true rfl, Nat.le_of_ble_eq_true rfl⟩) hK hA hP hD hS (ci := 11) (q0 := 0) rfl rfl rfl hl.1 rfl (Nat.le_of_ble_eq_true rfl) dX11_pressesTo_8 ⟨Nat.le_of_ble_eq_true rfl, Nat.le_of_ble_eq_true rfl⟩ (fun H locs hP hD hS => ?_)
  refine lv_aload_n hx hb dX11_pressesTo_11 rfl (lv_at hl 0 rfl) ?_
  refine mg (k := 4) (v := .ref (a 5)) hx hb hts hin hown hK hP (by decide) f22 rfl dX11_pressesTo_12 rfl ?_
  refine lv_iconst (v := (1 : Int32)) hx hb dX11_pressesTo_15 (by decide) ?_
  obtain ⟨n_5, heq⟩ := inr_h heq
  refine mal (k := 4) (q := 5) (n := 7) hx hb hK hP rfl n_5 dX11_pressesTo_16 ?_
  refine lv_imul hx hb dX11_pressesTo_17 ?_
  refine lv_aload_n hx hb dX11_pressesTo_18 rfl (lv_at hl 0 rfl) ?_
  refine lv_iload_n hx hb dX11_pressesTo_19 rfl (lv_at hl 1 rfl) ?_
  refine lv_aload_n hx hb dX11_pressesTo_20 rfl (lv_at hl 0 rfl) ?_
  refine mg (k := 4) (v := .ref (a 5)) hx hb hts hin hown hK hP (by decide) f22 rfl dX11_pressesTo_21 rfl ?_
  refine lv_iconst (v := (2 : Int32)) hx hb dX11_pressesTo_24 (by decide) ?_
  obtain ⟨n_6, heq⟩ := inr_h heq
  refine mal (k := 4) (q := 5) (n := 7) hx hb hK hP rfl n_6 dX11_pressesTo_25 ?_
  obtain ⟨y_8, st_7, h_9, heq⟩ := bnd_h heq
  refine g_vi (own := RX11) (As := [.int v1, .int (gA st_2 4 (2 : Int32).toNatClampNeg)]) (rest := [.int (y_3 * (gA st_2 4 (1 : Int32).toNatClampNeg))]) hx hb hml hown hts (okX11_alike l D a T h_9) (cwV 2 hts gX11_pressesTo_X11_alike rfl rfl rfl hdX11_alike ⟨Nat.le_of_ble_eq_true rfl, Nat.le_of_ble_eq_true rfl⟩) hK hA hP hD hS (ci := 11) (q0 := 0) rfl rfl rfl hl.1 rfl (Nat.le_of_ble_eq_true rfl) dX11_pressesTo_26 ⟨Nat.le_of_ble_eq_true rfl, Nat.le_of_ble_eq_true rfl⟩ (fun H locs hP hD hS => ?_)
  refine lv_aload_n hx hb dX11_pressesTo_29 rfl (lv_at hl 0 rfl) ?_
  refine mg (k := 4) (v := .ref (a 5)) hx hb hts hin hown hK hP (by decide) f22 rfl dX11_pressesTo_30 rfl ?_
  refine lv_iconst (v := (3 : Int32)) hx hb dX11_pressesTo_33 (by decide) ?_
  obtain ⟨n_10, heq⟩ := inr_h heq
  refine mal (k := 4) (q := 5) (n := 7) hx hb hK hP rfl n_10 dX11_pressesTo_34 ?_
  refine lv_imul hx hb dX11_pressesTo_35 ?_
  refine lv_iadd hx hb dX11_pressesTo_36 ?_
  refine lv_topi (fun x_11 ex_11 => ?_)
  have heq := nm_h ex_11 heq
  refine lv_istore_n (lv' := [(2, .int x_11), (0, .ref (a 0)), (1, .int v1)]) hx hb dX11_pressesTo_37 rfl hl (by decide) rfl (fun ls hl => ?_)
  refine lv_aload_n hx hb dX11_pressesTo_38 rfl (lv_at hl 1 rfl) ?_
  refine mg (k := 4) (v := .ref (a 5)) hx hb hts hin hown hK hP (by decide) f22 rfl dX11_pressesTo_39 rfl ?_
  refine lv_iconst (v := (4 : Int32)) hx hb dX11_pressesTo_42 (by decide) ?_
  obtain ⟨n_12, heq⟩ := inr_h heq
  refine mal (k := 4) (q := 5) (n := 7) hx hb hK hP rfl n_12 dX11_pressesTo_43 ?_
  refine lv_iload_n hx hb dX11_pressesTo_44 rfl (lv_at hl 0 rfl) ?_
  refine lv_bipush (v := (10 : Int32)) hx hb dX11_pressesTo_45 (by decide) ?_
  obtain ⟨n_13, heq⟩ := dvi_h heq
  refine lv_idiv hx hb dX11_pressesTo_47 n_13 ?_
  refine lv_iadd hx hb dX11_pressesTo_48 ?_
  obtain ⟨heq, heq2⟩ := ret_h heq
  subst heq
  subst heq2
  exact hret 49 H locs ls hP hD hS rfl dX11_pressesTo_49
set_option maxRecDepth 20000 in
theorem ggX11_holdsOn_X11_alike : GoodIn wsX11_holdsOn wsX11_alike := goodIn_r _ [5, 6, 7, 25, 26, 27, 28, 29, 30, 31, 32, 33, 34, 35, 36, 37, 38, 39, 40, 41, 42, 43, 44, 45, 46, 47, 48, 49, 50, 51, 52, 53, 54, 55, 56, 57, 58, 59, 60, 61] (by decide +kernel) (by decide +kernel)
set_option maxRecDepth 20000 in
theorem gX11_holdsOn_X11_alike : GoodIn wsX11_holdsOn (wsV RX11 99 RX11 yX11_alike wsX11_alike) := goodIn_app (goodIn_of _ (by decide +kernel)) ggX11_holdsOn_X11_alike
set_option maxRecDepth 20000 in
theorem ggX11_holdsOn_X11_bearsOf : GoodIn wsX11_holdsOn wsX11_bearsOf := goodIn_r _ [11, 12, 13, 14, 15, 16, 17, 4, 18, 19, 20, 21, 22, 23, 24, 25, 26, 27, 28, 29, 30, 31, 32, 33, 34, 35, 36, 37, 38, 39, 40, 41, 42, 43, 44, 45, 46, 47, 48, 49, 50, 51, 52, 53, 54, 55, 56, 57, 58, 59, 60, 61] (by decide +kernel) (by decide +kernel)
set_option maxRecDepth 20000 in
theorem gX11_holdsOn_X11_bearsOf : GoodIn wsX11_holdsOn (wsV RX11 103 RX11 yX11_bearsOf wsX11_bearsOf) := goodIn_app (goodIn_of _ (by decide +kernel)) ggX11_holdsOn_X11_bearsOf
theorem dX11_holdsOn_0 : decode cX11_holdsOn 0 = .ok (.iconst 0, 1) := by decide +kernel
theorem dX11_holdsOn_1 : decode cX11_holdsOn 1 = .ok (.istore_n 2, 1) := by decide +kernel
theorem dX11_holdsOn_2 : decode cX11_holdsOn 2 = .ok (.iconst 0, 1) := by decide +kernel
theorem dX11_holdsOn_3 : decode cX11_holdsOn 3 = .ok (.istore_n 3, 1) := by decide +kernel
theorem dX11_holdsOn_4 : decode cX11_holdsOn 4 = .ok (.iload_n 3, 1) := by decide +kernel
theorem dX11_holdsOn_5 : decode cX11_holdsOn 5 = .ok (.bipush 12, 2) := by decide +kernel
theorem dX11_holdsOn_7 : decode cX11_holdsOn 7 = .ok (.if_icmp .ge 37, 3) := by decide +kernel
theorem dX11_holdsOn_10 : decode cX11_holdsOn 10 = .ok (.iload_n 2, 1) := by decide +kernel
theorem dX11_holdsOn_11 : decode cX11_holdsOn 11 = .ok (.aload_n 0, 1) := by decide +kernel
theorem dX11_holdsOn_12 : decode cX11_holdsOn 12 = .ok (.iload_n 3, 1) := by decide +kernel
theorem dX11_holdsOn_13 : decode cX11_holdsOn 13 = .ok (.iload_n 1, 1) := by decide +kernel
theorem dX11_holdsOn_14 : decode cX11_holdsOn 14 = .ok (.invokevirtual 99, 3) := by decide +kernel
theorem dX11_holdsOn_17 : decode cX11_holdsOn 17 = .ok (.ifCond .le 18, 3) := by decide +kernel
theorem dX11_holdsOn_20 : decode cX11_holdsOn 20 = .ok (.aload_n 0, 1) := by decide +kernel
theorem dX11_holdsOn_21 : decode cX11_holdsOn 21 = .ok (.iload_n 3, 1) := by decide +kernel
theorem dX11_holdsOn_22 : decode cX11_holdsOn 22 = .ok (.invokevirtual 103, 3) := by decide +kernel
theorem dX11_holdsOn_25 : decode cX11_holdsOn 25 = .ok (.aload_n 0, 1) := by decide +kernel
theorem dX11_holdsOn_26 : decode cX11_holdsOn 26 = .ok (.iload_n 3, 1) := by decide +kernel
theorem dX11_holdsOn_27 : decode cX11_holdsOn 27 = .ok (.iload_n 1, 1) := by decide +kernel
theorem dX11_holdsOn_28 : decode cX11_holdsOn 28 = .ok (.invokevirtual 99, 3) := by decide +kernel
theorem dX11_holdsOn_31 : decode cX11_holdsOn 31 = .ok (.imul, 1) := by decide +kernel
theorem dX11_holdsOn_32 : decode cX11_holdsOn 32 = .ok (.goto 4, 3) := by decide +kernel
theorem dX11_holdsOn_35 : decode cX11_holdsOn 35 = .ok (.iconst 0, 1) := by decide +kernel
theorem dX11_holdsOn_36 : decode cX11_holdsOn 36 = .ok (.iadd, 1) := by decide +kernel
theorem dX11_holdsOn_37 : decode cX11_holdsOn 37 = .ok (.istore_n 2, 1) := by decide +kernel
theorem dX11_holdsOn_38 : decode cX11_holdsOn 38 = .ok (.iinc 3 1, 3) := by decide +kernel
theorem dX11_holdsOn_41 : decode cX11_holdsOn 41 = .ok (.goto (-37), 3) := by decide +kernel
theorem dX11_holdsOn_44 : decode cX11_holdsOn 44 = .ok (.iload_n 2, 1) := by decide +kernel
theorem dX11_holdsOn_45 : decode cX11_holdsOn 45 = .ok (.bipush 10, 2) := by decide +kernel
theorem dX11_holdsOn_47 : decode cX11_holdsOn 47 = .ok (.idiv, 1) := by decide +kernel
theorem dX11_holdsOn_48 : decode cX11_holdsOn 48 = .ok (.ireturn, 1) := by decide +kernel
/-! holdsOn -/
def X11_holdsOn_p36 (k4 : MS → Int32 → Int32 → Int32 → Option (Int32 × MS)) (st : MS) (v1 : Int32) (v3 : Int32) (t0 : Int32) (t1 : Int32) : Option (Int32 × MS) :=
    nm ((t0 + t1)) fun x_1 =>
    nm (v3 + (1 : Int32)) fun x_2 =>
    k4 st v1 x_1 x_2
def X11_holdsOn_p44 (st : MS) (v2 : Int32) : Option (Int32 × MS) :=
    dvi (10 : Int32) <|
    some ((v2 / (10 : Int32)), st)
def X11_holdsOn_p4 : Nat → MS → Int32 → Int32 → Int32 → Option (Int32 × MS)
  | 0, _, _, _, _ => none
  | n + 1, st, v1, v2, v3 =>
    if (12 : Int32) ≤ v3 then
      (X11_holdsOn_p44 st v2)
    else
    bnd (X11_alike st v3 v1) fun y_6 st_5 =>
    if y_6 ≤ 0 then
      (X11_holdsOn_p36 (fun st v1 v2 v3 => X11_holdsOn_p4  n st v1 v2 v3) st_5 v1 v3 v2 (0 : Int32))
    else
    bnd (X11_bearsOf st_5 v3) fun y_10 st_9 =>
    bnd (X11_alike st_9 v3 v1) fun y_13 st_12 =>
    X11_holdsOn_p36 (fun st v1 v2 v3 => X11_holdsOn_p4  n st v1 v2 v3) st_12 v1 v3 v2 (y_10 * y_13)
theorem X11_holdsOn_p4_s (n : Nat) (st : MS) (v1 : Int32) (v2 : Int32) (v3 : Int32) : X11_holdsOn_p4  (n + 1) st v1 v2 v3 =
    (if (12 : Int32) ≤ v3 then
      (X11_holdsOn_p44 st v2)
    else
    bnd (X11_alike st v3 v1) fun y_6 st_5 =>
    if y_6 ≤ 0 then
      (X11_holdsOn_p36 (fun st v1 v2 v3 => X11_holdsOn_p4  n st v1 v2 v3) st_5 v1 v3 v2 (0 : Int32))
    else
    bnd (X11_bearsOf st_5 v3) fun y_10 st_9 =>
    bnd (X11_alike st_9 v3 v1) fun y_13 st_12 =>
    X11_holdsOn_p36 (fun st v1 v2 v3 => X11_holdsOn_p4  n st v1 v2 v3) st_12 v1 v3 v2 (y_10 * y_13)) := rfl
def X11_holdsOn (st : MS) (v1 : Int32) : Option (Int32 × MS) :=
    X11_holdsOn_p4 13 st v1 (0 : Int32) (0 : Int32)
abbrev rmX11_holdsOn : Room := { frames := 2, cells := 0, slots := 0, locals := 44 }
theorem hdX11_holdsOn : yX11_holdsOn.cls = RX11 ∧ yX11_holdsOn.cls ≠ "java/lang/invoke/MethodHandle" ∧ yX11_holdsOn.cls ≠ "java/lang/invoke/VarHandle" ∧ (parseMethodDescriptor yX11_holdsOn.desc).map (fun d => d.parameters.length) = some 1 := by decide +kernel
set_option maxRecDepth 100000 in
set_option maxHeartbeats 4000000 in
theorem okX11_holdsOn (l : Launch) (D : va_G) (a : Nat → Nat) (T : mT3) {st : MS} {v1 : Int32} {r : Int32} {st' : MS} (heq : X11_holdsOn st v1 = some (r, st')) : gCi l D (mT T) yX11_holdsOn wsX11_holdsOn rmX11_holdsOn [.ref (a 0), .int v1] (mW a T st) r (mW a T st') := by
  refine g_body_i (by decide) rfl (Nat.le_of_ble_eq_true rfl) (fun p e s m args below meth c A Q hx hb hml hown hts hK hA hret ls hP hD hS hl => ?_)
  have hl : lv_has ls 4 [(0, .ref (a 0)), (1, .int v1)] := hl
  have b36 : ∀ (k4 : MS → Int32 → Int32 → Int32 → Option (Int32 × MS)) (hk4 : ∀ (st : MS) (v1 : Int32) (v2 : Int32) (v3 : Int32) (H : Heap) (locs : List Loc) (ls : Array Slot), va_P D vwCl (mW a T st) H → va_D A (mW a T st) → va_S A s.heap H locs → lv_has ls 4 [(0, .ref (a 0)), (1, .int v1), (2, .int v2), (3, .int v3)] → k4 st v1 v2 v3 = some (r, st') → W p l e rmX11_holdsOn s m args below meth c H locs 0 0 Q (F0 m 4 ls [])), ∀ (st : MS) (v1 : Int32) (v3 : Int32) (t0 : Int32) (t1 : Int32) (H : Heap) (locs : List Loc) (ls : Array Slot), va_P D vwCl (mW a T st) H → va_D A (mW a T st) → va_S A s.heap H locs → lv_has ls 4 [(0, .ref (a 0)), (1, .int v1), (3, .int v3)] → X11_holdsOn_p36 k4 st v1 v3 t0 t1 = some (r, st') → W p l e rmX11_holdsOn s m args below meth c H locs 0 0 Q (F0 m 36 ls [.int t1, .int t0]) := by
    intro k4 hk4 st v1 v3 t0 t1 H locs ls hP hD hS hl heq
    unfold X11_holdsOn_p36 at heq
    refine lv_iadd hx hb dX11_holdsOn_36 ?_
    refine lv_topi (fun x_1 ex_1 => ?_)
    have heq := nm_h ex_1 heq
    refine lv_istore_n (lv' := [(2, .int x_1), (0, .ref (a 0)), (1, .int v1), (3, .int v3)]) hx hb dX11_holdsOn_37 rfl hl (by decide) rfl (fun ls hl => ?_)
    obtain ⟨x_2, ex_2⟩ : ∃ y : Int32, y = v3 + (1 : Int32) := ⟨_, rfl⟩
    have heq := nm_h ex_2 heq
    refine lv_iinc (v := x_2) (lv' := [(3, .int x_2), (2, .int x_1), (0, .ref (a 0)), (1, .int v1)]) hx hb dX11_holdsOn_38 hl (k := 3) rfl (by rw [ex_2]; rfl) (by decide) rfl (fun ls hl => ?_)
    refine lv_goto (tgt := 4) hx hb dX11_holdsOn_41 (by decide) ?_
    exact hk4 st v1 x_1 x_2 H locs ls hP hD hS (lv_sub hl [2, 3, 1, 0] rfl) heq
  have b44 : ∀ (st : MS) (v2 : Int32) (H : Heap) (locs : List Loc) (ls : Array Slot), va_P D vwCl (mW a T st) H → va_D A (mW a T st) → va_S A s.heap H locs → lv_has ls 4 [(2, .int v2)] → X11_holdsOn_p44  st v2 = some (r, st') → W p l e rmX11_holdsOn s m args below meth c H locs 0 0 Q (F0 m 44 ls []) := by
    intro st v2 H locs ls hP hD hS hl heq
    unfold X11_holdsOn_p44 at heq
    refine lv_iload_n hx hb dX11_holdsOn_44 rfl (lv_at hl 0 rfl) ?_
    refine lv_bipush (v := (10 : Int32)) hx hb dX11_holdsOn_45 (by decide) ?_
    obtain ⟨n_3, heq⟩ := dvi_h heq
    refine lv_idiv hx hb dX11_holdsOn_47 n_3 ?_
    obtain ⟨heq, heq2⟩ := ret_h heq
    subst heq
    subst heq2
    exact hret 48 H locs ls hP hD hS rfl dX11_holdsOn_48
  have b4 : ∀ (n : Nat), ∀ (st : MS) (v1 : Int32) (v2 : Int32) (v3 : Int32) (H : Heap) (locs : List Loc) (ls : Array Slot), va_P D vwCl (mW a T st) H → va_D A (mW a T st) → va_S A s.heap H locs → lv_has ls 4 [(0, .ref (a 0)), (1, .int v1), (2, .int v2), (3, .int v3)] → X11_holdsOn_p4  n st v1 v2 v3 = some (r, st') → W p l e rmX11_holdsOn s m args below meth c H locs 0 0 Q (F0 m 4 ls []) := by
    intro n
    induction n with
    | zero => intro st v1 v2 v3 H locs ls hP hD hS hl heq; cases heq
    | succ n ih =>
      intro st v1 v2 v3 H locs ls hP hD hS hl heq
      rw [X11_holdsOn_p4_s] at heq
      refine lv_iload_n hx hb dX11_holdsOn_4 rfl (lv_at hl 3 rfl) ?_
      refine lv_bipush (v := (12 : Int32)) hx hb dX11_holdsOn_5 (by decide) ?_
      refine lv_icmp_ge (tgt := 44) hx hb dX11_holdsOn_7 (by decide) (fun c_4 => ?_) (fun c_4 => ?_)
      · have heq := it_t c_4 heq
        exact b44 st v2 H locs ls hP hD hS (lv_sub hl [2] rfl) heq
      have heq := it_f c_4 heq
      refine lv_iload_n hx hb dX11_holdsOn_10 rfl (lv_at hl 2 rfl) ?_
      refine lv_aload_n hx hb dX11_holdsOn_11 rfl (lv_at hl 0 rfl) ?_
      refine lv_iload_n hx hb dX11_holdsOn_12 rfl (lv_at hl 3 rfl) ?_
      refine lv_iload_n hx hb dX11_holdsOn_13 rfl (lv_at hl 1 rfl) ?_
      obtain ⟨y_6, st_5, h_7, heq⟩ := bnd_h heq
      refine g_vi (own := RX11) (As := [.int v3, .int v1]) (rest := [.int v2]) hx hb hml hown hts (okX11_alike l D a T h_7) (cwV 2 hts gX11_holdsOn_X11_alike rfl rfl rfl hdX11_alike ⟨Nat.le_of_ble_eq_true rfl, Nat.le_of_ble_eq_true rfl⟩) hK hA hP hD hS (ci := 11) (q0 := 0) rfl rfl rfl hl.1 rfl (Nat.le_of_ble_eq_true rfl) dX11_holdsOn_14 ⟨Nat.le_of_ble_eq_true rfl, Nat.le_of_ble_eq_true rfl⟩ (fun H locs hP hD hS => ?_)
      refine lv_if_le (tgt := 35) hx hb dX11_holdsOn_17 (by decide) (fun c_8 => ?_) (fun c_8 => ?_)
      · have heq := it_t c_8 heq
        refine lv_iconst (v := (0 : Int32)) hx hb dX11_holdsOn_35 (by decide) ?_
        exact b36 (fun st v1 v2 v3 => X11_holdsOn_p4  n st v1 v2 v3) ih st_5 v1 v3 v2 (0 : Int32) H locs ls hP hD hS (lv_sub hl [0, 1, 3] rfl) heq
      have heq := it_f c_8 heq
      refine lv_aload_n hx hb dX11_holdsOn_20 rfl (lv_at hl 0 rfl) ?_
      refine lv_iload_n hx hb dX11_holdsOn_21 rfl (lv_at hl 3 rfl) ?_
      obtain ⟨y_10, st_9, h_11, heq⟩ := bnd_h heq
      refine g_vi (own := RX11) (As := [.int v3]) (rest := [.int v2]) hx hb hml hown hts (okX11_bearsOf l D a T h_11) (cwV 1 hts gX11_holdsOn_X11_bearsOf rfl rfl rfl hdX11_bearsOf ⟨Nat.le_of_ble_eq_true rfl, Nat.le_of_ble_eq_true rfl⟩) hK hA hP hD hS (ci := 11) (q0 := 0) rfl rfl rfl hl.1 rfl (Nat.le_of_ble_eq_true rfl) dX11_holdsOn_22 ⟨Nat.le_of_ble_eq_true rfl, Nat.le_of_ble_eq_true rfl⟩ (fun H locs hP hD hS => ?_)
      refine lv_aload_n hx hb dX11_holdsOn_25 rfl (lv_at hl 0 rfl) ?_
      refine lv_iload_n hx hb dX11_holdsOn_26 rfl (lv_at hl 3 rfl) ?_
      refine lv_iload_n hx hb dX11_holdsOn_27 rfl (lv_at hl 1 rfl) ?_
      obtain ⟨y_13, st_12, h_14, heq⟩ := bnd_h heq
      refine g_vi (own := RX11) (As := [.int v3, .int v1]) (rest := [.int y_10, .int v2]) hx hb hml hown hts (okX11_alike l D a T h_14) (cwV 2 hts gX11_holdsOn_X11_alike rfl rfl rfl hdX11_alike ⟨Nat.le_of_ble_eq_true rfl, Nat.le_of_ble_eq_true rfl⟩) hK hA hP hD hS (ci := 11) (q0 := 0) rfl rfl rfl hl.1 rfl (Nat.le_of_ble_eq_true rfl) dX11_holdsOn_28 ⟨Nat.le_of_ble_eq_true rfl, Nat.le_of_ble_eq_true rfl⟩ (fun H locs hP hD hS => ?_)
      refine lv_imul hx hb dX11_holdsOn_31 ?_
      refine lv_goto (tgt := 36) hx hb dX11_holdsOn_32 (by decide) ?_
      exact b36 (fun st v1 v2 v3 => X11_holdsOn_p4  n st v1 v2 v3) ih st_12 v1 v3 v2 (y_10 * y_13) H locs ls hP hD hS (lv_sub hl [0, 1, 3] rfl) heq
  obtain ⟨H, hH⟩ : ∃ H, H = s.heap := ⟨_, rfl⟩
  obtain ⟨locs, hlocs⟩ : ∃ z : List Loc, z = [] := ⟨_, rfl⟩
  have hS : va_S A s.heap H locs := by rw [hH, hlocs]; exact hS
  have hP : va_P D vwCl (mW a T st) H := by rw [hH]; exact hP
  suffices h9 : W p l e rmX11_holdsOn s m args below meth c H locs 0 0 Q (F0 m 0 ls []) by rw [hH, hlocs] at h9; exact h9
  clear hH hlocs
  unfold X11_holdsOn at heq
  refine lv_iconst (v := (0 : Int32)) hx hb dX11_holdsOn_0 (by decide) ?_
  refine lv_istore_n (lv' := [(2, .int (0 : Int32)), (0, .ref (a 0)), (1, .int v1)]) hx hb dX11_holdsOn_1 rfl hl (by decide) rfl (fun ls hl => ?_)
  refine lv_iconst (v := (0 : Int32)) hx hb dX11_holdsOn_2 (by decide) ?_
  refine lv_istore_n (lv' := [(3, .int (0 : Int32)), (2, .int (0 : Int32)), (0, .ref (a 0)), (1, .int v1)]) hx hb dX11_holdsOn_3 rfl hl (by decide) rfl (fun ls hl => ?_)
  exact b4 13 st v1 (0 : Int32) (0 : Int32) H locs ls hP hD hS (lv_sub hl [2, 3, 1, 0] rfl) heq
set_option maxRecDepth 20000 in
theorem ggX11_lacksOn_X11_pressesTo : GoodIn wsX11_lacksOn wsX11_pressesTo := goodIn_r _ [5, 6, 7, 8, 9, 4, 10, 11, 12, 34, 35, 36, 37, 38, 39, 40, 41, 42, 43, 44, 45, 46, 47, 48, 49, 50, 51, 52, 53, 54, 55, 56, 57, 58, 59, 60, 61, 62, 63, 64, 65, 66, 67, 68, 69, 70] (by decide +kernel) (by decide +kernel)
set_option maxRecDepth 20000 in
theorem gX11_lacksOn_X11_pressesTo : GoodIn wsX11_lacksOn (wsV RX11 106 RX11 yX11_pressesTo wsX11_pressesTo) := goodIn_app (goodIn_of _ (by decide +kernel)) ggX11_lacksOn_X11_pressesTo
set_option maxRecDepth 20000 in
theorem ggX11_lacksOn_X11_holdsOn : GoodIn wsX11_lacksOn wsX11_holdsOn := goodIn_r _ [16, 7, 8, 9, 4, 10, 11, 12, 17, 18, 19, 20, 21, 22, 23, 24, 25, 26, 27, 28, 29, 30, 31, 32, 33, 34, 35, 36, 37, 38, 39, 40, 41, 42, 43, 44, 45, 46, 47, 48, 49, 50, 51, 52, 53, 54, 55, 56, 57, 58, 59, 60, 61, 62, 63, 64, 65, 66, 67, 68, 69, 70] (by decide +kernel) (by decide +kernel)
set_option maxRecDepth 20000 in
theorem gX11_lacksOn_X11_holdsOn : GoodIn wsX11_lacksOn (wsV RX11 109 RX11 yX11_holdsOn wsX11_holdsOn) := goodIn_app (goodIn_of _ (by decide +kernel)) ggX11_lacksOn_X11_holdsOn
theorem dX11_lacksOn_0 : decode cX11_lacksOn 0 = .ok (.aload_n 0, 1) := by decide +kernel
theorem dX11_lacksOn_1 : decode cX11_lacksOn 1 = .ok (.iload_n 1, 1) := by decide +kernel
theorem dX11_lacksOn_2 : decode cX11_lacksOn 2 = .ok (.invokevirtual 106, 3) := by decide +kernel
theorem dX11_lacksOn_5 : decode cX11_lacksOn 5 = .ok (.aload_n 0, 1) := by decide +kernel
theorem dX11_lacksOn_6 : decode cX11_lacksOn 6 = .ok (.iload_n 1, 1) := by decide +kernel
theorem dX11_lacksOn_7 : decode cX11_lacksOn 7 = .ok (.invokevirtual 109, 3) := by decide +kernel
theorem dX11_lacksOn_10 : decode cX11_lacksOn 10 = .ok (.isub, 1) := by decide +kernel
theorem dX11_lacksOn_11 : decode cX11_lacksOn 11 = .ok (.ireturn, 1) := by decide +kernel
/-! lacksOn -/
def X11_lacksOn (st : MS) (v1 : Int32) : Option (Int32 × MS) :=
    bnd (X11_pressesTo st v1) fun y_2 st_1 =>
    bnd (X11_holdsOn st_1 v1) fun y_5 st_4 =>
    some ((y_2 - y_5), st_4)
abbrev rmX11_lacksOn : Room := { frames := 3, cells := 0, slots := 0, locals := 67 }
theorem hdX11_lacksOn : yX11_lacksOn.cls = RX11 ∧ yX11_lacksOn.cls ≠ "java/lang/invoke/MethodHandle" ∧ yX11_lacksOn.cls ≠ "java/lang/invoke/VarHandle" ∧ (parseMethodDescriptor yX11_lacksOn.desc).map (fun d => d.parameters.length) = some 1 := by decide +kernel
set_option maxRecDepth 100000 in
set_option maxHeartbeats 4000000 in
theorem okX11_lacksOn (l : Launch) (D : va_G) (a : Nat → Nat) (T : mT3) {st : MS} {v1 : Int32} {r : Int32} {st' : MS} (heq : X11_lacksOn st v1 = some (r, st')) : gCi l D (mT T) yX11_lacksOn wsX11_lacksOn rmX11_lacksOn [.ref (a 0), .int v1] (mW a T st) r (mW a T st') := by
  refine g_body_i (by decide) rfl (Nat.le_of_ble_eq_true rfl) (fun p e s m args below meth c A Q hx hb hml hown hts hK hA hret ls hP hD hS hl => ?_)
  have hl : lv_has ls 2 [(0, .ref (a 0)), (1, .int v1)] := hl
  obtain ⟨H, hH⟩ : ∃ H, H = s.heap := ⟨_, rfl⟩
  obtain ⟨locs, hlocs⟩ : ∃ z : List Loc, z = [] := ⟨_, rfl⟩
  have hS : va_S A s.heap H locs := by rw [hH, hlocs]; exact hS
  have hP : va_P D vwCl (mW a T st) H := by rw [hH]; exact hP
  suffices h9 : W p l e rmX11_lacksOn s m args below meth c H locs 0 0 Q (F0 m 0 ls []) by rw [hH, hlocs] at h9; exact h9
  clear hH hlocs
  unfold X11_lacksOn at heq
  refine lv_aload_n hx hb dX11_lacksOn_0 rfl (lv_at hl 0 rfl) ?_
  refine lv_iload_n hx hb dX11_lacksOn_1 rfl (lv_at hl 1 rfl) ?_
  obtain ⟨y_2, st_1, h_3, heq⟩ := bnd_h heq
  refine g_vi (own := RX11) (As := [.int v1]) (rest := []) hx hb hml hown hts (okX11_pressesTo l D a T h_3) (cwV 1 hts gX11_lacksOn_X11_pressesTo rfl rfl rfl hdX11_pressesTo ⟨Nat.le_of_ble_eq_true rfl, Nat.le_of_ble_eq_true rfl⟩) hK hA hP hD hS (ci := 11) (q0 := 0) rfl rfl rfl hl.1 rfl (Nat.le_of_ble_eq_true rfl) dX11_lacksOn_2 ⟨Nat.le_of_ble_eq_true rfl, Nat.le_of_ble_eq_true rfl⟩ (fun H locs hP hD hS => ?_)
  refine lv_aload_n hx hb dX11_lacksOn_5 rfl (lv_at hl 0 rfl) ?_
  refine lv_iload_n hx hb dX11_lacksOn_6 rfl (lv_at hl 1 rfl) ?_
  obtain ⟨y_5, st_4, h_6, heq⟩ := bnd_h heq
  refine g_vi (own := RX11) (As := [.int v1]) (rest := [.int y_2]) hx hb hml hown hts (okX11_holdsOn l D a T h_6) (cwV 1 hts gX11_lacksOn_X11_holdsOn rfl rfl rfl hdX11_holdsOn ⟨Nat.le_of_ble_eq_true rfl, Nat.le_of_ble_eq_true rfl⟩) hK hA hP hD hS (ci := 11) (q0 := 0) rfl rfl rfl hl.1 rfl (Nat.le_of_ble_eq_true rfl) dX11_lacksOn_7 ⟨Nat.le_of_ble_eq_true rfl, Nat.le_of_ble_eq_true rfl⟩ (fun H locs hP hD hS => ?_)
  refine lv_isub hx hb dX11_lacksOn_10 ?_
  obtain ⟨heq, heq2⟩ := ret_h heq
  subst heq
  subst heq2
  exact hret 11 H locs ls hP hD hS rfl dX11_lacksOn_11
set_option maxRecDepth 20000 in
theorem ggX11_weakestSide_X11_lacksOn : GoodIn wsX11_weakestSide wsX11_lacksOn := goodIn_r _ [5, 6, 7, 8, 4, 9, 10, 11, 12, 13, 14, 15, 16, 17, 18, 19, 20, 21, 22, 23, 24, 25, 26, 27, 28, 29, 30, 31, 32, 33, 34, 35, 36, 37, 38, 39, 40, 41, 42, 43, 44, 45, 46, 47, 48, 49, 50, 51, 52, 53, 54, 55, 56, 57, 58, 59, 60, 61, 62, 63, 64, 65, 66, 67, 68, 69, 70, 71, 72, 73, 74] (by decide +kernel) (by decide +kernel)
set_option maxRecDepth 20000 in
theorem gX11_weakestSide_X11_lacksOn : GoodIn wsX11_weakestSide (wsV RX11 112 RX11 yX11_lacksOn wsX11_lacksOn) := goodIn_app (goodIn_of _ (by decide +kernel)) ggX11_weakestSide_X11_lacksOn
theorem dX11_weakestSide_0 : decode cX11_weakestSide 0 = .ok (.iconst 0, 1) := by decide +kernel
theorem dX11_weakestSide_1 : decode cX11_weakestSide 1 = .ok (.istore_n 1, 1) := by decide +kernel
theorem dX11_weakestSide_2 : decode cX11_weakestSide 2 = .ok (.iconst 1, 1) := by decide +kernel
theorem dX11_weakestSide_3 : decode cX11_weakestSide 3 = .ok (.istore_n 2, 1) := by decide +kernel
theorem dX11_weakestSide_4 : decode cX11_weakestSide 4 = .ok (.iload_n 2, 1) := by decide +kernel
theorem dX11_weakestSide_5 : decode cX11_weakestSide 5 = .ok (.bipush 12, 2) := by decide +kernel
theorem dX11_weakestSide_7 : decode cX11_weakestSide 7 = .ok (.if_icmp .ge 28, 3) := by decide +kernel
theorem dX11_weakestSide_10 : decode cX11_weakestSide 10 = .ok (.aload_n 0, 1) := by decide +kernel
theorem dX11_weakestSide_11 : decode cX11_weakestSide 11 = .ok (.iload_n 2, 1) := by decide +kernel
theorem dX11_weakestSide_12 : decode cX11_weakestSide 12 = .ok (.invokevirtual 112, 3) := by decide +kernel
theorem dX11_weakestSide_15 : decode cX11_weakestSide 15 = .ok (.aload_n 0, 1) := by decide +kernel
theorem dX11_weakestSide_16 : decode cX11_weakestSide 16 = .ok (.iload_n 1, 1) := by decide +kernel
theorem dX11_weakestSide_17 : decode cX11_weakestSide 17 = .ok (.invokevirtual 112, 3) := by decide +kernel
theorem dX11_weakestSide_20 : decode cX11_weakestSide 20 = .ok (.if_icmp .le 7, 3) := by decide +kernel
theorem dX11_weakestSide_23 : decode cX11_weakestSide 23 = .ok (.iload_n 2, 1) := by decide +kernel
theorem dX11_weakestSide_24 : decode cX11_weakestSide 24 = .ok (.goto 4, 3) := by decide +kernel
theorem dX11_weakestSide_27 : decode cX11_weakestSide 27 = .ok (.iload_n 1, 1) := by decide +kernel
theorem dX11_weakestSide_28 : decode cX11_weakestSide 28 = .ok (.istore_n 1, 1) := by decide +kernel
theorem dX11_weakestSide_29 : decode cX11_weakestSide 29 = .ok (.iinc 2 1, 3) := by decide +kernel
theorem dX11_weakestSide_32 : decode cX11_weakestSide 32 = .ok (.goto (-28), 3) := by decide +kernel
theorem dX11_weakestSide_35 : decode cX11_weakestSide 35 = .ok (.iload_n 1, 1) := by decide +kernel
theorem dX11_weakestSide_36 : decode cX11_weakestSide 36 = .ok (.ireturn, 1) := by decide +kernel
/-! weakestSide -/
def X11_weakestSide_p28 (k4 : MS → Int32 → Int32 → Option (Int32 × MS)) (st : MS) (v2 : Int32) (t0 : Int32) : Option (Int32 × MS) :=
    nm (v2 + (1 : Int32)) fun x_1 =>
    k4 st t0 x_1
def X11_weakestSide_p35 (st : MS) (v1 : Int32) : Option (Int32 × MS) :=
    some (v1, st)
def X11_weakestSide_p4 : Nat → MS → Int32 → Int32 → Option (Int32 × MS)
  | 0, _, _, _ => none
  | n + 1, st, v1, v2 =>
    if (12 : Int32) ≤ v2 then
      (X11_weakestSide_p35 st v1)
    else
    bnd (X11_lacksOn st v2) fun y_4 st_3 =>
    bnd (X11_lacksOn st_3 v1) fun y_7 st_6 =>
    if y_4 ≤ y_7 then
      (X11_weakestSide_p28 (fun st v1 v2 => X11_weakestSide_p4  n st v1 v2) st_6 v2 v1)
    else
    X11_weakestSide_p28 (fun st v1 v2 => X11_weakestSide_p4  n st v1 v2) st_6 v2 v2
theorem X11_weakestSide_p4_s (n : Nat) (st : MS) (v1 : Int32) (v2 : Int32) : X11_weakestSide_p4  (n + 1) st v1 v2 =
    (if (12 : Int32) ≤ v2 then
      (X11_weakestSide_p35 st v1)
    else
    bnd (X11_lacksOn st v2) fun y_4 st_3 =>
    bnd (X11_lacksOn st_3 v1) fun y_7 st_6 =>
    if y_4 ≤ y_7 then
      (X11_weakestSide_p28 (fun st v1 v2 => X11_weakestSide_p4  n st v1 v2) st_6 v2 v1)
    else
    X11_weakestSide_p28 (fun st v1 v2 => X11_weakestSide_p4  n st v1 v2) st_6 v2 v2) := rfl
def X11_weakestSide (st : MS) : Option (Int32 × MS) :=
    X11_weakestSide_p4 13 st (0 : Int32) (1 : Int32)
abbrev rmX11_weakestSide : Room := { frames := 4, cells := 0, slots := 0, locals := 88 }
theorem hdX11_weakestSide : yX11_weakestSide.cls = RX11 ∧ yX11_weakestSide.cls ≠ "java/lang/invoke/MethodHandle" ∧ yX11_weakestSide.cls ≠ "java/lang/invoke/VarHandle" ∧ (parseMethodDescriptor yX11_weakestSide.desc).map (fun d => d.parameters.length) = some 0 := by decide +kernel
set_option maxRecDepth 100000 in
set_option maxHeartbeats 4000000 in
theorem okX11_weakestSide (l : Launch) (D : va_G) (a : Nat → Nat) (T : mT3) {st : MS} {r : Int32} {st' : MS} (heq : X11_weakestSide st = some (r, st')) : gCi l D (mT T) yX11_weakestSide wsX11_weakestSide rmX11_weakestSide [.ref (a 0)] (mW a T st) r (mW a T st') := by
  refine g_body_i (by decide) rfl (Nat.le_of_ble_eq_true rfl) (fun p e s m args below meth c A Q hx hb hml hown hts hK hA hret ls hP hD hS hl => ?_)
  have hl : lv_has ls 3 [(0, .ref (a 0))] := hl
  have b28 : ∀ (k4 : MS → Int32 → Int32 → Option (Int32 × MS)) (hk4 : ∀ (st : MS) (v1 : Int32) (v2 : Int32) (H : Heap) (locs : List Loc) (ls : Array Slot), va_P D vwCl (mW a T st) H → va_D A (mW a T st) → va_S A s.heap H locs → lv_has ls 3 [(0, .ref (a 0)), (1, .int v1), (2, .int v2)] → k4 st v1 v2 = some (r, st') → W p l e rmX11_weakestSide s m args below meth c H locs 0 0 Q (F0 m 4 ls [])), ∀ (st : MS) (v2 : Int32) (t0 : Int32) (H : Heap) (locs : List Loc) (ls : Array Slot), va_P D vwCl (mW a T st) H → va_D A (mW a T st) → va_S A s.heap H locs → lv_has ls 3 [(0, .ref (a 0)), (2, .int v2)] → X11_weakestSide_p28 k4 st v2 t0 = some (r, st') → W p l e rmX11_weakestSide s m args below meth c H locs 0 0 Q (F0 m 28 ls [.int t0]) := by
    intro k4 hk4 st v2 t0 H locs ls hP hD hS hl heq
    unfold X11_weakestSide_p28 at heq
    refine lv_istore_n (lv' := [(1, .int t0), (0, .ref (a 0)), (2, .int v2)]) hx hb dX11_weakestSide_28 rfl hl (by decide) rfl (fun ls hl => ?_)
    obtain ⟨x_1, ex_1⟩ : ∃ y : Int32, y = v2 + (1 : Int32) := ⟨_, rfl⟩
    have heq := nm_h ex_1 heq
    refine lv_iinc (v := x_1) (lv' := [(2, .int x_1), (1, .int t0), (0, .ref (a 0))]) hx hb dX11_weakestSide_29 hl (k := 2) rfl (by rw [ex_1]; rfl) (by decide) rfl (fun ls hl => ?_)
    refine lv_goto (tgt := 4) hx hb dX11_weakestSide_32 (by decide) ?_
    exact hk4 st t0 x_1 H locs ls hP hD hS (lv_sub hl [2, 1, 0] rfl) heq
  have b35 : ∀ (st : MS) (v1 : Int32) (H : Heap) (locs : List Loc) (ls : Array Slot), va_P D vwCl (mW a T st) H → va_D A (mW a T st) → va_S A s.heap H locs → lv_has ls 3 [(1, .int v1)] → X11_weakestSide_p35  st v1 = some (r, st') → W p l e rmX11_weakestSide s m args below meth c H locs 0 0 Q (F0 m 35 ls []) := by
    intro st v1 H locs ls hP hD hS hl heq
    unfold X11_weakestSide_p35 at heq
    refine lv_iload_n hx hb dX11_weakestSide_35 rfl (lv_at hl 0 rfl) ?_
    obtain ⟨heq, heq2⟩ := ret_h heq
    subst heq
    subst heq2
    exact hret 36 H locs ls hP hD hS rfl dX11_weakestSide_36
  have b4 : ∀ (n : Nat), ∀ (st : MS) (v1 : Int32) (v2 : Int32) (H : Heap) (locs : List Loc) (ls : Array Slot), va_P D vwCl (mW a T st) H → va_D A (mW a T st) → va_S A s.heap H locs → lv_has ls 3 [(0, .ref (a 0)), (1, .int v1), (2, .int v2)] → X11_weakestSide_p4  n st v1 v2 = some (r, st') → W p l e rmX11_weakestSide s m args below meth c H locs 0 0 Q (F0 m 4 ls []) := by
    intro n
    induction n with
    | zero => intro st v1 v2 H locs ls hP hD hS hl heq; cases heq
    | succ n ih =>
      intro st v1 v2 H locs ls hP hD hS hl heq
      rw [X11_weakestSide_p4_s] at heq
      refine lv_iload_n hx hb dX11_weakestSide_4 rfl (lv_at hl 2 rfl) ?_
      refine lv_bipush (v := (12 : Int32)) hx hb dX11_weakestSide_5 (by decide) ?_
      refine lv_icmp_ge (tgt := 35) hx hb dX11_weakestSide_7 (by decide) (fun c_2 => ?_) (fun c_2 => ?_)
      · have heq := it_t c_2 heq
        exact b35 st v1 H locs ls hP hD hS (lv_sub hl [1] rfl) heq
      have heq := it_f c_2 heq
      refine lv_aload_n hx hb dX11_weakestSide_10 rfl (lv_at hl 0 rfl) ?_
      refine lv_iload_n hx hb dX11_weakestSide_11 rfl (lv_at hl 2 rfl) ?_
      obtain ⟨y_4, st_3, h_5, heq⟩ := bnd_h heq
      refine g_vi (own := RX11) (As := [.int v2]) (rest := []) hx hb hml hown hts (okX11_lacksOn l D a T h_5) (cwV 1 hts gX11_weakestSide_X11_lacksOn rfl rfl rfl hdX11_lacksOn ⟨Nat.le_of_ble_eq_true rfl, Nat.le_of_ble_eq_true rfl⟩) hK hA hP hD hS (ci := 11) (q0 := 0) rfl rfl rfl hl.1 rfl (Nat.le_of_ble_eq_true rfl) dX11_weakestSide_12 ⟨Nat.le_of_ble_eq_true rfl, Nat.le_of_ble_eq_true rfl⟩ (fun H locs hP hD hS => ?_)
      refine lv_aload_n hx hb dX11_weakestSide_15 rfl (lv_at hl 0 rfl) ?_
      refine lv_iload_n hx hb dX11_weakestSide_16 rfl (lv_at hl 1 rfl) ?_
      obtain ⟨y_7, st_6, h_8, heq⟩ := bnd_h heq
      refine g_vi (own := RX11) (As := [.int v1]) (rest := [.int y_4]) hx hb hml hown hts (okX11_lacksOn l D a T h_8) (cwV 1 hts gX11_weakestSide_X11_lacksOn rfl rfl rfl hdX11_lacksOn ⟨Nat.le_of_ble_eq_true rfl, Nat.le_of_ble_eq_true rfl⟩) hK hA hP hD hS (ci := 11) (q0 := 0) rfl rfl rfl hl.1 rfl (Nat.le_of_ble_eq_true rfl) dX11_weakestSide_17 ⟨Nat.le_of_ble_eq_true rfl, Nat.le_of_ble_eq_true rfl⟩ (fun H locs hP hD hS => ?_)
      refine lv_icmp_le (tgt := 27) hx hb dX11_weakestSide_20 (by decide) (fun c_9 => ?_) (fun c_9 => ?_)
      · have heq := it_t c_9 heq
        refine lv_iload_n hx hb dX11_weakestSide_27 rfl (lv_at hl 1 rfl) ?_
        exact b28 (fun st v1 v2 => X11_weakestSide_p4  n st v1 v2) ih st_6 v2 v1 H locs ls hP hD hS (lv_sub hl [0, 2] rfl) heq
      have heq := it_f c_9 heq
      refine lv_iload_n hx hb dX11_weakestSide_23 rfl (lv_at hl 2 rfl) ?_
      refine lv_goto (tgt := 28) hx hb dX11_weakestSide_24 (by decide) ?_
      exact b28 (fun st v1 v2 => X11_weakestSide_p4  n st v1 v2) ih st_6 v2 v2 H locs ls hP hD hS (lv_sub hl [0, 2] rfl) heq
  obtain ⟨H, hH⟩ : ∃ H, H = s.heap := ⟨_, rfl⟩
  obtain ⟨locs, hlocs⟩ : ∃ z : List Loc, z = [] := ⟨_, rfl⟩
  have hS : va_S A s.heap H locs := by rw [hH, hlocs]; exact hS
  have hP : va_P D vwCl (mW a T st) H := by rw [hH]; exact hP
  suffices h9 : W p l e rmX11_weakestSide s m args below meth c H locs 0 0 Q (F0 m 0 ls []) by rw [hH, hlocs] at h9; exact h9
  clear hH hlocs
  unfold X11_weakestSide at heq
  refine lv_iconst (v := (0 : Int32)) hx hb dX11_weakestSide_0 (by decide) ?_
  refine lv_istore_n (lv' := [(1, .int (0 : Int32)), (0, .ref (a 0))]) hx hb dX11_weakestSide_1 rfl hl (by decide) rfl (fun ls hl => ?_)
  refine lv_iconst (v := (1 : Int32)) hx hb dX11_weakestSide_2 (by decide) ?_
  refine lv_istore_n (lv' := [(2, .int (1 : Int32)), (1, .int (0 : Int32)), (0, .ref (a 0))]) hx hb dX11_weakestSide_3 rfl hl (by decide) rfl (fun ls hl => ?_)
  exact b4 13 st (0 : Int32) (1 : Int32) H locs ls hP hD hS (lv_sub hl [2, 1, 0] rfl) heq
set_option maxRecDepth 20000 in
theorem ggX11_fallSide_X11_weakestSide : GoodIn wsX11_fallSide wsX11_weakestSide := goodIn_r _ [5, 6, 7, 8, 4, 9, 10, 11, 12, 13, 14, 15, 16, 17, 18, 19, 20, 21, 22, 23, 24, 25, 26, 27, 28, 29, 30, 31, 32, 33, 34, 35, 36, 37, 38, 39, 40, 41, 42, 43, 44, 45, 46, 47, 48, 49, 50, 51, 52, 53, 54, 55, 56, 57, 58, 59, 60, 61, 62, 63, 64, 65, 66, 67, 68, 69, 70, 71, 72, 73, 74, 75, 76, 77, 78] (by decide +kernel) (by decide +kernel)
set_option maxRecDepth 20000 in
theorem gX11_fallSide_X11_weakestSide : GoodIn wsX11_fallSide (wsV RX11 115 RX11 yX11_weakestSide wsX11_weakestSide) := goodIn_app (goodIn_of _ (by decide +kernel)) ggX11_fallSide_X11_weakestSide
set_option maxRecDepth 20000 in
theorem ggX11_fallSide_X11_lacksOn : GoodIn wsX11_fallSide wsX11_lacksOn := goodIn_r _ [9, 10, 11, 12, 4, 13, 14, 15, 16, 17, 18, 19, 20, 21, 22, 23, 24, 25, 26, 27, 28, 29, 30, 31, 32, 33, 34, 35, 36, 37, 38, 39, 40, 41, 42, 43, 44, 45, 46, 47, 48, 49, 50, 51, 52, 53, 54, 55, 56, 57, 58, 59, 60, 61, 62, 63, 64, 65, 66, 67, 68, 69, 70, 71, 72, 73, 74, 75, 76, 77, 78] (by decide +kernel) (by decide +kernel)
set_option maxRecDepth 20000 in
theorem gX11_fallSide_X11_lacksOn : GoodIn wsX11_fallSide (wsV RX11 112 RX11 yX11_lacksOn wsX11_lacksOn) := goodIn_app (goodIn_of _ (by decide +kernel)) ggX11_fallSide_X11_lacksOn
theorem dX11_fallSide_0 : decode cX11_fallSide 0 = .ok (.aload_n 0, 1) := by decide +kernel
theorem dX11_fallSide_1 : decode cX11_fallSide 1 = .ok (.invokevirtual 115, 3) := by decide +kernel
theorem dX11_fallSide_4 : decode cX11_fallSide 4 = .ok (.istore_n 1, 1) := by decide +kernel
theorem dX11_fallSide_5 : decode cX11_fallSide 5 = .ok (.aload_n 0, 1) := by decide +kernel
theorem dX11_fallSide_6 : decode cX11_fallSide 6 = .ok (.iload_n 1, 1) := by decide +kernel
theorem dX11_fallSide_7 : decode cX11_fallSide 7 = .ok (.invokevirtual 112, 3) := by decide +kernel
theorem dX11_fallSide_10 : decode cX11_fallSide 10 = .ok (.ifCond .le 7, 3) := by decide +kernel
theorem dX11_fallSide_13 : decode cX11_fallSide 13 = .ok (.iload_n 1, 1) := by decide +kernel
theorem dX11_fallSide_14 : decode cX11_fallSide 14 = .ok (.goto 5, 3) := by decide +kernel
theorem dX11_fallSide_17 : decode cX11_fallSide 17 = .ok (.bipush (-4), 2) := by decide +kernel
theorem dX11_fallSide_19 : decode cX11_fallSide 19 = .ok (.ireturn, 1) := by decide +kernel
/-! fallSide -/
def X11_fallSide_p19 (st : MS) (t0 : Int32) : Option (Int32 × MS) :=
    some (t0, st)
def X11_fallSide (st : MS) : Option (Int32 × MS) :=
    bnd (X11_weakestSide st) fun y_2 st_1 =>
    bnd (X11_lacksOn st_1 y_2) fun y_5 st_4 =>
    if y_5 ≤ 0 then
      (X11_fallSide_p19 st_4 (-4 : Int32))
    else
    X11_fallSide_p19 st_4 y_2
abbrev rmX11_fallSide : Room := { frames := 5, cells := 0, slots := 0, locals := 110 }
theorem hdX11_fallSide : yX11_fallSide.cls = RX11 ∧ yX11_fallSide.cls ≠ "java/lang/invoke/MethodHandle" ∧ yX11_fallSide.cls ≠ "java/lang/invoke/VarHandle" ∧ (parseMethodDescriptor yX11_fallSide.desc).map (fun d => d.parameters.length) = some 0 := by decide +kernel
set_option maxRecDepth 100000 in
set_option maxHeartbeats 4000000 in
theorem okX11_fallSide (l : Launch) (D : va_G) (a : Nat → Nat) (T : mT3) {st : MS} {r : Int32} {st' : MS} (heq : X11_fallSide st = some (r, st')) : gCi l D (mT T) yX11_fallSide wsX11_fallSide rmX11_fallSide [.ref (a 0)] (mW a T st) r (mW a T st') := by
  refine g_body_i (by decide) rfl (Nat.le_of_ble_eq_true rfl) (fun p e s m args below meth c A Q hx hb hml hown hts hK hA hret ls hP hD hS hl => ?_)
  have hl : lv_has ls 2 [(0, .ref (a 0))] := hl
  have b19 : ∀ (st : MS) (t0 : Int32) (H : Heap) (locs : List Loc) (ls : Array Slot), va_P D vwCl (mW a T st) H → va_D A (mW a T st) → va_S A s.heap H locs → lv_has ls 2 [] → X11_fallSide_p19  st t0 = some (r, st') → W p l e rmX11_fallSide s m args below meth c H locs 0 0 Q (F0 m 19 ls [.int t0]) := by
    intro st t0 H locs ls hP hD hS hl heq
    unfold X11_fallSide_p19 at heq
    obtain ⟨heq, heq2⟩ := ret_h heq
    subst heq
    subst heq2
    exact hret 19 H locs ls hP hD hS rfl dX11_fallSide_19
  obtain ⟨H, hH⟩ : ∃ H, H = s.heap := ⟨_, rfl⟩
  obtain ⟨locs, hlocs⟩ : ∃ z : List Loc, z = [] := ⟨_, rfl⟩
  have hS : va_S A s.heap H locs := by rw [hH, hlocs]; exact hS
  have hP : va_P D vwCl (mW a T st) H := by rw [hH]; exact hP
  suffices h9 : W p l e rmX11_fallSide s m args below meth c H locs 0 0 Q (F0 m 0 ls []) by rw [hH, hlocs] at h9; exact h9
  clear hH hlocs
  unfold X11_fallSide at heq
  refine lv_aload_n hx hb dX11_fallSide_0 rfl (lv_at hl 0 rfl) ?_
  obtain ⟨y_2, st_1, h_3, heq⟩ := bnd_h heq
  refine g_vi (own := RX11) (As := []) (rest := []) hx hb hml hown hts (okX11_weakestSide l D a T h_3) (cwV 0 hts gX11_fallSide_X11_weakestSide rfl rfl rfl hdX11_weakestSide ⟨Nat.le_of_ble_eq_true rfl, Nat.le_of_ble_eq_true rfl⟩) hK hA hP hD hS (ci := 11) (q0 := 0) rfl rfl rfl hl.1 rfl (Nat.le_of_ble_eq_true rfl) dX11_fallSide_1 ⟨Nat.le_of_ble_eq_true rfl, Nat.le_of_ble_eq_true rfl⟩ (fun H locs hP hD hS => ?_)
  refine lv_istore_n (lv' := [(1, .int y_2), (0, .ref (a 0))]) hx hb dX11_fallSide_4 rfl hl (by decide) rfl (fun ls hl => ?_)
  refine lv_aload_n hx hb dX11_fallSide_5 rfl (lv_at hl 1 rfl) ?_
  refine lv_iload_n hx hb dX11_fallSide_6 rfl (lv_at hl 0 rfl) ?_
  obtain ⟨y_5, st_4, h_6, heq⟩ := bnd_h heq
  refine g_vi (own := RX11) (As := [.int y_2]) (rest := []) hx hb hml hown hts (okX11_lacksOn l D a T h_6) (cwV 1 hts gX11_fallSide_X11_lacksOn rfl rfl rfl hdX11_lacksOn ⟨Nat.le_of_ble_eq_true rfl, Nat.le_of_ble_eq_true rfl⟩) hK hA hP hD hS (ci := 11) (q0 := 0) rfl rfl rfl hl.1 rfl (Nat.le_of_ble_eq_true rfl) dX11_fallSide_7 ⟨Nat.le_of_ble_eq_true rfl, Nat.le_of_ble_eq_true rfl⟩ (fun H locs hP hD hS => ?_)
  refine lv_if_le (tgt := 17) hx hb dX11_fallSide_10 (by decide) (fun c_7 => ?_) (fun c_7 => ?_)
  · have heq := it_t c_7 heq
    refine lv_bipush (v := (-4 : Int32)) hx hb dX11_fallSide_17 (by decide) ?_
    exact b19 st_4 (-4 : Int32) H locs ls hP hD hS (lv_sub hl [] rfl) heq
  have heq := it_f c_7 heq
  refine lv_iload_n hx hb dX11_fallSide_13 rfl (lv_at hl 0 rfl) ?_
  refine lv_goto (tgt := 19) hx hb dX11_fallSide_14 (by decide) ?_
  exact b19 st_4 y_2 H locs ls hP hD hS (lv_sub hl [] rfl) heq
set_option maxRecDepth 20000 in
theorem ggX11_stands_X11_fallSide : GoodIn wsX11_stands wsX11_fallSide := goodIn_r _ [5, 6, 7, 8, 4, 9, 10, 11, 12, 13, 14, 15, 16, 17, 18, 19, 20, 21, 22, 23, 24, 25, 26, 27, 28, 29, 30, 31, 32, 33, 34, 35, 36, 37, 38, 39, 40, 41, 42, 43, 44, 45, 46, 47, 48, 49, 50, 51, 52, 53, 54, 55, 56, 57, 58, 59, 60, 61, 62, 63, 64, 65, 66, 67, 68, 69, 70, 71, 72, 73, 74, 75, 76, 77, 78, 79, 80, 81, 82] (by decide +kernel) (by decide +kernel)
set_option maxRecDepth 20000 in
theorem gX11_stands_X11_fallSide : GoodIn wsX11_stands (wsV RX11 119 RX11 yX11_fallSide wsX11_fallSide) := goodIn_app (goodIn_of _ (by decide +kernel)) ggX11_stands_X11_fallSide
theorem dX11_stands_0 : decode cX11_stands 0 = .ok (.aload_n 0, 1) := by decide +kernel
theorem dX11_stands_1 : decode cX11_stands 1 = .ok (.invokevirtual 119, 3) := by decide +kernel
theorem dX11_stands_4 : decode cX11_stands 4 = .ok (.ifCond .ge 7, 3) := by decide +kernel
theorem dX11_stands_7 : decode cX11_stands 7 = .ok (.iconst 1, 1) := by decide +kernel
theorem dX11_stands_8 : decode cX11_stands 8 = .ok (.goto 4, 3) := by decide +kernel
theorem dX11_stands_11 : decode cX11_stands 11 = .ok (.iconst 0, 1) := by decide +kernel
theorem dX11_stands_12 : decode cX11_stands 12 = .ok (.ireturn, 1) := by decide +kernel
/-! stands -/
def X11_stands_p12 (st : MS) (t0 : Int32) : Option (Int32 × MS) :=
    gz t0 <|
    some (t0, st)
def X11_stands (st : MS) : Option (Int32 × MS) :=
    bnd (X11_fallSide st) fun y_3 st_2 =>
    if 0 ≤ y_3 then
      (X11_stands_p12 st_2 (0 : Int32))
    else
    X11_stands_p12 st_2 (1 : Int32)
abbrev rmX11_stands : Room := { frames := 6, cells := 0, slots := 0, locals := 131 }
theorem hdX11_stands : yX11_stands.cls = RX11 ∧ yX11_stands.cls ≠ "java/lang/invoke/MethodHandle" ∧ yX11_stands.cls ≠ "java/lang/invoke/VarHandle" ∧ (parseMethodDescriptor yX11_stands.desc).map (fun d => d.parameters.length) = some 0 := by decide +kernel
set_option maxRecDepth 100000 in
set_option maxHeartbeats 4000000 in
theorem okX11_stands (l : Launch) (D : va_G) (a : Nat → Nat) (T : mT3) {st : MS} {r : Int32} {st' : MS} (heq : X11_stands st = some (r, st')) : gCi l D (mT T) yX11_stands wsX11_stands rmX11_stands [.ref (a 0)] (mW a T st) r (mW a T st') := by
  refine g_body_i (by decide) rfl (Nat.le_of_ble_eq_true rfl) (fun p e s m args below meth c A Q hx hb hml hown hts hK hA hret ls hP hD hS hl => ?_)
  have hl : lv_has ls 1 [(0, .ref (a 0))] := hl
  have b12 : ∀ (st : MS) (t0 : Int32) (H : Heap) (locs : List Loc) (ls : Array Slot), va_P D vwCl (mW a T st) H → va_D A (mW a T st) → va_S A s.heap H locs → lv_has ls 1 [] → X11_stands_p12  st t0 = some (r, st') → W p l e rmX11_stands s m args below meth c H locs 0 0 Q (F0 m 12 ls [.int t0]) := by
    intro st t0 H locs ls hP hD hS hl heq
    unfold X11_stands_p12 at heq
    obtain ⟨n_1, _, heq⟩ := gz_h heq
    obtain ⟨heq, heq2⟩ := ret_h heq
    subst heq
    subst heq2
    exact hret 12 H locs ls hP hD hS n_1 dX11_stands_12
  obtain ⟨H, hH⟩ : ∃ H, H = s.heap := ⟨_, rfl⟩
  obtain ⟨locs, hlocs⟩ : ∃ z : List Loc, z = [] := ⟨_, rfl⟩
  have hS : va_S A s.heap H locs := by rw [hH, hlocs]; exact hS
  have hP : va_P D vwCl (mW a T st) H := by rw [hH]; exact hP
  suffices h9 : W p l e rmX11_stands s m args below meth c H locs 0 0 Q (F0 m 0 ls []) by rw [hH, hlocs] at h9; exact h9
  clear hH hlocs
  unfold X11_stands at heq
  refine lv_aload_n hx hb dX11_stands_0 rfl (lv_at hl 0 rfl) ?_
  obtain ⟨y_3, st_2, h_4, heq⟩ := bnd_h heq
  refine g_vi (own := RX11) (As := []) (rest := []) hx hb hml hown hts (okX11_fallSide l D a T h_4) (cwV 0 hts gX11_stands_X11_fallSide rfl rfl rfl hdX11_fallSide ⟨Nat.le_of_ble_eq_true rfl, Nat.le_of_ble_eq_true rfl⟩) hK hA hP hD hS (ci := 11) (q0 := 0) rfl rfl rfl hl.1 rfl (Nat.le_of_ble_eq_true rfl) dX11_stands_1 ⟨Nat.le_of_ble_eq_true rfl, Nat.le_of_ble_eq_true rfl⟩ (fun H locs hP hD hS => ?_)
  refine lv_if_ge (tgt := 11) hx hb dX11_stands_4 (by decide) (fun c_5 => ?_) (fun c_5 => ?_)
  · have heq := it_t c_5 heq
    refine lv_iconst (v := (0 : Int32)) hx hb dX11_stands_11 (by decide) ?_
    exact b12 st_2 (0 : Int32) H locs ls hP hD hS (lv_sub hl [] rfl) heq
  have heq := it_f c_5 heq
  refine lv_iconst (v := (1 : Int32)) hx hb dX11_stands_7 (by decide) ?_
  refine lv_goto (tgt := 12) hx hb dX11_stands_8 (by decide) ?_
  exact b12 st_2 (1 : Int32) H locs ls hP hD hS (lv_sub hl [] rfl) heq
set_option maxRecDepth 20000 in
theorem ggX11_settle_X11_stands : GoodIn wsX11_settle wsX11_stands := goodIn_r _ [6, 7, 8, 9, 5, 10, 11, 12, 13, 14, 15, 16, 17, 18, 19, 20, 21, 22, 23, 24, 25, 26, 27, 28, 29, 30, 31, 32, 33, 34, 35, 36, 37, 38, 39, 40, 41, 42, 43, 44, 45, 46, 47, 48, 49, 50, 51, 52, 53, 54, 55, 56, 57, 58, 59, 60, 61, 62, 63, 64, 65, 66, 67, 68, 69, 70, 71, 72, 73, 74, 75, 76, 77, 78, 79, 80, 81, 82, 83, 84, 85, 86, 87] (by decide +kernel) (by decide +kernel)
set_option maxRecDepth 20000 in
theorem gX11_settle_X11_stands : GoodIn wsX11_settle (wsV RX11 125 RX11 yX11_stands wsX11_stands) := goodIn_app (goodIn_of _ (by decide +kernel)) ggX11_settle_X11_stands
theorem dX11_settle_0 : decode cX11_settle 0 = .ok (.aload_n 0, 1) := by decide +kernel
theorem dX11_settle_1 : decode cX11_settle 1 = .ok (.aload_n 0, 1) := by decide +kernel
theorem dX11_settle_2 : decode cX11_settle 2 = .ok (.getfield 122, 3) := by decide +kernel
theorem dX11_settle_5 : decode cX11_settle 5 = .ok (.ifCond .ne 10, 3) := by decide +kernel
theorem dX11_settle_8 : decode cX11_settle 8 = .ok (.aload_n 0, 1) := by decide +kernel
theorem dX11_settle_9 : decode cX11_settle 9 = .ok (.invokevirtual 125, 3) := by decide +kernel
theorem dX11_settle_12 : decode cX11_settle 12 = .ok (.ifCond .ne 7, 3) := by decide +kernel
theorem dX11_settle_15 : decode cX11_settle 15 = .ok (.iconst 1, 1) := by decide +kernel
theorem dX11_settle_16 : decode cX11_settle 16 = .ok (.goto 4, 3) := by decide +kernel
theorem dX11_settle_19 : decode cX11_settle 19 = .ok (.iconst 0, 1) := by decide +kernel
theorem dX11_settle_20 : decode cX11_settle 20 = .ok (.putfield 122, 3) := by decide +kernel
theorem dX11_settle_23 : decode cX11_settle 23 = .ok (.return_, 1) := by decide +kernel
/-! settle -/
def X11_settle_p20 (st : MS) (t1 : Int32) : Option (Unit × MS) :=
    gz t1 <|
    nm (sF st 7 t1) fun st_1 =>
    some ((), st_1)
def X11_settle_p15 (st : MS) : Option (Unit × MS) :=
    X11_settle_p20 st (1 : Int32)
def X11_settle (st : MS) : Option (Unit × MS) :=
    if (gF st 7) = 0 then
      (bnd (X11_stands st) fun y_5 st_4 =>
      if y_5 = 0 then
        (X11_settle_p15 st_4)
      else
      X11_settle_p20 st_4 (0 : Int32))
    else
    X11_settle_p15 st
abbrev rmX11_settle : Room := { frames := 7, cells := 0, slots := 0, locals := 151 }
theorem hdX11_settle : yX11_settle.cls = RX11 ∧ yX11_settle.cls ≠ "java/lang/invoke/MethodHandle" ∧ yX11_settle.cls ≠ "java/lang/invoke/VarHandle" ∧ (parseMethodDescriptor yX11_settle.desc).map (fun d => d.parameters.length) = some 0 := by decide +kernel
set_option maxRecDepth 100000 in
set_option maxHeartbeats 4000000 in
theorem okX11_settle (l : Launch) (D : va_G) (a : Nat → Nat) (T : mT3) {st : MS} {st' : MS} (heq : X11_settle st = some ((), st')) : gCv l D (mT T) yX11_settle wsX11_settle rmX11_settle [.ref (a 0)] (mW a T st) (mW a T st') := by
  refine g_body_v (by decide) rfl (Nat.le_of_ble_eq_true rfl) (fun p e s m args below meth c A Q hx hb hml hown hts hK hA _ hret ls hP hD hS hl => ?_)
  have hl : lv_has ls 1 [(0, .ref (a 0))] := hl
  have hin : ∀ w ∈ wsX110, w ∈ wsX11_settle := fun w h => List.mem_cons_of_mem _ (List.mem_append_right _ h)
  have f122 : (Cond.fieldLink RX11 122 RX11 (TX11 7).2.1 (TX11 7).2.2.1).before args s = true := hts (.fieldLink RX11 122 "LaidDownTheLaneModel" "isDown" "Z") (by decide +kernel)
  have b20 : ∀ (st : MS) (t1 : Int32) (H : Heap) (locs : List Loc) (ls : Array Slot), va_P D vwCl (mW a T st) H → va_D A (mW a T st) → va_S A s.heap H locs → lv_has ls 1 [] → X11_settle_p20  st t1 = some ((), st') → W p l e rmX11_settle s m args below meth c H locs 0 0 Q (F0 m 20 ls [.int t1, .ref (a 0)]) := by
    intro st t1 H locs ls hP hD hS hl heq
    unfold X11_settle_p20 at heq
    obtain ⟨n_2, n_2f, heq⟩ := gz_h heq
    refine mp (k := 7) hx hb hts hin hown hK hP hD hS (by decide) f122 dX11_settle_20 rfl rfl n_2 n_2f (mset_7 ..) (fun H locs hP hD hS => ?_)
    obtain ⟨st_1, est_1⟩ : ∃ z, z = sF st 7 t1 := ⟨_, rfl⟩
    rw [← est_1] at hP hD
    have heq := nm_h est_1 heq
    obtain ⟨-, heq2⟩ := ret_h heq
    subst heq2
    exact hret 23 H locs ls hP hD hS dX11_settle_23
  have b15 : ∀ (st : MS) (H : Heap) (locs : List Loc) (ls : Array Slot), va_P D vwCl (mW a T st) H → va_D A (mW a T st) → va_S A s.heap H locs → lv_has ls 1 [] → X11_settle_p15  st = some ((), st') → W p l e rmX11_settle s m args below meth c H locs 0 0 Q (F0 m 15 ls [.ref (a 0)]) := by
    intro st H locs ls hP hD hS hl heq
    unfold X11_settle_p15 at heq
    refine lv_iconst (v := (1 : Int32)) hx hb dX11_settle_15 (by decide) ?_
    refine lv_goto (tgt := 20) hx hb dX11_settle_16 (by decide) ?_
    exact b20 st (1 : Int32) H locs ls hP hD hS (lv_sub hl [] rfl) heq
  obtain ⟨H, hH⟩ : ∃ H, H = s.heap := ⟨_, rfl⟩
  obtain ⟨locs, hlocs⟩ : ∃ z : List Loc, z = [] := ⟨_, rfl⟩
  have hS : va_S A s.heap H locs := by rw [hH, hlocs]; exact hS
  have hP : va_P D vwCl (mW a T st) H := by rw [hH]; exact hP
  suffices h9 : W p l e rmX11_settle s m args below meth c H locs 0 0 Q (F0 m 0 ls []) by rw [hH, hlocs] at h9; exact h9
  clear hH hlocs
  unfold X11_settle at heq
  refine lv_aload_n hx hb dX11_settle_0 rfl (lv_at hl 0 rfl) ?_
  refine lv_aload_n hx hb dX11_settle_1 rfl (lv_at hl 0 rfl) ?_
  refine mg (k := 7) (v := .int (gF st 7)) hx hb hts hin hown hK hP (by decide) f122 rfl dX11_settle_2 rfl ?_
  refine lv_if_ne (tgt := 15) hx hb dX11_settle_5 (by decide) (fun c_3 => ?_) (fun c_3 => ?_)
  · have heq := it_f c_3 heq
    exact b15 st H locs ls hP hD hS (lv_sub hl [] rfl) heq
  have heq := it_t c_3 heq
  refine lv_aload_n hx hb dX11_settle_8 rfl (lv_at hl 0 rfl) ?_
  obtain ⟨y_5, st_4, h_6, heq⟩ := bnd_h heq
  refine g_vi (own := RX11) (As := []) (rest := [.ref (a 0)]) hx hb hml hown hts (okX11_stands l D a T h_6) (cwV 0 hts gX11_settle_X11_stands rfl rfl rfl hdX11_stands ⟨Nat.le_of_ble_eq_true rfl, Nat.le_of_ble_eq_true rfl⟩) hK hA hP hD hS (ci := 11) (q0 := 0) rfl rfl rfl hl.1 rfl (Nat.le_of_ble_eq_true rfl) dX11_settle_9 ⟨Nat.le_of_ble_eq_true rfl, Nat.le_of_ble_eq_true rfl⟩ (fun H locs hP hD hS => ?_)
  refine lv_if_ne (tgt := 19) hx hb dX11_settle_12 (by decide) (fun c_7 => ?_) (fun c_7 => ?_)
  · have heq := it_f c_7 heq
    refine lv_iconst (v := (0 : Int32)) hx hb dX11_settle_19 (by decide) ?_
    exact b20 st_4 (0 : Int32) H locs ls hP hD hS (lv_sub hl [] rfl) heq
  have heq := it_t c_7 heq
  exact b15 st_4 H locs ls hP hD hS (lv_sub hl [] rfl) heq
theorem dX11_here_0 : decode cX11_here 0 = .ok (.aload_n 0, 1) := by decide +kernel
theorem dX11_here_1 : decode cX11_here 1 = .ok (.getfield 129, 3) := by decide +kernel
theorem dX11_here_4 : decode cX11_here 4 = .ok (.aload_n 0, 1) := by decide +kernel
theorem dX11_here_5 : decode cX11_here 5 = .ok (.getfield 43, 3) := by decide +kernel
theorem dX11_here_8 : decode cX11_here 8 = .ok (.aload_n 0, 1) := by decide +kernel
theorem dX11_here_9 : decode cX11_here 9 = .ok (.getfield 132, 3) := by decide +kernel
theorem dX11_here_12 : decode cX11_here 12 = .ok (.iaload, 1) := by decide +kernel
theorem dX11_here_13 : decode cX11_here 13 = .ok (.if_icmp .ge 24, 3) := by decide +kernel
theorem dX11_here_16 : decode cX11_here 16 = .ok (.aload_n 0, 1) := by decide +kernel
theorem dX11_here_17 : decode cX11_here 17 = .ok (.getfield 46, 3) := by decide +kernel
theorem dX11_here_20 : decode cX11_here 20 = .ok (.bipush 100, 2) := by decide +kernel
theorem dX11_here_22 : decode cX11_here 22 = .ok (.aload_n 0, 1) := by decide +kernel
theorem dX11_here_23 : decode cX11_here 23 = .ok (.getfield 132, 3) := by decide +kernel
theorem dX11_here_26 : decode cX11_here 26 = .ok (.imul, 1) := by decide +kernel
theorem dX11_here_27 : decode cX11_here 27 = .ok (.aload_n 0, 1) := by decide +kernel
theorem dX11_here_28 : decode cX11_here 28 = .ok (.getfield 129, 3) := by decide +kernel
theorem dX11_here_31 : decode cX11_here 31 = .ok (.iadd, 1) := by decide +kernel
theorem dX11_here_32 : decode cX11_here 32 = .ok (.laload, 1) := by decide +kernel
theorem dX11_here_33 : decode cX11_here 33 = .ok (.l2i, 1) := by decide +kernel
theorem dX11_here_34 : decode cX11_here 34 = .ok (.goto 6, 3) := by decide +kernel
theorem dX11_here_37 : decode cX11_here 37 = .ok (.sipush (-999), 3) := by decide +kernel
theorem dX11_here_40 : decode cX11_here 40 = .ok (.ireturn, 1) := by decide +kernel
/-! here -/
def X11_here_p40 (st : MS) (t0 : Int32) : Option (Int32 × MS) :=
    some (t0, st)
def X11_here (st : MS) : Option (Int32 × MS) :=
    inr (gF st 19) 8 <|
    if (gA st 15 (gF st 19).toNatClampNeg) ≤ (gF st 20) then
      (X11_here_p40 st (-999 : Int32))
    else
    inr (((100 : Int32) * (gF st 19)) + (gF st 20)) 800 <|
    X11_here_p40 st ((gL st 16 (((100 : Int32) * (gF st 19)) + (gF st 20)).toNatClampNeg).toInt32)
abbrev rmX11_here : Room := { frames := 0, cells := 0, slots := 0, locals := 0 }
theorem hdX11_here : yX11_here.cls = RX11 ∧ yX11_here.cls ≠ "java/lang/invoke/MethodHandle" ∧ yX11_here.cls ≠ "java/lang/invoke/VarHandle" ∧ (parseMethodDescriptor yX11_here.desc).map (fun d => d.parameters.length) = some 0 := by decide +kernel
set_option maxRecDepth 100000 in
set_option maxHeartbeats 4000000 in
theorem okX11_here (l : Launch) (D : va_G) (a : Nat → Nat) (T : mT3) {st : MS} {r : Int32} {st' : MS} (heq : X11_here st = some (r, st')) : gCi l D (mT T) yX11_here wsX11_here rmX11_here [.ref (a 0)] (mW a T st) r (mW a T st') := by
  refine g_body_i (by decide) rfl (Nat.le_of_ble_eq_true rfl) (fun p e s m args below meth c A Q hx hb hml hown hts hK hA hret ls hP hD hS hl => ?_)
  have hl : lv_has ls 1 [(0, .ref (a 0))] := hl
  have hin : ∀ w ∈ wsX110, w ∈ wsX11_here := fun w h => List.mem_cons_of_mem _ (List.mem_append_right _ h)
  have f43 : (Cond.fieldLink RX11 43 RX11 (TX11 15).2.1 (TX11 15).2.2.1).before args s = true := hts (.fieldLink RX11 43 "LaidDownTheLaneModel" "rowMany" "[I") (by decide +kernel)
  have f46 : (Cond.fieldLink RX11 46 RX11 (TX11 16).2.1 (TX11 16).2.2.1).before args s = true := hts (.fieldLink RX11 46 "LaidDownTheLaneModel" "rows" "[J") (by decide +kernel)
  have f129 : (Cond.fieldLink RX11 129 RX11 (TX11 20).2.1 (TX11 20).2.2.1).before args s = true := hts (.fieldLink RX11 129 "LaidDownTheLaneModel" "at" "I") (by decide +kernel)
  have f132 : (Cond.fieldLink RX11 132 RX11 (TX11 19).2.1 (TX11 19).2.2.1).before args s = true := hts (.fieldLink RX11 132 "LaidDownTheLaneModel" "reading" "I") (by decide +kernel)
  have b40 : ∀ (st : MS) (t0 : Int32) (H : Heap) (locs : List Loc) (ls : Array Slot), va_P D vwCl (mW a T st) H → va_D A (mW a T st) → va_S A s.heap H locs → lv_has ls 1 [] → X11_here_p40  st t0 = some (r, st') → W p l e rmX11_here s m args below meth c H locs 0 0 Q (F0 m 40 ls [.int t0]) := by
    intro st t0 H locs ls hP hD hS hl heq
    unfold X11_here_p40 at heq
    obtain ⟨heq, heq2⟩ := ret_h heq
    subst heq
    subst heq2
    exact hret 40 H locs ls hP hD hS rfl dX11_here_40
  obtain ⟨H, hH⟩ : ∃ H, H = s.heap := ⟨_, rfl⟩
  obtain ⟨locs, hlocs⟩ : ∃ z : List Loc, z = [] := ⟨_, rfl⟩
  have hS : va_S A s.heap H locs := by rw [hH, hlocs]; exact hS
  have hP : va_P D vwCl (mW a T st) H := by rw [hH]; exact hP
  suffices h9 : W p l e rmX11_here s m args below meth c H locs 0 0 Q (F0 m 0 ls []) by rw [hH, hlocs] at h9; exact h9
  clear hH hlocs
  unfold X11_here at heq
  refine lv_aload_n hx hb dX11_here_0 rfl (lv_at hl 0 rfl) ?_
  refine mg (k := 20) (v := .int (gF st 20)) hx hb hts hin hown hK hP (by decide) f129 rfl dX11_here_1 rfl ?_
  refine lv_aload_n hx hb dX11_here_4 rfl (lv_at hl 0 rfl) ?_
  refine mg (k := 15) (v := .ref (a 12)) hx hb hts hin hown hK hP (by decide) f43 rfl dX11_here_5 rfl ?_
  refine lv_aload_n hx hb dX11_here_8 rfl (lv_at hl 0 rfl) ?_
  refine mg (k := 19) (v := .int (gF st 19)) hx hb hts hin hown hK hP (by decide) f132 rfl dX11_here_9 rfl ?_
  obtain ⟨n_1, heq⟩ := inr_h heq
  refine mal (k := 15) (q := 12) (n := 8) hx hb hK hP rfl n_1 dX11_here_12 ?_
  refine lv_icmp_ge (tgt := 37) hx hb dX11_here_13 (by decide) (fun c_2 => ?_) (fun c_2 => ?_)
  · have heq := it_t c_2 heq
    refine lv_sipush (v := (-999 : Int32)) hx hb dX11_here_37 (by decide) ?_
    exact b40 st (-999 : Int32) H locs ls hP hD hS (lv_sub hl [] rfl) heq
  have heq := it_f c_2 heq
  refine lv_aload_n hx hb dX11_here_16 rfl (lv_at hl 0 rfl) ?_
  refine mg (k := 16) (v := .ref (a 13)) hx hb hts hin hown hK hP (by decide) f46 rfl dX11_here_17 rfl ?_
  refine lv_bipush (v := (100 : Int32)) hx hb dX11_here_20 (by decide) ?_
  refine lv_aload_n hx hb dX11_here_22 rfl (lv_at hl 0 rfl) ?_
  refine mg (k := 19) (v := .int (gF st 19)) hx hb hts hin hown hK hP (by decide) f132 rfl dX11_here_23 rfl ?_
  refine lv_imul hx hb dX11_here_26 ?_
  refine lv_aload_n hx hb dX11_here_27 rfl (lv_at hl 0 rfl) ?_
  refine mg (k := 20) (v := .int (gF st 20)) hx hb hts hin hown hK hP (by decide) f129 rfl dX11_here_28 rfl ?_
  refine lv_iadd hx hb dX11_here_31 ?_
  obtain ⟨n_3, heq⟩ := inr_h heq
  refine mll (k := 16) (q := 13) (n := 800) hx hb hK hP rfl n_3 dX11_here_32 ?_
  refine lv_l2i hx hb dX11_here_33 rfl ?_
  refine lv_goto (tgt := 40) hx hb dX11_here_34 (by decide) ?_
  exact b40 st ((gL st 16 (((100 : Int32) * (gF st 19)) + (gF st 20)).toNatClampNeg).toInt32) H locs ls hP hD hS (lv_sub hl [] rfl) heq
set_option maxRecDepth 20000 in
theorem ggX11_readDigits_X11_here : GoodIn wsX11_readDigits wsX11_here := goodIn_r _ [9, 4, 10, 11, 12, 16, 17, 18, 19, 20, 21, 22, 23, 24, 25, 26, 27, 28, 29, 30, 31, 32, 33, 34, 35, 36, 37, 38, 39, 40, 41, 42, 43, 44, 45, 46, 47, 48, 49, 50, 51, 52] (by decide +kernel) (by decide +kernel)
set_option maxRecDepth 20000 in
theorem gX11_readDigits_X11_here : GoodIn wsX11_readDigits (wsV RX11 138 RX11 yX11_here wsX11_here) := goodIn_app (goodIn_of _ (by decide +kernel)) ggX11_readDigits_X11_here
set_option maxRecDepth 20000 in
theorem ggX11_readDigits_X11_in : GoodIn wsX11_readDigits wsX11_in := goodIn_r _ [15] (by decide +kernel) (by decide +kernel)
set_option maxRecDepth 20000 in
theorem gX11_readDigits_X11_in : GoodIn wsX11_readDigits (va_wsS RX11 81 yX11_in wsX11_in) := goodIn_app (goodIn_of _ (by decide +kernel)) ggX11_readDigits_X11_in
theorem dX11_readDigits_0 : decode cX11_readDigits 0 = .ok (.iconst 0, 1) := by decide +kernel
theorem dX11_readDigits_1 : decode cX11_readDigits 1 = .ok (.istore_n 2, 1) := by decide +kernel
theorem dX11_readDigits_2 : decode cX11_readDigits 2 = .ok (.iconst 0, 1) := by decide +kernel
theorem dX11_readDigits_3 : decode cX11_readDigits 3 = .ok (.istore_n 3, 1) := by decide +kernel
theorem dX11_readDigits_4 : decode cX11_readDigits 4 = .ok (.iload_n 3, 1) := by decide +kernel
theorem dX11_readDigits_5 : decode cX11_readDigits 5 = .ok (.iload_n 1, 1) := by decide +kernel
theorem dX11_readDigits_6 : decode cX11_readDigits 6 = .ok (.if_icmp .ge 87, 3) := by decide +kernel
theorem dX11_readDigits_9 : decode cX11_readDigits 9 = .ok (.aload_n 0, 1) := by decide +kernel
theorem dX11_readDigits_10 : decode cX11_readDigits 10 = .ok (.aload_n 0, 1) := by decide +kernel
theorem dX11_readDigits_11 : decode cX11_readDigits 11 = .ok (.getfield 135, 3) := by decide +kernel
theorem dX11_readDigits_14 : decode cX11_readDigits 14 = .ok (.ifCond .ne 20, 3) := by decide +kernel
theorem dX11_readDigits_17 : decode cX11_readDigits 17 = .ok (.aload_n 0, 1) := by decide +kernel
theorem dX11_readDigits_18 : decode cX11_readDigits 18 = .ok (.invokevirtual 138, 3) := by decide +kernel
theorem dX11_readDigits_21 : decode cX11_readDigits 21 = .ok (.i2l, 1) := by decide +kernel
theorem dX11_readDigits_22 : decode cX11_readDigits 22 = .ok (.ldc2_w 141, 3) := by decide +kernel
theorem dX11_readDigits_25 : decode cX11_readDigits 25 = .ok (.ldc2_w 143, 3) := by decide +kernel
theorem dX11_readDigits_28 : decode cX11_readDigits 28 = .ok (.invokestatic 81, 3) := by decide +kernel
theorem dX11_readDigits_31 : decode cX11_readDigits 31 = .ok (.ifCond .ne 7, 3) := by decide +kernel
theorem dX11_readDigits_34 : decode cX11_readDigits 34 = .ok (.iconst 1, 1) := by decide +kernel
theorem dX11_readDigits_35 : decode cX11_readDigits 35 = .ok (.goto 4, 3) := by decide +kernel
theorem dX11_readDigits_38 : decode cX11_readDigits 38 = .ok (.iconst 0, 1) := by decide +kernel
theorem dX11_readDigits_39 : decode cX11_readDigits 39 = .ok (.putfield 135, 3) := by decide +kernel
theorem dX11_readDigits_42 : decode cX11_readDigits 42 = .ok (.aload_n 0, 1) := by decide +kernel
theorem dX11_readDigits_43 : decode cX11_readDigits 43 = .ok (.getfield 135, 3) := by decide +kernel
theorem dX11_readDigits_46 : decode cX11_readDigits 46 = .ok (.ifCond .eq 7, 3) := by decide +kernel
theorem dX11_readDigits_49 : decode cX11_readDigits 49 = .ok (.iconst 0, 1) := by decide +kernel
theorem dX11_readDigits_50 : decode cX11_readDigits 50 = .ok (.goto 15, 3) := by decide +kernel
theorem dX11_readDigits_53 : decode cX11_readDigits 53 = .ok (.bipush 10, 2) := by decide +kernel
theorem dX11_readDigits_55 : decode cX11_readDigits 55 = .ok (.iload_n 2, 1) := by decide +kernel
theorem dX11_readDigits_56 : decode cX11_readDigits 56 = .ok (.imul, 1) := by decide +kernel
theorem dX11_readDigits_57 : decode cX11_readDigits 57 = .ok (.aload_n 0, 1) := by decide +kernel
theorem dX11_readDigits_58 : decode cX11_readDigits 58 = .ok (.invokevirtual 138, 3) := by decide +kernel
theorem dX11_readDigits_61 : decode cX11_readDigits 61 = .ok (.iadd, 1) := by decide +kernel
theorem dX11_readDigits_62 : decode cX11_readDigits 62 = .ok (.bipush 48, 2) := by decide +kernel
theorem dX11_readDigits_64 : decode cX11_readDigits 64 = .ok (.isub, 1) := by decide +kernel
theorem dX11_readDigits_65 : decode cX11_readDigits 65 = .ok (.istore_n 2, 1) := by decide +kernel
theorem dX11_readDigits_66 : decode cX11_readDigits 66 = .ok (.aload_n 0, 1) := by decide +kernel
theorem dX11_readDigits_67 : decode cX11_readDigits 67 = .ok (.dup, 1) := by decide +kernel
theorem dX11_readDigits_68 : decode cX11_readDigits 68 = .ok (.getfield 129, 3) := by decide +kernel
theorem dX11_readDigits_71 : decode cX11_readDigits 71 = .ok (.aload_n 0, 1) := by decide +kernel
theorem dX11_readDigits_72 : decode cX11_readDigits 72 = .ok (.getfield 135, 3) := by decide +kernel
theorem dX11_readDigits_75 : decode cX11_readDigits 75 = .ok (.ifCond .eq 7, 3) := by decide +kernel
theorem dX11_readDigits_78 : decode cX11_readDigits 78 = .ok (.iconst 0, 1) := by decide +kernel
theorem dX11_readDigits_79 : decode cX11_readDigits 79 = .ok (.goto 4, 3) := by decide +kernel
theorem dX11_readDigits_82 : decode cX11_readDigits 82 = .ok (.iconst 1, 1) := by decide +kernel
theorem dX11_readDigits_83 : decode cX11_readDigits 83 = .ok (.iadd, 1) := by decide +kernel
theorem dX11_readDigits_84 : decode cX11_readDigits 84 = .ok (.putfield 129, 3) := by decide +kernel
theorem dX11_readDigits_87 : decode cX11_readDigits 87 = .ok (.iinc 3 1, 3) := by decide +kernel
theorem dX11_readDigits_90 : decode cX11_readDigits 90 = .ok (.goto (-86), 3) := by decide +kernel
theorem dX11_readDigits_93 : decode cX11_readDigits 93 = .ok (.iload_n 2, 1) := by decide +kernel
theorem dX11_readDigits_94 : decode cX11_readDigits 94 = .ok (.ireturn, 1) := by decide +kernel
/-! readDigits -/
def X11_readDigits_p83 (k4 : MS → Int32 → Int32 → Int32 → Option (Int32 × MS)) (st : MS) (v1 : Int32) (v2 : Int32) (v3 : Int32) (t1 : Int32) (t2 : Int32) : Option (Int32 × MS) :=
    nm (sF st 20 (t1 + t2)) fun st_1 =>
    nm (v3 + (1 : Int32)) fun x_2 =>
    k4 st_1 v1 v2 x_2
def X11_readDigits_p65 (k4 : MS → Int32 → Int32 → Int32 → Option (Int32 × MS)) (st : MS) (v1 : Int32) (v3 : Int32) (t0 : Int32) : Option (Int32 × MS) :=
    if (gF st 21) = 0 then
      (X11_readDigits_p83 k4 st v1 t0 v3 (gF st 20) (1 : Int32))
    else
    X11_readDigits_p83 k4 st v1 t0 v3 (gF st 20) (0 : Int32)
def X11_readDigits_p39 (k4 : MS → Int32 → Int32 → Int32 → Option (Int32 × MS)) (st : MS) (v1 : Int32) (v2 : Int32) (v3 : Int32) (t1 : Int32) : Option (Int32 × MS) :=
    gz t1 <|
    nm (sF st 21 t1) fun st_4 =>
    if (gF st_4 21) = 0 then
      (bnd (X11_here st_4) fun y_8 st_7 =>
      X11_readDigits_p65 k4 st_7 v1 v3 ((((10 : Int32) * v2) + y_8) - (48 : Int32)))
    else
    X11_readDigits_p65 k4 st_4 v1 v3 (0 : Int32)
def X11_readDigits_p34 (k4 : MS → Int32 → Int32 → Int32 → Option (Int32 × MS)) (st : MS) (v1 : Int32) (v2 : Int32) (v3 : Int32) : Option (Int32 × MS) :=
    X11_readDigits_p39 k4 st v1 v2 v3 (1 : Int32)
def X11_readDigits_p93 (st : MS) (v2 : Int32) : Option (Int32 × MS) :=
    some (v2, st)
def X11_readDigits_p4 : Nat → MS → Int32 → Int32 → Int32 → Option (Int32 × MS)
  | 0, _, _, _, _ => none
  | n + 1, st, v1, v2, v3 =>
    if v1 ≤ v3 then
      (X11_readDigits_p93 st v2)
    else
    if (gF st 21) = 0 then
      (bnd (X11_here st) fun y_13 st_12 =>
      bd1 (X11_in (y_13.toInt64) (48 : Int64) (57 : Int64)) fun y_15 =>
      if y_15 = 0 then
        (X11_readDigits_p34 (fun st v1 v2 v3 => X11_readDigits_p4  n st v1 v2 v3) st_12 v1 v2 v3)
      else
      X11_readDigits_p39 (fun st v1 v2 v3 => X11_readDigits_p4  n st v1 v2 v3) st_12 v1 v2 v3 (0 : Int32))
    else
    X11_readDigits_p34 (fun st v1 v2 v3 => X11_readDigits_p4  n st v1 v2 v3) st v1 v2 v3
theorem X11_readDigits_p4_s (n : Nat) (st : MS) (v1 : Int32) (v2 : Int32) (v3 : Int32) : X11_readDigits_p4  (n + 1) st v1 v2 v3 =
    (if v1 ≤ v3 then
      (X11_readDigits_p93 st v2)
    else
    if (gF st 21) = 0 then
      (bnd (X11_here st) fun y_13 st_12 =>
      bd1 (X11_in (y_13.toInt64) (48 : Int64) (57 : Int64)) fun y_15 =>
      if y_15 = 0 then
        (X11_readDigits_p34 (fun st v1 v2 v3 => X11_readDigits_p4  n st v1 v2 v3) st_12 v1 v2 v3)
      else
      X11_readDigits_p39 (fun st v1 v2 v3 => X11_readDigits_p4  n st v1 v2 v3) st_12 v1 v2 v3 (0 : Int32))
    else
    X11_readDigits_p34 (fun st v1 v2 v3 => X11_readDigits_p4  n st v1 v2 v3) st v1 v2 v3) := rfl
def X11_readDigits (st : MS) (v1 : Int32) : Option (Int32 × MS) :=
    X11_readDigits_p4 5000 st v1 (0 : Int32) (0 : Int32)
abbrev rmX11_readDigits : Room := { frames := 1, cells := 0, slots := 0, locals := 25 }
theorem hdX11_readDigits : yX11_readDigits.cls = RX11 ∧ yX11_readDigits.cls ≠ "java/lang/invoke/MethodHandle" ∧ yX11_readDigits.cls ≠ "java/lang/invoke/VarHandle" ∧ (parseMethodDescriptor yX11_readDigits.desc).map (fun d => d.parameters.length) = some 1 := by decide +kernel
set_option maxRecDepth 100000 in
set_option maxHeartbeats 4000000 in
theorem okX11_readDigits (l : Launch) (D : va_G) (a : Nat → Nat) (T : mT3) {st : MS} {v1 : Int32} {r : Int32} {st' : MS} (heq : X11_readDigits st v1 = some (r, st')) : gCi l D (mT T) yX11_readDigits wsX11_readDigits rmX11_readDigits [.ref (a 0), .int v1] (mW a T st) r (mW a T st') := by
  refine g_body_i (by decide) rfl (Nat.le_of_ble_eq_true rfl) (fun p e s m args below meth c A Q hx hb hml hown hts hK hA hret ls hP hD hS hl => ?_)
  have hl : lv_has ls 4 [(0, .ref (a 0)), (1, .int v1)] := hl
  have hin : ∀ w ∈ wsX110, w ∈ wsX11_readDigits := fun w h => List.mem_cons_of_mem _ (List.mem_append_right _ h)
  have f129 : (Cond.fieldLink RX11 129 RX11 (TX11 20).2.1 (TX11 20).2.2.1).before args s = true := hts (.fieldLink RX11 129 "LaidDownTheLaneModel" "at" "I") (by decide +kernel)
  have f135 : (Cond.fieldLink RX11 135 RX11 (TX11 21).2.1 (TX11 21).2.2.1).before args s = true := hts (.fieldLink RX11 135 "LaidDownTheLaneModel" "isBad" "Z") (by decide +kernel)
  have c141 := hts (.constantLong RX11 141 (48)) (by decide +kernel)
  have c143 := hts (.constantLong RX11 143 (57)) (by decide +kernel)
  have b83 : ∀ (k4 : MS → Int32 → Int32 → Int32 → Option (Int32 × MS)) (hk4 : ∀ (st : MS) (v1 : Int32) (v2 : Int32) (v3 : Int32) (H : Heap) (locs : List Loc) (ls : Array Slot), va_P D vwCl (mW a T st) H → va_D A (mW a T st) → va_S A s.heap H locs → lv_has ls 4 [(0, .ref (a 0)), (1, .int v1), (2, .int v2), (3, .int v3)] → k4 st v1 v2 v3 = some (r, st') → W p l e rmX11_readDigits s m args below meth c H locs 0 0 Q (F0 m 4 ls [])), ∀ (st : MS) (v1 : Int32) (v2 : Int32) (v3 : Int32) (t1 : Int32) (t2 : Int32) (H : Heap) (locs : List Loc) (ls : Array Slot), va_P D vwCl (mW a T st) H → va_D A (mW a T st) → va_S A s.heap H locs → lv_has ls 4 [(0, .ref (a 0)), (1, .int v1), (2, .int v2), (3, .int v3)] → X11_readDigits_p83 k4 st v1 v2 v3 t1 t2 = some (r, st') → W p l e rmX11_readDigits s m args below meth c H locs 0 0 Q (F0 m 83 ls [.int t2, .int t1, .ref (a 0)]) := by
    intro k4 hk4 st v1 v2 v3 t1 t2 H locs ls hP hD hS hl heq
    unfold X11_readDigits_p83 at heq
    refine lv_iadd hx hb dX11_readDigits_83 ?_
    refine mp (k := 20) hx hb hts hin hown hK hP hD hS (by decide) f129 dX11_readDigits_84 rfl rfl rfl rfl (mset_20 ..) (fun H locs hP hD hS => ?_)
    obtain ⟨st_1, est_1⟩ : ∃ z, z = sF st 20 (t1 + t2) := ⟨_, rfl⟩
    rw [← est_1] at hP hD
    have heq := nm_h est_1 heq
    obtain ⟨x_2, ex_2⟩ : ∃ y : Int32, y = v3 + (1 : Int32) := ⟨_, rfl⟩
    have heq := nm_h ex_2 heq
    refine lv_iinc (v := x_2) (lv' := [(3, .int x_2), (0, .ref (a 0)), (1, .int v1), (2, .int v2)]) hx hb dX11_readDigits_87 hl (k := 3) rfl (by rw [ex_2]; rfl) (by decide) rfl (fun ls hl => ?_)
    refine lv_goto (tgt := 4) hx hb dX11_readDigits_90 (by decide) ?_
    exact hk4 st_1 v1 v2 x_2 H locs ls hP hD hS (lv_sub hl [1, 2, 3, 0] rfl) heq
  have b65 : ∀ (k4 : MS → Int32 → Int32 → Int32 → Option (Int32 × MS)) (hk4 : ∀ (st : MS) (v1 : Int32) (v2 : Int32) (v3 : Int32) (H : Heap) (locs : List Loc) (ls : Array Slot), va_P D vwCl (mW a T st) H → va_D A (mW a T st) → va_S A s.heap H locs → lv_has ls 4 [(0, .ref (a 0)), (1, .int v1), (2, .int v2), (3, .int v3)] → k4 st v1 v2 v3 = some (r, st') → W p l e rmX11_readDigits s m args below meth c H locs 0 0 Q (F0 m 4 ls [])), ∀ (st : MS) (v1 : Int32) (v3 : Int32) (t0 : Int32) (H : Heap) (locs : List Loc) (ls : Array Slot), va_P D vwCl (mW a T st) H → va_D A (mW a T st) → va_S A s.heap H locs → lv_has ls 4 [(0, .ref (a 0)), (1, .int v1), (3, .int v3)] → X11_readDigits_p65 k4 st v1 v3 t0 = some (r, st') → W p l e rmX11_readDigits s m args below meth c H locs 0 0 Q (F0 m 65 ls [.int t0]) := by
    intro k4 hk4 st v1 v3 t0 H locs ls hP hD hS hl heq
    unfold X11_readDigits_p65 at heq
    refine lv_istore_n (lv' := [(2, .int t0), (0, .ref (a 0)), (1, .int v1), (3, .int v3)]) hx hb dX11_readDigits_65 rfl hl (by decide) rfl (fun ls hl => ?_)
    refine lv_aload_n hx hb dX11_readDigits_66 rfl (lv_at hl 1 rfl) ?_
    refine lv_dup hx hb dX11_readDigits_67 rfl ?_
    refine mg (k := 20) (v := .int (gF st 20)) hx hb hts hin hown hK hP (by decide) f129 rfl dX11_readDigits_68 rfl ?_
    refine lv_aload_n hx hb dX11_readDigits_71 rfl (lv_at hl 1 rfl) ?_
    refine mg (k := 21) (v := .int (gF st 21)) hx hb hts hin hown hK hP (by decide) f135 rfl dX11_readDigits_72 rfl ?_
    refine lv_if_eq (tgt := 82) hx hb dX11_readDigits_75 (by decide) (fun c_3 => ?_) (fun c_3 => ?_)
    · have heq := it_t c_3 heq
      refine lv_iconst (v := (1 : Int32)) hx hb dX11_readDigits_82 (by decide) ?_
      exact b83 k4 hk4 st v1 t0 v3 (gF st 20) (1 : Int32) H locs ls hP hD hS (lv_sub hl [1, 2, 0, 3] rfl) heq
    have heq := it_f c_3 heq
    refine lv_iconst (v := (0 : Int32)) hx hb dX11_readDigits_78 (by decide) ?_
    refine lv_goto (tgt := 83) hx hb dX11_readDigits_79 (by decide) ?_
    exact b83 k4 hk4 st v1 t0 v3 (gF st 20) (0 : Int32) H locs ls hP hD hS (lv_sub hl [1, 2, 0, 3] rfl) heq
  have b39 : ∀ (k4 : MS → Int32 → Int32 → Int32 → Option (Int32 × MS)) (hk4 : ∀ (st : MS) (v1 : Int32) (v2 : Int32) (v3 : Int32) (H : Heap) (locs : List Loc) (ls : Array Slot), va_P D vwCl (mW a T st) H → va_D A (mW a T st) → va_S A s.heap H locs → lv_has ls 4 [(0, .ref (a 0)), (1, .int v1), (2, .int v2), (3, .int v3)] → k4 st v1 v2 v3 = some (r, st') → W p l e rmX11_readDigits s m args below meth c H locs 0 0 Q (F0 m 4 ls [])), ∀ (st : MS) (v1 : Int32) (v2 : Int32) (v3 : Int32) (t1 : Int32) (H : Heap) (locs : List Loc) (ls : Array Slot), va_P D vwCl (mW a T st) H → va_D A (mW a T st) → va_S A s.heap H locs → lv_has ls 4 [(0, .ref (a 0)), (1, .int v1), (2, .int v2), (3, .int v3)] → X11_readDigits_p39 k4 st v1 v2 v3 t1 = some (r, st') → W p l e rmX11_readDigits s m args below meth c H locs 0 0 Q (F0 m 39 ls [.int t1, .ref (a 0)]) := by
    intro k4 hk4 st v1 v2 v3 t1 H locs ls hP hD hS hl heq
    unfold X11_readDigits_p39 at heq
    obtain ⟨n_5, n_5f, heq⟩ := gz_h heq
    refine mp (k := 21) hx hb hts hin hown hK hP hD hS (by decide) f135 dX11_readDigits_39 rfl rfl n_5 n_5f (mset_21 ..) (fun H locs hP hD hS => ?_)
    obtain ⟨st_4, est_4⟩ : ∃ z, z = sF st 21 t1 := ⟨_, rfl⟩
    rw [← est_4] at hP hD
    have heq := nm_h est_4 heq
    refine lv_aload_n hx hb dX11_readDigits_42 rfl (lv_at hl 0 rfl) ?_
    refine mg (k := 21) (v := .int (gF st_4 21)) hx hb hts hin hown hK hP (by decide) f135 rfl dX11_readDigits_43 rfl ?_
    refine lv_if_eq (tgt := 53) hx hb dX11_readDigits_46 (by decide) (fun c_6 => ?_) (fun c_6 => ?_)
    · have heq := it_t c_6 heq
      refine lv_bipush (v := (10 : Int32)) hx hb dX11_readDigits_53 (by decide) ?_
      refine lv_iload_n hx hb dX11_readDigits_55 rfl (lv_at hl 2 rfl) ?_
      refine lv_imul hx hb dX11_readDigits_56 ?_
      refine lv_aload_n hx hb dX11_readDigits_57 rfl (lv_at hl 0 rfl) ?_
      obtain ⟨y_8, st_7, h_9, heq⟩ := bnd_h heq
      refine g_vi (own := RX11) (As := []) (rest := [.int ((10 : Int32) * v2)]) hx hb hml hown hts (okX11_here l D a T h_9) (cwV 0 hts gX11_readDigits_X11_here rfl rfl rfl hdX11_here ⟨Nat.le_of_ble_eq_true rfl, Nat.le_of_ble_eq_true rfl⟩) hK hA hP hD hS (ci := 11) (q0 := 0) rfl rfl rfl hl.1 rfl (Nat.le_of_ble_eq_true rfl) dX11_readDigits_58 ⟨Nat.le_of_ble_eq_true rfl, Nat.le_of_ble_eq_true rfl⟩ (fun H locs hP hD hS => ?_)
      refine lv_iadd hx hb dX11_readDigits_61 ?_
      refine lv_bipush (v := (48 : Int32)) hx hb dX11_readDigits_62 (by decide) ?_
      refine lv_isub hx hb dX11_readDigits_64 ?_
      exact b65 k4 hk4 st_7 v1 v3 ((((10 : Int32) * v2) + y_8) - (48 : Int32)) H locs ls hP hD hS (lv_sub hl [0, 1, 3] rfl) heq
    have heq := it_f c_6 heq
    refine lv_iconst (v := (0 : Int32)) hx hb dX11_readDigits_49 (by decide) ?_
    refine lv_goto (tgt := 65) hx hb dX11_readDigits_50 (by decide) ?_
    exact b65 k4 hk4 st_4 v1 v3 (0 : Int32) H locs ls hP hD hS (lv_sub hl [0, 1, 3] rfl) heq
  have b34 : ∀ (k4 : MS → Int32 → Int32 → Int32 → Option (Int32 × MS)) (hk4 : ∀ (st : MS) (v1 : Int32) (v2 : Int32) (v3 : Int32) (H : Heap) (locs : List Loc) (ls : Array Slot), va_P D vwCl (mW a T st) H → va_D A (mW a T st) → va_S A s.heap H locs → lv_has ls 4 [(0, .ref (a 0)), (1, .int v1), (2, .int v2), (3, .int v3)] → k4 st v1 v2 v3 = some (r, st') → W p l e rmX11_readDigits s m args below meth c H locs 0 0 Q (F0 m 4 ls [])), ∀ (st : MS) (v1 : Int32) (v2 : Int32) (v3 : Int32) (H : Heap) (locs : List Loc) (ls : Array Slot), va_P D vwCl (mW a T st) H → va_D A (mW a T st) → va_S A s.heap H locs → lv_has ls 4 [(0, .ref (a 0)), (1, .int v1), (2, .int v2), (3, .int v3)] → X11_readDigits_p34 k4 st v1 v2 v3 = some (r, st') → W p l e rmX11_readDigits s m args below meth c H locs 0 0 Q (F0 m 34 ls [.ref (a 0)]) := by
    intro k4 hk4 st v1 v2 v3 H locs ls hP hD hS hl heq
    unfold X11_readDigits_p34 at heq
    refine lv_iconst (v := (1 : Int32)) hx hb dX11_readDigits_34 (by decide) ?_
    refine lv_goto (tgt := 39) hx hb dX11_readDigits_35 (by decide) ?_
    exact b39 k4 hk4 st v1 v2 v3 (1 : Int32) H locs ls hP hD hS (lv_sub hl [0, 1, 2, 3] rfl) heq
  have b93 : ∀ (st : MS) (v2 : Int32) (H : Heap) (locs : List Loc) (ls : Array Slot), va_P D vwCl (mW a T st) H → va_D A (mW a T st) → va_S A s.heap H locs → lv_has ls 4 [(2, .int v2)] → X11_readDigits_p93  st v2 = some (r, st') → W p l e rmX11_readDigits s m args below meth c H locs 0 0 Q (F0 m 93 ls []) := by
    intro st v2 H locs ls hP hD hS hl heq
    unfold X11_readDigits_p93 at heq
    refine lv_iload_n hx hb dX11_readDigits_93 rfl (lv_at hl 0 rfl) ?_
    obtain ⟨heq, heq2⟩ := ret_h heq
    subst heq
    subst heq2
    exact hret 94 H locs ls hP hD hS rfl dX11_readDigits_94
  have b4 : ∀ (n : Nat), ∀ (st : MS) (v1 : Int32) (v2 : Int32) (v3 : Int32) (H : Heap) (locs : List Loc) (ls : Array Slot), va_P D vwCl (mW a T st) H → va_D A (mW a T st) → va_S A s.heap H locs → lv_has ls 4 [(0, .ref (a 0)), (1, .int v1), (2, .int v2), (3, .int v3)] → X11_readDigits_p4  n st v1 v2 v3 = some (r, st') → W p l e rmX11_readDigits s m args below meth c H locs 0 0 Q (F0 m 4 ls []) := by
    intro n
    induction n with
    | zero => intro st v1 v2 v3 H locs ls hP hD hS hl heq; cases heq
    | succ n ih =>
      intro st v1 v2 v3 H locs ls hP hD hS hl heq
      rw [X11_readDigits_p4_s] at heq
      refine lv_iload_n hx hb dX11_readDigits_4 rfl (lv_at hl 3 rfl) ?_
      refine lv_iload_n hx hb dX11_readDigits_5 rfl (lv_at hl 1 rfl) ?_
      refine lv_icmp_ge (tgt := 93) hx hb dX11_readDigits_6 (by decide) (fun c_10 => ?_) (fun c_10 => ?_)
      · have heq := it_t c_10 heq
        exact b93 st v2 H locs ls hP hD hS (lv_sub hl [2] rfl) heq
      have heq := it_f c_10 heq
      refine lv_aload_n hx hb dX11_readDigits_9 rfl (lv_at hl 0 rfl) ?_
      refine lv_aload_n hx hb dX11_readDigits_10 rfl (lv_at hl 0 rfl) ?_
      refine mg (k := 21) (v := .int (gF st 21)) hx hb hts hin hown hK hP (by decide) f135 rfl dX11_readDigits_11 rfl ?_
      refine lv_if_ne (tgt := 34) hx hb dX11_readDigits_14 (by decide) (fun c_11 => ?_) (fun c_11 => ?_)
      · have heq := it_f c_11 heq
        exact b34 (fun st v1 v2 v3 => X11_readDigits_p4  n st v1 v2 v3) ih st v1 v2 v3 H locs ls hP hD hS (lv_sub hl [0, 1, 2, 3] rfl) heq
      have heq := it_t c_11 heq
      refine lv_aload_n hx hb dX11_readDigits_17 rfl (lv_at hl 0 rfl) ?_
      obtain ⟨y_13, st_12, h_14, heq⟩ := bnd_h heq
      refine g_vi (own := RX11) (As := []) (rest := [.ref (a 0)]) hx hb hml hown hts (okX11_here l D a T h_14) (cwV 0 hts gX11_readDigits_X11_here rfl rfl rfl hdX11_here ⟨Nat.le_of_ble_eq_true rfl, Nat.le_of_ble_eq_true rfl⟩) hK hA hP hD hS (ci := 11) (q0 := 0) rfl rfl rfl hl.1 rfl (Nat.le_of_ble_eq_true rfl) dX11_readDigits_18 ⟨Nat.le_of_ble_eq_true rfl, Nat.le_of_ble_eq_true rfl⟩ (fun H locs hP hD hS => ?_)
      refine lv_i2l hx hb dX11_readDigits_21 rfl ?_
      refine lv_ldc2 (v := (48 : Int64)) hx hb hown c141 dX11_readDigits_22 ?_
      refine lv_ldc2 (v := (57 : Int64)) hx hb hown c143 dX11_readDigits_25 ?_
      obtain ⟨y_15, h_16, heq⟩ := bd1_h heq
      refine g_si (own := RX11) (D := D) (As := [.long (y_13.toInt64), .long (48 : Int64), .long (57 : Int64)]) (rest := [.ref (a 0)]) hx hb hml hown hts (okX11_in l D h_16) (cwS 3 hts gX11_readDigits_X11_in rfl rfl rfl hdX11_in ⟨Nat.le_of_ble_eq_true rfl, Nat.le_of_ble_eq_true rfl⟩) hK hA hP hS rfl hl.1 rfl (Nat.le_of_ble_eq_true rfl) dX11_readDigits_28 ⟨Nat.le_of_ble_eq_true rfl, Nat.le_of_ble_eq_true rfl⟩ (fun H locs hP hS => ?_)
      refine lv_if_ne (tgt := 38) hx hb dX11_readDigits_31 (by decide) (fun c_17 => ?_) (fun c_17 => ?_)
      · have heq := it_f c_17 heq
        refine lv_iconst (v := (0 : Int32)) hx hb dX11_readDigits_38 (by decide) ?_
        exact b39 (fun st v1 v2 v3 => X11_readDigits_p4  n st v1 v2 v3) ih st_12 v1 v2 v3 (0 : Int32) H locs ls hP hD hS (lv_sub hl [0, 1, 2, 3] rfl) heq
      have heq := it_t c_17 heq
      exact b34 (fun st v1 v2 v3 => X11_readDigits_p4  n st v1 v2 v3) ih st_12 v1 v2 v3 H locs ls hP hD hS (lv_sub hl [0, 1, 2, 3] rfl) heq
  obtain ⟨H, hH⟩ : ∃ H, H = s.heap := ⟨_, rfl⟩
  obtain ⟨locs, hlocs⟩ : ∃ z : List Loc, z = [] := ⟨_, rfl⟩
  have hS : va_S A s.heap H locs := by rw [hH, hlocs]; exact hS
  have hP : va_P D vwCl (mW a T st) H := by rw [hH]; exact hP
  suffices h9 : W p l e rmX11_readDigits s m args below meth c H locs 0 0 Q (F0 m 0 ls []) by rw [hH, hlocs] at h9; exact h9
  clear hH hlocs
  unfold X11_readDigits at heq
  refine lv_iconst (v := (0 : Int32)) hx hb dX11_readDigits_0 (by decide) ?_
  refine lv_istore_n (lv' := [(2, .int (0 : Int32)), (0, .ref (a 0)), (1, .int v1)]) hx hb dX11_readDigits_1 rfl hl (by decide) rfl (fun ls hl => ?_)
  refine lv_iconst (v := (0 : Int32)) hx hb dX11_readDigits_2 (by decide) ?_
  refine lv_istore_n (lv' := [(3, .int (0 : Int32)), (2, .int (0 : Int32)), (0, .ref (a 0)), (1, .int v1)]) hx hb dX11_readDigits_3 rfl hl (by decide) rfl (fun ls hl => ?_)
  exact b4 5000 st v1 (0 : Int32) (0 : Int32) H locs ls hP hD hS (lv_sub hl [2, 3, 1, 0] rfl) heq
