theorem dX7_size_0 : decode cX7_size 0 = .ok (.aload_n 0, 1) := by decide +kernel
theorem dX7_size_1 : decode cX7_size 1 = .ok (.getfield 15, 3) := by decide +kernel
theorem dX7_size_4 : decode cX7_size 4 = .ok (.arraylength, 1) := by decide +kernel
theorem dX7_size_5 : decode cX7_size 5 = .ok (.ireturn, 1) := by decide +kernel
/-! X7 size -/
def X7_size (rn : Nat) (st : MS) : Option (Int32 × MS) :=
    some ((nI rn), st)
abbrev rmX7_size : Room := { frames := 0, cells := 0, slots := 0, locals := 0 }
theorem hdX7_size : yX7_size.cls = RX7 ∧ yX7_size.cls ≠ "java/lang/invoke/MethodHandle" ∧ yX7_size.cls ≠ "java/lang/invoke/VarHandle" ∧ (parseMethodDescriptor yX7_size.desc).map (fun d => d.parameters.length) = some 0 := by decide +kernel
set_option maxRecDepth 100000 in
set_option maxHeartbeats 4000000 in
theorem okX7_size (z : Nat → Nat) (l : Launch) (D : va_G) (a : Nat → Nat) (T : mT3) {rn : Nat} {st : MS} {r : Int32} {st' : MS} (heq : X7_size rn st = some (r, st')) : hCi z l D (cT T) yX7_size wsX7_size rmX7_size [.ref (a 0)] (rW a T rn st) r (rW a T rn st') := by
  refine h_body_i (plainFor_of_name (by decide)) rfl (Nat.le_of_ble_eq_true rfl) (fun p e s m args below meth c A Q hx hb hml hown hts hK hA hX hret ls hP hD hS hl => ?_)
  have hl : lv_has ls 1 [(0, .ref (a 0))] := hl
  have hin : ∀ w ∈ wsX70, w ∈ wsX7_size := fun w h => List.mem_cons_of_mem _ (List.mem_append_right _ h)
  have f15 : (Cond.fieldLink RX7 15 RX7 (TX7 1).2.1 (TX7 1).2.2.1).before args s = true := hts (.fieldLink RX7 15 RX7 "elements" "[I") (by decide +kernel)
  obtain ⟨H, hH⟩ : ∃ H, H = s.heap := ⟨_, rfl⟩
  obtain ⟨locs, hlocs⟩ : ∃ z : List Loc, z = [] := ⟨_, rfl⟩
  have hS : va_S A s.heap H locs := by rw [hH, hlocs]; exact hS
  have hP : va_P D vwCl (rW a T rn st) H := by rw [hH]; exact hP
  suffices h9 : W p l e rmX7_size s m args below meth c H locs 0 0 Q (F0 m 0 ls []) by rw [hH, hlocs] at h9; exact h9
  clear hH hlocs
  unfold X7_size at heq
  refine lv_aload_n hx hb dX7_size_0 rfl (lv_at hl 0 rfl) ?_
  refine rg (k := 1) (v := .ref (a 1)) hx hb hts hin hown hK hP (by decide) f15 rfl dX7_size_1 rfl ?_
  refine va_alen hx hb hK hP 1 0 rfl rfl rfl dX7_size_4 ?_
  obtain ⟨heq, heq2⟩ := ret_h heq
  subst heq
  subst heq2
  exact hret 5 H locs ls hP hD hS rfl dX7_size_5
theorem dX7_has_0 : decode cX7_has 0 = .ok (.iload_n 1, 1) := by decide +kernel
theorem dX7_has_1 : decode cX7_has 1 = .ok (.ifCond .lt 31, 3) := by decide +kernel
theorem dX7_has_4 : decode cX7_has 4 = .ok (.iload_n 2, 1) := by decide +kernel
theorem dX7_has_5 : decode cX7_has 5 = .ok (.ifCond .lt 27, 3) := by decide +kernel
theorem dX7_has_8 : decode cX7_has 8 = .ok (.iload_n 1, 1) := by decide +kernel
theorem dX7_has_9 : decode cX7_has 9 = .ok (.aload_n 0, 1) := by decide +kernel
theorem dX7_has_10 : decode cX7_has 10 = .ok (.getfield 15, 3) := by decide +kernel
theorem dX7_has_13 : decode cX7_has 13 = .ok (.arraylength, 1) := by decide +kernel
theorem dX7_has_14 : decode cX7_has 14 = .ok (.if_icmp .gt 18, 3) := by decide +kernel
theorem dX7_has_17 : decode cX7_has 17 = .ok (.iload_n 2, 1) := by decide +kernel
theorem dX7_has_18 : decode cX7_has 18 = .ok (.aload_n 0, 1) := by decide +kernel
theorem dX7_has_19 : decode cX7_has 19 = .ok (.getfield 15, 3) := by decide +kernel
theorem dX7_has_22 : decode cX7_has 22 = .ok (.arraylength, 1) := by decide +kernel
theorem dX7_has_23 : decode cX7_has 23 = .ok (.iload_n 1, 1) := by decide +kernel
theorem dX7_has_24 : decode cX7_has 24 = .ok (.isub, 1) := by decide +kernel
theorem dX7_has_25 : decode cX7_has 25 = .ok (.if_icmp .gt 7, 3) := by decide +kernel
theorem dX7_has_28 : decode cX7_has 28 = .ok (.iconst 1, 1) := by decide +kernel
theorem dX7_has_29 : decode cX7_has 29 = .ok (.goto 4, 3) := by decide +kernel
theorem dX7_has_32 : decode cX7_has 32 = .ok (.iconst 0, 1) := by decide +kernel
theorem dX7_has_33 : decode cX7_has 33 = .ok (.ireturn, 1) := by decide +kernel
/-! X7 has -/
def X7_has_p33 (rn : Nat) (st : MS) (t0 : Int32) : Option (Int32 × MS) :=
    gz t0 <|
    some (t0, st)
def X7_has (rn : Nat) (st : MS) (v1 : Int32) (v2 : Int32) : Option (Int32 × MS) :=
    if v1 < 0 then
      (X7_has_p33 rn st (0 : Int32))
    else
    if v2 < 0 then
      (X7_has_p33 rn st (0 : Int32))
    else
    if (nI rn) < v1 then
      (X7_has_p33 rn st (0 : Int32))
    else
    if ((nI rn) - v1) < v2 then
      (X7_has_p33 rn st (0 : Int32))
    else
    X7_has_p33 rn st (1 : Int32)
abbrev rmX7_has : Room := { frames := 0, cells := 0, slots := 0, locals := 0 }
theorem hdX7_has : yX7_has.cls = RX7 ∧ yX7_has.cls ≠ "java/lang/invoke/MethodHandle" ∧ yX7_has.cls ≠ "java/lang/invoke/VarHandle" ∧ (parseMethodDescriptor yX7_has.desc).map (fun d => d.parameters.length) = some 2 := by decide +kernel
set_option maxRecDepth 100000 in
set_option maxHeartbeats 4000000 in
theorem okX7_has (z : Nat → Nat) (l : Launch) (D : va_G) (a : Nat → Nat) (T : mT3) {rn : Nat} {st : MS} {v1 : Int32} {v2 : Int32} {r : Int32} {st' : MS} (heq : X7_has rn st v1 v2 = some (r, st')) : hCi z l D (cT T) yX7_has wsX7_has rmX7_has [.ref (a 0), .int v1, .int v2] (rW a T rn st) r (rW a T rn st') := by
  refine h_body_i (plainFor_of_name (by decide)) rfl (Nat.le_of_ble_eq_true rfl) (fun p e s m args below meth c A Q hx hb hml hown hts hK hA hX hret ls hP hD hS hl => ?_)
  have hl : lv_has ls 3 [(0, .ref (a 0)), (1, .int v1), (2, .int v2)] := hl
  have hin : ∀ w ∈ wsX70, w ∈ wsX7_has := fun w h => List.mem_cons_of_mem _ (List.mem_append_right _ h)
  have f15 : (Cond.fieldLink RX7 15 RX7 (TX7 1).2.1 (TX7 1).2.2.1).before args s = true := hts (.fieldLink RX7 15 RX7 "elements" "[I") (by decide +kernel)
  have b33 : ∀ (st : MS) (t0 : Int32) (H : Heap) (locs : List Loc) (ls : Array Slot), va_P D vwCl (rW a T rn st) H → va_D A (rW a T rn st) → va_S A s.heap H locs → lv_has ls 3 [] → X7_has_p33 rn  st t0 = some (r, st') → W p l e rmX7_has s m args below meth c H locs 0 0 Q (F0 m 33 ls [.int t0]) := by
    intro st t0 H locs ls hP hD hS hl heq
    unfold X7_has_p33 at heq
    obtain ⟨n_1, _, heq⟩ := gz_h heq
    obtain ⟨heq, heq2⟩ := ret_h heq
    subst heq
    subst heq2
    exact hret 33 H locs ls hP hD hS n_1 dX7_has_33
  obtain ⟨H, hH⟩ : ∃ H, H = s.heap := ⟨_, rfl⟩
  obtain ⟨locs, hlocs⟩ : ∃ z : List Loc, z = [] := ⟨_, rfl⟩
  have hS : va_S A s.heap H locs := by rw [hH, hlocs]; exact hS
  have hP : va_P D vwCl (rW a T rn st) H := by rw [hH]; exact hP
  suffices h9 : W p l e rmX7_has s m args below meth c H locs 0 0 Q (F0 m 0 ls []) by rw [hH, hlocs] at h9; exact h9
  clear hH hlocs
  unfold X7_has at heq
  refine lv_iload_n hx hb dX7_has_0 rfl (lv_at hl 1 rfl) ?_
  refine lv_if_lt (tgt := 32) hx hb dX7_has_1 (by decide) (fun c_2 => ?_) (fun c_2 => ?_)
  · have heq := it_t c_2 heq
    refine lv_iconst (v := (0 : Int32)) hx hb dX7_has_32 (by decide) ?_
    exact b33 st (0 : Int32) H locs ls hP hD hS (lv_sub hl [] rfl) heq
  have heq := it_f c_2 heq
  refine lv_iload_n hx hb dX7_has_4 rfl (lv_at hl 2 rfl) ?_
  refine lv_if_lt (tgt := 32) hx hb dX7_has_5 (by decide) (fun c_3 => ?_) (fun c_3 => ?_)
  · have heq := it_t c_3 heq
    refine lv_iconst (v := (0 : Int32)) hx hb dX7_has_32 (by decide) ?_
    exact b33 st (0 : Int32) H locs ls hP hD hS (lv_sub hl [] rfl) heq
  have heq := it_f c_3 heq
  refine lv_iload_n hx hb dX7_has_8 rfl (lv_at hl 1 rfl) ?_
  refine lv_aload_n hx hb dX7_has_9 rfl (lv_at hl 0 rfl) ?_
  refine rg (k := 1) (v := .ref (a 1)) hx hb hts hin hown hK hP (by decide) f15 rfl dX7_has_10 rfl ?_
  refine va_alen hx hb hK hP 1 0 rfl rfl rfl dX7_has_13 ?_
  refine lv_icmp_gt (tgt := 32) hx hb dX7_has_14 (by decide) (fun c_4 => ?_) (fun c_4 => ?_)
  · have heq := it_t c_4 heq
    refine lv_iconst (v := (0 : Int32)) hx hb dX7_has_32 (by decide) ?_
    exact b33 st (0 : Int32) H locs ls hP hD hS (lv_sub hl [] rfl) heq
  have heq := it_f c_4 heq
  refine lv_iload_n hx hb dX7_has_17 rfl (lv_at hl 2 rfl) ?_
  refine lv_aload_n hx hb dX7_has_18 rfl (lv_at hl 0 rfl) ?_
  refine rg (k := 1) (v := .ref (a 1)) hx hb hts hin hown hK hP (by decide) f15 rfl dX7_has_19 rfl ?_
  refine va_alen hx hb hK hP 1 0 rfl rfl rfl dX7_has_22 ?_
  refine lv_iload_n hx hb dX7_has_23 rfl (lv_at hl 1 rfl) ?_
  refine lv_isub hx hb dX7_has_24 ?_
  refine lv_icmp_gt (tgt := 32) hx hb dX7_has_25 (by decide) (fun c_5 => ?_) (fun c_5 => ?_)
  · have heq := it_t c_5 heq
    refine lv_iconst (v := (0 : Int32)) hx hb dX7_has_32 (by decide) ?_
    exact b33 st (0 : Int32) H locs ls hP hD hS (lv_sub hl [] rfl) heq
  have heq := it_f c_5 heq
  refine lv_iconst (v := (1 : Int32)) hx hb dX7_has_28 (by decide) ?_
  refine lv_goto (tgt := 33) hx hb dX7_has_29 (by decide) ?_
  exact b33 st (1 : Int32) H locs ls hP hD hS (lv_sub hl [] rfl) heq
set_option maxRecDepth 20000 in
theorem ggX7_at_X7_has : GoodIn wsX7_at wsX7_has := goodIn_r _ [6, 1, 7, 8] (by decide +kernel) (by decide +kernel)
set_option maxRecDepth 20000 in
theorem gX7_at_X7_has : GoodIn wsX7_at (wsV RX7 19 RX7 yX7_has wsX7_has) := goodIn_app (goodIn_of _ (by decide +kernel)) ggX7_at_X7_has
theorem dX7_at_0 : decode cX7_at 0 = .ok (.aload_n 0, 1) := by decide +kernel
theorem dX7_at_1 : decode cX7_at 1 = .ok (.iload_n 1, 1) := by decide +kernel
theorem dX7_at_2 : decode cX7_at 2 = .ok (.iconst 1, 1) := by decide +kernel
theorem dX7_at_3 : decode cX7_at 3 = .ok (.invokevirtual 19, 3) := by decide +kernel
theorem dX7_at_6 : decode cX7_at 6 = .ok (.ifCond .eq 12, 3) := by decide +kernel
theorem dX7_at_9 : decode cX7_at 9 = .ok (.aload_n 0, 1) := by decide +kernel
theorem dX7_at_10 : decode cX7_at 10 = .ok (.getfield 15, 3) := by decide +kernel
theorem dX7_at_13 : decode cX7_at 13 = .ok (.iload_n 1, 1) := by decide +kernel
theorem dX7_at_14 : decode cX7_at 14 = .ok (.iaload, 1) := by decide +kernel
theorem dX7_at_15 : decode cX7_at 15 = .ok (.goto 4, 3) := by decide +kernel
theorem dX7_at_18 : decode cX7_at 18 = .ok (.iconst 0, 1) := by decide +kernel
theorem dX7_at_19 : decode cX7_at 19 = .ok (.ireturn, 1) := by decide +kernel
/-! X7 at -/
def X7_at_p19 (rn : Nat) (st : MS) (t0 : Int32) : Option (Int32 × MS) :=
    some (t0, st)
def X7_at (rn : Nat) (st : MS) (v1 : Int32) : Option (Int32 × MS) :=
    bnd (X7_has rn st v1 (1 : Int32)) fun y_2 st_1 =>
    if y_2 = 0 then
      (X7_at_p19 rn st_1 (0 : Int32))
    else
    inr v1 rn <|
    X7_at_p19 rn st_1 (gA st_1 1 v1.toNatClampNeg)
abbrev rmX7_at : Room := { frames := 1, cells := 0, slots := 0, locals := 22 }
theorem hdX7_at : yX7_at.cls = RX7 ∧ yX7_at.cls ≠ "java/lang/invoke/MethodHandle" ∧ yX7_at.cls ≠ "java/lang/invoke/VarHandle" ∧ (parseMethodDescriptor yX7_at.desc).map (fun d => d.parameters.length) = some 1 := by decide +kernel
set_option maxRecDepth 100000 in
set_option maxHeartbeats 4000000 in
theorem okX7_at (z : Nat → Nat) (l : Launch) (D : va_G) (a : Nat → Nat) (T : mT3) {rn : Nat} {st : MS} {v1 : Int32} {r : Int32} {st' : MS} (heq : X7_at rn st v1 = some (r, st')) : hCi z l D (cT T) yX7_at wsX7_at rmX7_at [.ref (a 0), .int v1] (rW a T rn st) r (rW a T rn st') := by
  refine h_body_i (plainFor_of_name (by decide)) rfl (Nat.le_of_ble_eq_true rfl) (fun p e s m args below meth c A Q hx hb hml hown hts hK hA hX hret ls hP hD hS hl => ?_)
  have hl : lv_has ls 2 [(0, .ref (a 0)), (1, .int v1)] := hl
  have hin : ∀ w ∈ wsX70, w ∈ wsX7_at := fun w h => List.mem_cons_of_mem _ (List.mem_append_right _ h)
  have f15 : (Cond.fieldLink RX7 15 RX7 (TX7 1).2.1 (TX7 1).2.2.1).before args s = true := hts (.fieldLink RX7 15 RX7 "elements" "[I") (by decide +kernel)
  have b19 : ∀ (st : MS) (t0 : Int32) (H : Heap) (locs : List Loc) (ls : Array Slot), va_P D vwCl (rW a T rn st) H → va_D A (rW a T rn st) → va_S A s.heap H locs → lv_has ls 2 [] → X7_at_p19 rn  st t0 = some (r, st') → W p l e rmX7_at s m args below meth c H locs 0 0 Q (F0 m 19 ls [.int t0]) := by
    intro st t0 H locs ls hP hD hS hl heq
    unfold X7_at_p19 at heq
    obtain ⟨heq, heq2⟩ := ret_h heq
    subst heq
    subst heq2
    exact hret 19 H locs ls hP hD hS rfl dX7_at_19
  obtain ⟨H, hH⟩ : ∃ H, H = s.heap := ⟨_, rfl⟩
  obtain ⟨locs, hlocs⟩ : ∃ z : List Loc, z = [] := ⟨_, rfl⟩
  have hS : va_S A s.heap H locs := by rw [hH, hlocs]; exact hS
  have hP : va_P D vwCl (rW a T rn st) H := by rw [hH]; exact hP
  suffices h9 : W p l e rmX7_at s m args below meth c H locs 0 0 Q (F0 m 0 ls []) by rw [hH, hlocs] at h9; exact h9
  clear hH hlocs
  unfold X7_at at heq
  refine lv_aload_n hx hb dX7_at_0 rfl (lv_at hl 0 rfl) ?_
  refine lv_iload_n hx hb dX7_at_1 rfl (lv_at hl 1 rfl) ?_
  refine lv_iconst (v := (1 : Int32)) hx hb dX7_at_2 (by decide) ?_
  obtain ⟨y_2, st_1, h_3, heq⟩ := bnd_h heq
  refine h_vi (own := RX7) (As := [.int v1, .int (1 : Int32)]) (rest := []) (wr := []) hx hb hml hown hts (okX7_has z l D a T h_3) (cwV 2 hts gX7_at_X7_has rfl rfl rfl hdX7_has ⟨Nat.le_of_ble_eq_true rfl, Nat.le_of_ble_eq_true rfl⟩) hK hA hX hP hD hS (perm_nil _) (perm_nil2 _) (ci := 7) (q0 := 0) rfl rfl rfl hl.1 rfl (Nat.le_of_ble_eq_true rfl) dX7_at_3 ⟨Nat.le_of_ble_eq_true rfl, Nat.le_of_ble_eq_true rfl⟩ (fun H locs hP hD hS => ?_)
  refine lv_if_eq (tgt := 18) hx hb dX7_at_6 (by decide) (fun c_4 => ?_) (fun c_4 => ?_)
  · have heq := it_t c_4 heq
    refine lv_iconst (v := (0 : Int32)) hx hb dX7_at_18 (by decide) ?_
    exact b19 st_1 (0 : Int32) H locs ls hP hD hS (lv_sub hl [] rfl) heq
  have heq := it_f c_4 heq
  refine lv_aload_n hx hb dX7_at_9 rfl (lv_at hl 0 rfl) ?_
  refine rg (k := 1) (v := .ref (a 1)) hx hb hts hin hown hK hP (by decide) f15 rfl dX7_at_10 rfl ?_
  refine lv_iload_n hx hb dX7_at_13 rfl (lv_at hl 1 rfl) ?_
  obtain ⟨n_5, heq⟩ := inr_h heq
  refine ral (k := 1) (q := 1) (n := rn) hx hb hK hP rfl n_5 dX7_at_14 ?_
  refine lv_goto (tgt := 19) hx hb dX7_at_15 (by decide) ?_
  exact b19 st_1 (gA st_1 1 v1.toNatClampNeg) H locs ls hP hD hS (lv_sub hl [] rfl) heq
set_option maxRecDepth 20000 in
theorem ggX7_gets_X7_has : GoodIn wsX7_gets wsX7_has := goodIn_r _ [7, 1, 8, 9] (by decide +kernel) (by decide +kernel)
set_option maxRecDepth 20000 in
theorem gX7_gets_X7_has : GoodIn wsX7_gets (wsV RX7 19 RX7 yX7_has wsX7_has) := goodIn_app (goodIn_of _ (by decide +kernel)) ggX7_gets_X7_has
theorem dX7_gets_0 : decode cX7_gets 0 = .ok (.aload_n 0, 1) := by decide +kernel
theorem dX7_gets_1 : decode cX7_gets 1 = .ok (.iload_n 1, 1) := by decide +kernel
theorem dX7_gets_2 : decode cX7_gets 2 = .ok (.iconst 1, 1) := by decide +kernel
theorem dX7_gets_3 : decode cX7_gets 3 = .ok (.invokevirtual 19, 3) := by decide +kernel
theorem dX7_gets_6 : decode cX7_gets 6 = .ok (.ifCond .ne 5, 3) := by decide +kernel
theorem dX7_gets_9 : decode cX7_gets 9 = .ok (.iconst 0, 1) := by decide +kernel
theorem dX7_gets_10 : decode cX7_gets 10 = .ok (.ireturn, 1) := by decide +kernel
theorem dX7_gets_11 : decode cX7_gets 11 = .ok (.aload_n 0, 1) := by decide +kernel
theorem dX7_gets_12 : decode cX7_gets 12 = .ok (.getfield 15, 3) := by decide +kernel
theorem dX7_gets_15 : decode cX7_gets 15 = .ok (.iload_n 1, 1) := by decide +kernel
theorem dX7_gets_16 : decode cX7_gets 16 = .ok (.aload_n 0, 1) := by decide +kernel
theorem dX7_gets_17 : decode cX7_gets 17 = .ok (.getfield 9, 3) := by decide +kernel
theorem dX7_gets_20 : decode cX7_gets 20 = .ok (.ifCond .ne 8, 3) := by decide +kernel
theorem dX7_gets_23 : decode cX7_gets 23 = .ok (.iload_n 2, 1) := by decide +kernel
theorem dX7_gets_24 : decode cX7_gets 24 = .ok (.i2b, 1) := by decide +kernel
theorem dX7_gets_25 : decode cX7_gets 25 = .ok (.goto 17, 3) := by decide +kernel
theorem dX7_gets_28 : decode cX7_gets 28 = .ok (.aload_n 0, 1) := by decide +kernel
theorem dX7_gets_29 : decode cX7_gets 29 = .ok (.getfield 9, 3) := by decide +kernel
theorem dX7_gets_32 : decode cX7_gets 32 = .ok (.iconst 1, 1) := by decide +kernel
theorem dX7_gets_33 : decode cX7_gets 33 = .ok (.if_icmp .ne 8, 3) := by decide +kernel
theorem dX7_gets_36 : decode cX7_gets 36 = .ok (.iload_n 2, 1) := by decide +kernel
theorem dX7_gets_37 : decode cX7_gets 37 = .ok (.i2s, 1) := by decide +kernel
theorem dX7_gets_38 : decode cX7_gets 38 = .ok (.goto 4, 3) := by decide +kernel
theorem dX7_gets_41 : decode cX7_gets 41 = .ok (.iload_n 2, 1) := by decide +kernel
theorem dX7_gets_42 : decode cX7_gets 42 = .ok (.iastore, 1) := by decide +kernel
theorem dX7_gets_43 : decode cX7_gets 43 = .ok (.iconst 1, 1) := by decide +kernel
theorem dX7_gets_44 : decode cX7_gets 44 = .ok (.ireturn, 1) := by decide +kernel
/-! X7 gets -/
def X7_gets_p42 (rn : Nat) (st : MS) (t1 : Int32) (t2 : Int32) : Option (Int32 × MS) :=
    inr t1 rn <|
    nm (sA st 1 t1.toNatClampNeg t2) fun st_2 =>
    gz (1 : Int32) <|
    some ((1 : Int32), st_2)
def X7_gets (rn : Nat) (st : MS) (v1 : Int32) (v2 : Int32) : Option (Int32 × MS) :=
    bnd (X7_has rn st v1 (1 : Int32)) fun y_5 st_4 =>
    if y_5 = 0 then
      (gz (0 : Int32) <|
      some ((0 : Int32), st_4))
    else
    if (gF st_4 0) = 0 then
      (X7_gets_p42 rn st_4 v1 (v2.toInt8.toInt32))
    else
    if (gF st_4 0) = (1 : Int32) then
      (X7_gets_p42 rn st_4 v1 (v2.toInt16.toInt32))
    else
    X7_gets_p42 rn st_4 v1 v2
abbrev rmX7_gets : Room := { frames := 1, cells := 0, slots := 0, locals := 22 }
theorem hdX7_gets : yX7_gets.cls = RX7 ∧ yX7_gets.cls ≠ "java/lang/invoke/MethodHandle" ∧ yX7_gets.cls ≠ "java/lang/invoke/VarHandle" ∧ (parseMethodDescriptor yX7_gets.desc).map (fun d => d.parameters.length) = some 2 := by decide +kernel
set_option maxRecDepth 100000 in
set_option maxHeartbeats 4000000 in
theorem okX7_gets (z : Nat → Nat) (l : Launch) (D : va_G) (a : Nat → Nat) (T : mT3) {rn : Nat} {st : MS} {v1 : Int32} {v2 : Int32} {r : Int32} {st' : MS} (heq : X7_gets rn st v1 v2 = some (r, st')) : hCi z l D (cT T) yX7_gets wsX7_gets rmX7_gets [.ref (a 0), .int v1, .int v2] (rW a T rn st) r (rW a T rn st') := by
  refine h_body_i (plainFor_of_name (by decide)) rfl (Nat.le_of_ble_eq_true rfl) (fun p e s m args below meth c A Q hx hb hml hown hts hK hA hX hret ls hP hD hS hl => ?_)
  have hl : lv_has ls 3 [(0, .ref (a 0)), (1, .int v1), (2, .int v2)] := hl
  have hin : ∀ w ∈ wsX70, w ∈ wsX7_gets := fun w h => List.mem_cons_of_mem _ (List.mem_append_right _ h)
  have f9 : (Cond.fieldLink RX7 9 RX7 (TX7 0).2.1 (TX7 0).2.2.1).before args s = true := hts (.fieldLink RX7 9 RX7 "sort" "I") (by decide +kernel)
  have f15 : (Cond.fieldLink RX7 15 RX7 (TX7 1).2.1 (TX7 1).2.2.1).before args s = true := hts (.fieldLink RX7 15 RX7 "elements" "[I") (by decide +kernel)
  have b42 : ∀ (st : MS) (t1 : Int32) (t2 : Int32) (H : Heap) (locs : List Loc) (ls : Array Slot), va_P D vwCl (rW a T rn st) H → va_D A (rW a T rn st) → va_S A s.heap H locs → lv_has ls 3 [] → X7_gets_p42 rn  st t1 t2 = some (r, st') → W p l e rmX7_gets s m args below meth c H locs 0 0 Q (F0 m 42 ls [.int t2, .int t1, .ref (a 1)]) := by
    intro st t1 t2 H locs ls hP hD hS hl heq
    unfold X7_gets_p42 at heq
    obtain ⟨n_1, heq⟩ := inr_h heq
    refine ras (k := 1) (q := 1) (n := rn) hx hb hK hP hD hS rfl (raset_1 ..) n_1 dX7_gets_42 (fun H locs hP hD hS => ?_)
    obtain ⟨st_2, est_2⟩ : ∃ z, z = sA st 1 t1.toNatClampNeg t2 := ⟨_, rfl⟩
    rw [← est_2] at hP hD
    have heq := nm_h est_2 heq
    refine lv_iconst (v := (1 : Int32)) hx hb dX7_gets_43 (by decide) ?_
    obtain ⟨n_3, _, heq⟩ := gz_h heq
    obtain ⟨heq, heq2⟩ := ret_h heq
    subst heq
    subst heq2
    exact hret 44 H locs ls hP hD hS n_3 dX7_gets_44
  obtain ⟨H, hH⟩ : ∃ H, H = s.heap := ⟨_, rfl⟩
  obtain ⟨locs, hlocs⟩ : ∃ z : List Loc, z = [] := ⟨_, rfl⟩
  have hS : va_S A s.heap H locs := by rw [hH, hlocs]; exact hS
  have hP : va_P D vwCl (rW a T rn st) H := by rw [hH]; exact hP
  suffices h9 : W p l e rmX7_gets s m args below meth c H locs 0 0 Q (F0 m 0 ls []) by rw [hH, hlocs] at h9; exact h9
  clear hH hlocs
  unfold X7_gets at heq
  refine lv_aload_n hx hb dX7_gets_0 rfl (lv_at hl 0 rfl) ?_
  refine lv_iload_n hx hb dX7_gets_1 rfl (lv_at hl 1 rfl) ?_
  refine lv_iconst (v := (1 : Int32)) hx hb dX7_gets_2 (by decide) ?_
  obtain ⟨y_5, st_4, h_6, heq⟩ := bnd_h heq
  refine h_vi (own := RX7) (As := [.int v1, .int (1 : Int32)]) (rest := []) (wr := []) hx hb hml hown hts (okX7_has z l D a T h_6) (cwV 2 hts gX7_gets_X7_has rfl rfl rfl hdX7_has ⟨Nat.le_of_ble_eq_true rfl, Nat.le_of_ble_eq_true rfl⟩) hK hA hX hP hD hS (perm_nil _) (perm_nil2 _) (ci := 7) (q0 := 0) rfl rfl rfl hl.1 rfl (Nat.le_of_ble_eq_true rfl) dX7_gets_3 ⟨Nat.le_of_ble_eq_true rfl, Nat.le_of_ble_eq_true rfl⟩ (fun H locs hP hD hS => ?_)
  refine lv_if_ne (tgt := 11) hx hb dX7_gets_6 (by decide) (fun c_7 => ?_) (fun c_7 => ?_)
  · have heq := it_f c_7 heq
    refine lv_aload_n hx hb dX7_gets_11 rfl (lv_at hl 0 rfl) ?_
    refine rg (k := 1) (v := .ref (a 1)) hx hb hts hin hown hK hP (by decide) f15 rfl dX7_gets_12 rfl ?_
    refine lv_iload_n hx hb dX7_gets_15 rfl (lv_at hl 1 rfl) ?_
    refine lv_aload_n hx hb dX7_gets_16 rfl (lv_at hl 0 rfl) ?_
    refine rg (k := 0) (v := .int (gF st_4 0)) hx hb hts hin hown hK hP (by decide) f9 rfl dX7_gets_17 rfl ?_
    refine lv_if_ne (tgt := 28) hx hb dX7_gets_20 (by decide) (fun c_8 => ?_) (fun c_8 => ?_)
    · have heq := it_f c_8 heq
      refine lv_aload_n hx hb dX7_gets_28 rfl (lv_at hl 0 rfl) ?_
      refine rg (k := 0) (v := .int (gF st_4 0)) hx hb hts hin hown hK hP (by decide) f9 rfl dX7_gets_29 rfl ?_
      refine lv_iconst (v := (1 : Int32)) hx hb dX7_gets_32 (by decide) ?_
      refine lv_icmp_ne (tgt := 41) hx hb dX7_gets_33 (by decide) (fun c_9 => ?_) (fun c_9 => ?_)
      · have heq := it_f c_9 heq
        refine lv_iload_n hx hb dX7_gets_41 rfl (lv_at hl 2 rfl) ?_
        exact b42 st_4 v1 v2 H locs ls hP hD hS (lv_sub hl [] rfl) heq
      have heq := it_t c_9 heq
      refine lv_iload_n hx hb dX7_gets_36 rfl (lv_at hl 2 rfl) ?_
      refine lv_i2s hx hb dX7_gets_37 rfl ?_
      refine lv_goto (tgt := 42) hx hb dX7_gets_38 (by decide) ?_
      exact b42 st_4 v1 (v2.toInt16.toInt32) H locs ls hP hD hS (lv_sub hl [] rfl) heq
    have heq := it_t c_8 heq
    refine lv_iload_n hx hb dX7_gets_23 rfl (lv_at hl 2 rfl) ?_
    refine lv_i2b hx hb dX7_gets_24 rfl ?_
    refine lv_goto (tgt := 42) hx hb dX7_gets_25 (by decide) ?_
    exact b42 st_4 v1 (v2.toInt8.toInt32) H locs ls hP hD hS (lv_sub hl [] rfl) heq
  have heq := it_t c_7 heq
  refine lv_iconst (v := (0 : Int32)) hx hb dX7_gets_9 (by decide) ?_
  obtain ⟨n_10, _, heq⟩ := gz_h heq
  obtain ⟨heq, heq2⟩ := ret_h heq
  subst heq
  subst heq2
  exact hret 10 H locs ls hP hD hS n_10 dX7_gets_10
set_option maxRecDepth 20000 in
theorem ggX7_isSkipped_X7_at : GoodIn wsX7_isSkipped wsX7_at := goodIn_r _ [6, 7, 8, 9, 10, 5, 11, 12, 13] (by decide +kernel) (by decide +kernel)
set_option maxRecDepth 20000 in
theorem gX7_isSkipped_X7_at : GoodIn wsX7_isSkipped (wsV RX7 23 RX7 yX7_at wsX7_at) := goodIn_app (goodIn_of _ (by decide +kernel)) ggX7_isSkipped_X7_at
theorem dX7_isSkipped_0 : decode cX7_isSkipped 0 = .ok (.aload_n 0, 1) := by decide +kernel
theorem dX7_isSkipped_1 : decode cX7_isSkipped 1 = .ok (.getfield 9, 3) := by decide +kernel
theorem dX7_isSkipped_4 : decode cX7_isSkipped 4 = .ok (.ifCond .lt 31, 3) := by decide +kernel
theorem dX7_isSkipped_7 : decode cX7_isSkipped 7 = .ok (.aload_n 0, 1) := by decide +kernel
theorem dX7_isSkipped_8 : decode cX7_isSkipped 8 = .ok (.getfield 9, 3) := by decide +kernel
theorem dX7_isSkipped_11 : decode cX7_isSkipped 11 = .ok (.iconst 2, 1) := by decide +kernel
theorem dX7_isSkipped_12 : decode cX7_isSkipped 12 = .ok (.if_icmp .gt 23, 3) := by decide +kernel
theorem dX7_isSkipped_15 : decode cX7_isSkipped 15 = .ok (.aload_n 0, 1) := by decide +kernel
theorem dX7_isSkipped_16 : decode cX7_isSkipped 16 = .ok (.iload_n 1, 1) := by decide +kernel
theorem dX7_isSkipped_17 : decode cX7_isSkipped 17 = .ok (.invokevirtual 23, 3) := by decide +kernel
theorem dX7_isSkipped_20 : decode cX7_isSkipped 20 = .ok (.getstatic 27, 3) := by decide +kernel
theorem dX7_isSkipped_23 : decode cX7_isSkipped 23 = .ok (.aload_n 0, 1) := by decide +kernel
theorem dX7_isSkipped_24 : decode cX7_isSkipped 24 = .ok (.getfield 9, 3) := by decide +kernel
theorem dX7_isSkipped_27 : decode cX7_isSkipped 27 = .ok (.iaload, 1) := by decide +kernel
theorem dX7_isSkipped_28 : decode cX7_isSkipped 28 = .ok (.if_icmp .ne 7, 3) := by decide +kernel
theorem dX7_isSkipped_31 : decode cX7_isSkipped 31 = .ok (.iconst 1, 1) := by decide +kernel
theorem dX7_isSkipped_32 : decode cX7_isSkipped 32 = .ok (.goto 4, 3) := by decide +kernel
theorem dX7_isSkipped_35 : decode cX7_isSkipped 35 = .ok (.iconst 0, 1) := by decide +kernel
theorem dX7_isSkipped_36 : decode cX7_isSkipped 36 = .ok (.ireturn, 1) := by decide +kernel
/-! X7 isSkipped -/
def X7_isSkipped_p36 (rn : Nat) (st : MS) (t0 : Int32) : Option (Int32 × MS) :=
    gz t0 <|
    some (t0, st)
def X7_isSkipped (rn : Nat) (st : MS) (v1 : Int32) : Option (Int32 × MS) :=
    if (gF st 0) < 0 then
      (X7_isSkipped_p36 rn st (0 : Int32))
    else
    if (2 : Int32) < (gF st 0) then
      (X7_isSkipped_p36 rn st (0 : Int32))
    else
    bnd (X7_at rn st v1) fun y_5 st_4 =>
    inr (gF st_4 0) 3 <|
    if y_5 = (cLs (gF st_4 0).toNatClampNeg) then
      (X7_isSkipped_p36 rn st_4 (1 : Int32))
    else
    X7_isSkipped_p36 rn st_4 (0 : Int32)
abbrev rmX7_isSkipped : Room := { frames := 2, cells := 0, slots := 0, locals := 43 }
theorem hdX7_isSkipped : yX7_isSkipped.cls = RX7 ∧ yX7_isSkipped.cls ≠ "java/lang/invoke/MethodHandle" ∧ yX7_isSkipped.cls ≠ "java/lang/invoke/VarHandle" ∧ (parseMethodDescriptor yX7_isSkipped.desc).map (fun d => d.parameters.length) = some 1 := by decide +kernel
set_option maxRecDepth 100000 in
set_option maxHeartbeats 4000000 in
theorem okX7_isSkipped (z : Nat → Nat) (l : Launch) (D : va_G) (a : Nat → Nat) (T : mT3) {rn : Nat} {st : MS} {v1 : Int32} {r : Int32} {st' : MS} (heq : X7_isSkipped rn st v1 = some (r, st')) : hCi z l D (cT T) yX7_isSkipped wsX7_isSkipped rmX7_isSkipped [.ref (a 0), .int v1] (rW a T rn st) r (rW a T rn st') := by
  refine h_body_i (plainFor_of_name (by decide)) rfl (Nat.le_of_ble_eq_true rfl) (fun p e s m args below meth c A Q hx hb hml hown hts hK hA hX hret ls hP hD hS hl => ?_)
  have hl : lv_has ls 2 [(0, .ref (a 0)), (1, .int v1)] := hl
  have hin : ∀ w ∈ wsX70, w ∈ wsX7_isSkipped := fun w h => List.mem_cons_of_mem _ (List.mem_append_right _ h)
  have f9 : (Cond.fieldLink RX7 9 RX7 (TX7 0).2.1 (TX7 0).2.2.1).before args s = true := hts (.fieldLink RX7 9 RX7 "sort" "I") (by decide +kernel)
  have b36 : ∀ (st : MS) (t0 : Int32) (H : Heap) (locs : List Loc) (ls : Array Slot), va_P D vwCl (rW a T rn st) H → va_D A (rW a T rn st) → va_S A s.heap H locs → lv_has ls 2 [] → X7_isSkipped_p36 rn  st t0 = some (r, st') → W p l e rmX7_isSkipped s m args below meth c H locs 0 0 Q (F0 m 36 ls [.int t0]) := by
    intro st t0 H locs ls hP hD hS hl heq
    unfold X7_isSkipped_p36 at heq
    obtain ⟨n_1, _, heq⟩ := gz_h heq
    obtain ⟨heq, heq2⟩ := ret_h heq
    subst heq
    subst heq2
    exact hret 36 H locs ls hP hD hS n_1 dX7_isSkipped_36
  obtain ⟨H, hH⟩ : ∃ H, H = s.heap := ⟨_, rfl⟩
  obtain ⟨locs, hlocs⟩ : ∃ z : List Loc, z = [] := ⟨_, rfl⟩
  have hS : va_S A s.heap H locs := by rw [hH, hlocs]; exact hS
  have hP : va_P D vwCl (rW a T rn st) H := by rw [hH]; exact hP
  suffices h9 : W p l e rmX7_isSkipped s m args below meth c H locs 0 0 Q (F0 m 0 ls []) by rw [hH, hlocs] at h9; exact h9
  clear hH hlocs
  unfold X7_isSkipped at heq
  refine lv_aload_n hx hb dX7_isSkipped_0 rfl (lv_at hl 0 rfl) ?_
  refine rg (k := 0) (v := .int (gF st 0)) hx hb hts hin hown hK hP (by decide) f9 rfl dX7_isSkipped_1 rfl ?_
  refine lv_if_lt (tgt := 35) hx hb dX7_isSkipped_4 (by decide) (fun c_2 => ?_) (fun c_2 => ?_)
  · have heq := it_t c_2 heq
    refine lv_iconst (v := (0 : Int32)) hx hb dX7_isSkipped_35 (by decide) ?_
    exact b36 st (0 : Int32) H locs ls hP hD hS (lv_sub hl [] rfl) heq
  have heq := it_f c_2 heq
  refine lv_aload_n hx hb dX7_isSkipped_7 rfl (lv_at hl 0 rfl) ?_
  refine rg (k := 0) (v := .int (gF st 0)) hx hb hts hin hown hK hP (by decide) f9 rfl dX7_isSkipped_8 rfl ?_
  refine lv_iconst (v := (2 : Int32)) hx hb dX7_isSkipped_11 (by decide) ?_
  refine lv_icmp_gt (tgt := 35) hx hb dX7_isSkipped_12 (by decide) (fun c_3 => ?_) (fun c_3 => ?_)
  · have heq := it_t c_3 heq
    refine lv_iconst (v := (0 : Int32)) hx hb dX7_isSkipped_35 (by decide) ?_
    exact b36 st (0 : Int32) H locs ls hP hD hS (lv_sub hl [] rfl) heq
  have heq := it_f c_3 heq
  refine lv_aload_n hx hb dX7_isSkipped_15 rfl (lv_at hl 0 rfl) ?_
  refine lv_iload_n hx hb dX7_isSkipped_16 rfl (lv_at hl 1 rfl) ?_
  obtain ⟨y_5, st_4, h_6, heq⟩ := bnd_h heq
  refine h_vi (own := RX7) (As := [.int v1]) (rest := []) (wr := []) hx hb hml hown hts (okX7_at z l D a T h_6) (cwV 1 hts gX7_isSkipped_X7_at rfl rfl rfl hdX7_at ⟨Nat.le_of_ble_eq_true rfl, Nat.le_of_ble_eq_true rfl⟩) hK hA hX hP hD hS (perm_nil _) (perm_nil2 _) (ci := 7) (q0 := 0) rfl rfl rfl hl.1 rfl (Nat.le_of_ble_eq_true rfl) dX7_isSkipped_17 ⟨Nat.le_of_ble_eq_true rfl, Nat.le_of_ble_eq_true rfl⟩ (fun H locs hP hD hS => ?_)
  refine va_getsN (C := RX10) (ref := RX10) (host := RX10) hx hb hX.2.2.2.2.2.1 hS hown (va_Nw.use rfl (hX.nest 5 rfl)) (fun _ h => h) dX7_isSkipped_20 ?_
  refine lv_aload_n hx hb dX7_isSkipped_23 rfl (lv_at hl 0 rfl) ?_
  refine rg (k := 0) (v := .int (gF st_4 0)) hx hb hts hin hown hK hP (by decide) f9 rfl dX7_isSkipped_24 rfl ?_
  obtain ⟨n_7, heq⟩ := inr_h heq
  refine va_ti hx hb hX.2.2.2.2.2.2 hS n_7 rfl dX7_isSkipped_27 ?_
  refine lv_icmp_ne (tgt := 35) hx hb dX7_isSkipped_28 (by decide) (fun c_8 => ?_) (fun c_8 => ?_)
  · have heq := it_f c_8 heq
    refine lv_iconst (v := (0 : Int32)) hx hb dX7_isSkipped_35 (by decide) ?_
    exact b36 st_4 (0 : Int32) H locs ls hP hD hS (lv_sub hl [] rfl) heq
  have heq := it_t c_8 heq
  refine lv_iconst (v := (1 : Int32)) hx hb dX7_isSkipped_31 (by decide) ?_
  refine lv_goto (tgt := 36) hx hb dX7_isSkipped_32 (by decide) ?_
  exact b36 st_4 (1 : Int32) H locs ls hP hD hS (lv_sub hl [] rfl) heq
set_option maxRecDepth 20000 in
theorem ggX7_isDigit_X7_at : GoodIn wsX7_isDigit wsX7_at := goodIn_r _ [5, 6, 7, 8, 9, 4, 10, 11, 12] (by decide +kernel) (by decide +kernel)
set_option maxRecDepth 20000 in
theorem gX7_isDigit_X7_at : GoodIn wsX7_isDigit (wsV RX7 23 RX7 yX7_at wsX7_at) := goodIn_app (goodIn_of _ (by decide +kernel)) ggX7_isDigit_X7_at
theorem dX7_isDigit_0 : decode cX7_isDigit 0 = .ok (.aload_n 0, 1) := by decide +kernel
theorem dX7_isDigit_1 : decode cX7_isDigit 1 = .ok (.iload_n 1, 1) := by decide +kernel
theorem dX7_isDigit_2 : decode cX7_isDigit 2 = .ok (.invokevirtual 23, 3) := by decide +kernel
theorem dX7_isDigit_5 : decode cX7_isDigit 5 = .ok (.bipush 48, 2) := by decide +kernel
theorem dX7_isDigit_7 : decode cX7_isDigit 7 = .ok (.if_icmp .lt 17, 3) := by decide +kernel
theorem dX7_isDigit_10 : decode cX7_isDigit 10 = .ok (.aload_n 0, 1) := by decide +kernel
theorem dX7_isDigit_11 : decode cX7_isDigit 11 = .ok (.iload_n 1, 1) := by decide +kernel
theorem dX7_isDigit_12 : decode cX7_isDigit 12 = .ok (.invokevirtual 23, 3) := by decide +kernel
theorem dX7_isDigit_15 : decode cX7_isDigit 15 = .ok (.bipush 57, 2) := by decide +kernel
theorem dX7_isDigit_17 : decode cX7_isDigit 17 = .ok (.if_icmp .gt 7, 3) := by decide +kernel
theorem dX7_isDigit_20 : decode cX7_isDigit 20 = .ok (.iconst 1, 1) := by decide +kernel
theorem dX7_isDigit_21 : decode cX7_isDigit 21 = .ok (.goto 4, 3) := by decide +kernel
theorem dX7_isDigit_24 : decode cX7_isDigit 24 = .ok (.iconst 0, 1) := by decide +kernel
theorem dX7_isDigit_25 : decode cX7_isDigit 25 = .ok (.ireturn, 1) := by decide +kernel
/-! X7 isDigit -/
def X7_isDigit_p25 (rn : Nat) (st : MS) (t0 : Int32) : Option (Int32 × MS) :=
    gz t0 <|
    some (t0, st)
def X7_isDigit (rn : Nat) (st : MS) (v1 : Int32) : Option (Int32 × MS) :=
    bnd (X7_at rn st v1) fun y_3 st_2 =>
    if y_3 < (48 : Int32) then
      (X7_isDigit_p25 rn st_2 (0 : Int32))
    else
    bnd (X7_at rn st_2 v1) fun y_7 st_6 =>
    if (57 : Int32) < y_7 then
      (X7_isDigit_p25 rn st_6 (0 : Int32))
    else
    X7_isDigit_p25 rn st_6 (1 : Int32)
abbrev rmX7_isDigit : Room := { frames := 2, cells := 0, slots := 0, locals := 43 }
theorem hdX7_isDigit : yX7_isDigit.cls = RX7 ∧ yX7_isDigit.cls ≠ "java/lang/invoke/MethodHandle" ∧ yX7_isDigit.cls ≠ "java/lang/invoke/VarHandle" ∧ (parseMethodDescriptor yX7_isDigit.desc).map (fun d => d.parameters.length) = some 1 := by decide +kernel
set_option maxRecDepth 100000 in
set_option maxHeartbeats 4000000 in
theorem okX7_isDigit (z : Nat → Nat) (l : Launch) (D : va_G) (a : Nat → Nat) (T : mT3) {rn : Nat} {st : MS} {v1 : Int32} {r : Int32} {st' : MS} (heq : X7_isDigit rn st v1 = some (r, st')) : hCi z l D (cT T) yX7_isDigit wsX7_isDigit rmX7_isDigit [.ref (a 0), .int v1] (rW a T rn st) r (rW a T rn st') := by
  refine h_body_i (plainFor_of_name (by decide)) rfl (Nat.le_of_ble_eq_true rfl) (fun p e s m args below meth c A Q hx hb hml hown hts hK hA hX hret ls hP hD hS hl => ?_)
  have hl : lv_has ls 2 [(0, .ref (a 0)), (1, .int v1)] := hl
  have b25 : ∀ (st : MS) (t0 : Int32) (H : Heap) (locs : List Loc) (ls : Array Slot), va_P D vwCl (rW a T rn st) H → va_D A (rW a T rn st) → va_S A s.heap H locs → lv_has ls 2 [] → X7_isDigit_p25 rn  st t0 = some (r, st') → W p l e rmX7_isDigit s m args below meth c H locs 0 0 Q (F0 m 25 ls [.int t0]) := by
    intro st t0 H locs ls hP hD hS hl heq
    unfold X7_isDigit_p25 at heq
    obtain ⟨n_1, _, heq⟩ := gz_h heq
    obtain ⟨heq, heq2⟩ := ret_h heq
    subst heq
    subst heq2
    exact hret 25 H locs ls hP hD hS n_1 dX7_isDigit_25
  obtain ⟨H, hH⟩ : ∃ H, H = s.heap := ⟨_, rfl⟩
  obtain ⟨locs, hlocs⟩ : ∃ z : List Loc, z = [] := ⟨_, rfl⟩
  have hS : va_S A s.heap H locs := by rw [hH, hlocs]; exact hS
  have hP : va_P D vwCl (rW a T rn st) H := by rw [hH]; exact hP
  suffices h9 : W p l e rmX7_isDigit s m args below meth c H locs 0 0 Q (F0 m 0 ls []) by rw [hH, hlocs] at h9; exact h9
  clear hH hlocs
  unfold X7_isDigit at heq
  refine lv_aload_n hx hb dX7_isDigit_0 rfl (lv_at hl 0 rfl) ?_
  refine lv_iload_n hx hb dX7_isDigit_1 rfl (lv_at hl 1 rfl) ?_
  obtain ⟨y_3, st_2, h_4, heq⟩ := bnd_h heq
  refine h_vi (own := RX7) (As := [.int v1]) (rest := []) (wr := []) hx hb hml hown hts (okX7_at z l D a T h_4) (cwV 1 hts gX7_isDigit_X7_at rfl rfl rfl hdX7_at ⟨Nat.le_of_ble_eq_true rfl, Nat.le_of_ble_eq_true rfl⟩) hK hA hX hP hD hS (perm_nil _) (perm_nil2 _) (ci := 7) (q0 := 0) rfl rfl rfl hl.1 rfl (Nat.le_of_ble_eq_true rfl) dX7_isDigit_2 ⟨Nat.le_of_ble_eq_true rfl, Nat.le_of_ble_eq_true rfl⟩ (fun H locs hP hD hS => ?_)
  refine lv_bipush (v := (48 : Int32)) hx hb dX7_isDigit_5 (by decide) ?_
  refine lv_icmp_lt (tgt := 24) hx hb dX7_isDigit_7 (by decide) (fun c_5 => ?_) (fun c_5 => ?_)
  · have heq := it_t c_5 heq
    refine lv_iconst (v := (0 : Int32)) hx hb dX7_isDigit_24 (by decide) ?_
    exact b25 st_2 (0 : Int32) H locs ls hP hD hS (lv_sub hl [] rfl) heq
  have heq := it_f c_5 heq
  refine lv_aload_n hx hb dX7_isDigit_10 rfl (lv_at hl 0 rfl) ?_
  refine lv_iload_n hx hb dX7_isDigit_11 rfl (lv_at hl 1 rfl) ?_
  obtain ⟨y_7, st_6, h_8, heq⟩ := bnd_h heq
  refine h_vi (own := RX7) (As := [.int v1]) (rest := []) (wr := []) hx hb hml hown hts (okX7_at z l D a T h_8) (cwV 1 hts gX7_isDigit_X7_at rfl rfl rfl hdX7_at ⟨Nat.le_of_ble_eq_true rfl, Nat.le_of_ble_eq_true rfl⟩) hK hA hX hP hD hS (perm_nil _) (perm_nil2 _) (ci := 7) (q0 := 0) rfl rfl rfl hl.1 rfl (Nat.le_of_ble_eq_true rfl) dX7_isDigit_12 ⟨Nat.le_of_ble_eq_true rfl, Nat.le_of_ble_eq_true rfl⟩ (fun H locs hP hD hS => ?_)
  refine lv_bipush (v := (57 : Int32)) hx hb dX7_isDigit_15 (by decide) ?_
  refine lv_icmp_gt (tgt := 24) hx hb dX7_isDigit_17 (by decide) (fun c_9 => ?_) (fun c_9 => ?_)
  · have heq := it_t c_9 heq
    refine lv_iconst (v := (0 : Int32)) hx hb dX7_isDigit_24 (by decide) ?_
    exact b25 st_6 (0 : Int32) H locs ls hP hD hS (lv_sub hl [] rfl) heq
  have heq := it_f c_9 heq
  refine lv_iconst (v := (1 : Int32)) hx hb dX7_isDigit_20 (by decide) ?_
  refine lv_goto (tgt := 25) hx hb dX7_isDigit_21 (by decide) ?_
  exact b25 st_6 (1 : Int32) H locs ls hP hD hS (lv_sub hl [] rfl) heq
set_option maxRecDepth 20000 in
theorem ggX7_number_X7_at : GoodIn wsX7_number wsX7_at := goodIn_r _ [5, 6, 7, 8, 9, 4, 10, 11, 12] (by decide +kernel) (by decide +kernel)
set_option maxRecDepth 20000 in
theorem gX7_number_X7_at : GoodIn wsX7_number (wsV RX7 23 RX7 yX7_at wsX7_at) := goodIn_app (goodIn_of _ (by decide +kernel)) ggX7_number_X7_at
theorem dX7_number_0 : decode cX7_number 0 = .ok (.iconst 0, 1) := by decide +kernel
theorem dX7_number_1 : decode cX7_number 1 = .ok (.istore_n 3, 1) := by decide +kernel
theorem dX7_number_2 : decode cX7_number 2 = .ok (.iconst 0, 1) := by decide +kernel
theorem dX7_number_3 : decode cX7_number 3 = .ok (.istore 4, 2) := by decide +kernel
theorem dX7_number_5 : decode cX7_number 5 = .ok (.iload 4, 2) := by decide +kernel
theorem dX7_number_7 : decode cX7_number 7 = .ok (.iload_n 2, 1) := by decide +kernel
theorem dX7_number_8 : decode cX7_number 8 = .ok (.if_icmp .ge 26, 3) := by decide +kernel
theorem dX7_number_11 : decode cX7_number 11 = .ok (.iload_n 3, 1) := by decide +kernel
theorem dX7_number_12 : decode cX7_number 12 = .ok (.bipush 10, 2) := by decide +kernel
theorem dX7_number_14 : decode cX7_number 14 = .ok (.imul, 1) := by decide +kernel
theorem dX7_number_15 : decode cX7_number 15 = .ok (.aload_n 0, 1) := by decide +kernel
theorem dX7_number_16 : decode cX7_number 16 = .ok (.iload_n 1, 1) := by decide +kernel
theorem dX7_number_17 : decode cX7_number 17 = .ok (.iload 4, 2) := by decide +kernel
theorem dX7_number_19 : decode cX7_number 19 = .ok (.iadd, 1) := by decide +kernel
theorem dX7_number_20 : decode cX7_number 20 = .ok (.invokevirtual 23, 3) := by decide +kernel
theorem dX7_number_23 : decode cX7_number 23 = .ok (.iadd, 1) := by decide +kernel
theorem dX7_number_24 : decode cX7_number 24 = .ok (.bipush 48, 2) := by decide +kernel
theorem dX7_number_26 : decode cX7_number 26 = .ok (.isub, 1) := by decide +kernel
theorem dX7_number_27 : decode cX7_number 27 = .ok (.istore_n 3, 1) := by decide +kernel
theorem dX7_number_28 : decode cX7_number 28 = .ok (.iinc 4 1, 3) := by decide +kernel
theorem dX7_number_31 : decode cX7_number 31 = .ok (.goto (-26), 3) := by decide +kernel
theorem dX7_number_34 : decode cX7_number 34 = .ok (.iload_n 3, 1) := by decide +kernel
theorem dX7_number_35 : decode cX7_number 35 = .ok (.ireturn, 1) := by decide +kernel
/-! X7 number -/
def X7_number_p34 (rn : Nat) (st : MS) (v3 : Int32) : Option (Int32 × MS) :=
    some (v3, st)
def X7_number_p5 (rn : Nat) : Nat → MS → Int32 → Int32 → Int32 → Int32 → Option (Int32 × MS)
  | 0, _, _, _, _, _ => none
  | n + 1, st, v1, v2, v3, v4 =>
    if v2 ≤ v4 then
      (X7_number_p34 rn st v3)
    else
    bnd (X7_at rn st (v1 + v4)) fun y_3 st_2 =>
    nm ((((v3 * (10 : Int32)) + y_3) - (48 : Int32))) fun x_5 =>
    nm (v4 + (1 : Int32)) fun x_6 =>
    X7_number_p5 rn  n st_2 v1 v2 x_5 x_6
theorem X7_number_p5_s (rn : Nat) (n : Nat) (st : MS) (v1 : Int32) (v2 : Int32) (v3 : Int32) (v4 : Int32) : X7_number_p5 rn  (n + 1) st v1 v2 v3 v4 =
    (if v2 ≤ v4 then
      (X7_number_p34 rn st v3)
    else
    bnd (X7_at rn st (v1 + v4)) fun y_3 st_2 =>
    nm ((((v3 * (10 : Int32)) + y_3) - (48 : Int32))) fun x_5 =>
    nm (v4 + (1 : Int32)) fun x_6 =>
    X7_number_p5 rn  n st_2 v1 v2 x_5 x_6) := rfl
def X7_number (rn : Nat) (st : MS) (v1 : Int32) (v2 : Int32) : Option (Int32 × MS) :=
    X7_number_p5 rn 5000 st v1 v2 (0 : Int32) (0 : Int32)
abbrev rmX7_number : Room := { frames := 2, cells := 0, slots := 0, locals := 43 }
theorem hdX7_number : yX7_number.cls = RX7 ∧ yX7_number.cls ≠ "java/lang/invoke/MethodHandle" ∧ yX7_number.cls ≠ "java/lang/invoke/VarHandle" ∧ (parseMethodDescriptor yX7_number.desc).map (fun d => d.parameters.length) = some 2 := by decide +kernel
set_option maxRecDepth 100000 in
set_option maxHeartbeats 4000000 in
theorem okX7_number (z : Nat → Nat) (l : Launch) (D : va_G) (a : Nat → Nat) (T : mT3) {rn : Nat} {st : MS} {v1 : Int32} {v2 : Int32} {r : Int32} {st' : MS} (heq : X7_number rn st v1 v2 = some (r, st')) : hCi z l D (cT T) yX7_number wsX7_number rmX7_number [.ref (a 0), .int v1, .int v2] (rW a T rn st) r (rW a T rn st') := by
  refine h_body_i (plainFor_of_name (by decide)) rfl (Nat.le_of_ble_eq_true rfl) (fun p e s m args below meth c A Q hx hb hml hown hts hK hA hX hret ls hP hD hS hl => ?_)
  have hl : lv_has ls 5 [(0, .ref (a 0)), (1, .int v1), (2, .int v2)] := hl
  have b34 : ∀ (st : MS) (v3 : Int32) (H : Heap) (locs : List Loc) (ls : Array Slot), va_P D vwCl (rW a T rn st) H → va_D A (rW a T rn st) → va_S A s.heap H locs → lv_has ls 5 [(3, .int v3)] → X7_number_p34 rn  st v3 = some (r, st') → W p l e rmX7_number s m args below meth c H locs 0 0 Q (F0 m 34 ls []) := by
    intro st v3 H locs ls hP hD hS hl heq
    unfold X7_number_p34 at heq
    refine lv_iload_n hx hb dX7_number_34 rfl (lv_at hl 0 rfl) ?_
    obtain ⟨heq, heq2⟩ := ret_h heq
    subst heq
    subst heq2
    exact hret 35 H locs ls hP hD hS rfl dX7_number_35
  have b5 : ∀ (n : Nat), ∀ (st : MS) (v1 : Int32) (v2 : Int32) (v3 : Int32) (v4 : Int32) (H : Heap) (locs : List Loc) (ls : Array Slot), va_P D vwCl (rW a T rn st) H → va_D A (rW a T rn st) → va_S A s.heap H locs → lv_has ls 5 [(0, .ref (a 0)), (1, .int v1), (2, .int v2), (3, .int v3), (4, .int v4)] → X7_number_p5 rn  n st v1 v2 v3 v4 = some (r, st') → W p l e rmX7_number s m args below meth c H locs 0 0 Q (F0 m 5 ls []) := by
    intro n
    induction n with
    | zero => intro st v1 v2 v3 v4 H locs ls hP hD hS hl heq; cases heq
    | succ n ih =>
      intro st v1 v2 v3 v4 H locs ls hP hD hS hl heq
      rw [X7_number_p5_s] at heq
      refine lv_iload hx hb dX7_number_5 (lv_at hl 4 rfl) ?_
      refine lv_iload_n hx hb dX7_number_7 rfl (lv_at hl 2 rfl) ?_
      refine lv_icmp_ge (tgt := 34) hx hb dX7_number_8 (by decide) (fun c_1 => ?_) (fun c_1 => ?_)
      · have heq := it_t c_1 heq
        exact b34 st v3 H locs ls hP hD hS (lv_sub hl [3] rfl) heq
      have heq := it_f c_1 heq
      refine lv_iload_n hx hb dX7_number_11 rfl (lv_at hl 3 rfl) ?_
      refine lv_bipush (v := (10 : Int32)) hx hb dX7_number_12 (by decide) ?_
      refine lv_imul hx hb dX7_number_14 ?_
      refine lv_aload_n hx hb dX7_number_15 rfl (lv_at hl 0 rfl) ?_
      refine lv_iload_n hx hb dX7_number_16 rfl (lv_at hl 1 rfl) ?_
      refine lv_iload hx hb dX7_number_17 (lv_at hl 4 rfl) ?_
      refine lv_iadd hx hb dX7_number_19 ?_
      obtain ⟨y_3, st_2, h_4, heq⟩ := bnd_h heq
      refine h_vi (own := RX7) (As := [.int (v1 + v4)]) (rest := [.int (v3 * (10 : Int32))]) (wr := []) hx hb hml hown hts (okX7_at z l D a T h_4) (cwV 1 hts gX7_number_X7_at rfl rfl rfl hdX7_at ⟨Nat.le_of_ble_eq_true rfl, Nat.le_of_ble_eq_true rfl⟩) hK hA hX hP hD hS (perm_nil _) (perm_nil2 _) (ci := 7) (q0 := 0) rfl rfl rfl hl.1 rfl (Nat.le_of_ble_eq_true rfl) dX7_number_20 ⟨Nat.le_of_ble_eq_true rfl, Nat.le_of_ble_eq_true rfl⟩ (fun H locs hP hD hS => ?_)
      refine lv_iadd hx hb dX7_number_23 ?_
      refine lv_bipush (v := (48 : Int32)) hx hb dX7_number_24 (by decide) ?_
      refine lv_isub hx hb dX7_number_26 ?_
      refine lv_topi (fun x_5 ex_5 => ?_)
      have heq := nm_h ex_5 heq
      refine lv_istore_n (lv' := [(3, .int x_5), (0, .ref (a 0)), (1, .int v1), (2, .int v2), (4, .int v4)]) hx hb dX7_number_27 rfl hl (by decide) rfl (fun ls hl => ?_)
      obtain ⟨x_6, ex_6⟩ : ∃ y : Int32, y = v4 + (1 : Int32) := ⟨_, rfl⟩
      have heq := nm_h ex_6 heq
      refine lv_iinc (v := x_6) (lv' := [(4, .int x_6), (3, .int x_5), (0, .ref (a 0)), (1, .int v1), (2, .int v2)]) hx hb dX7_number_28 hl (k := 4) rfl (by rw [ex_6]; rfl) (by decide) rfl (fun ls hl => ?_)
      refine lv_goto (tgt := 5) hx hb dX7_number_31 (by decide) ?_
      exact ih st_2 v1 v2 x_5 x_6 H locs ls hP hD hS (lv_sub hl [2, 3, 4, 1, 0] rfl) heq
  obtain ⟨H, hH⟩ : ∃ H, H = s.heap := ⟨_, rfl⟩
  obtain ⟨locs, hlocs⟩ : ∃ z : List Loc, z = [] := ⟨_, rfl⟩
  have hS : va_S A s.heap H locs := by rw [hH, hlocs]; exact hS
  have hP : va_P D vwCl (rW a T rn st) H := by rw [hH]; exact hP
  suffices h9 : W p l e rmX7_number s m args below meth c H locs 0 0 Q (F0 m 0 ls []) by rw [hH, hlocs] at h9; exact h9
  clear hH hlocs
  unfold X7_number at heq
  refine lv_iconst (v := (0 : Int32)) hx hb dX7_number_0 (by decide) ?_
  refine lv_istore_n (lv' := [(3, .int (0 : Int32)), (0, .ref (a 0)), (1, .int v1), (2, .int v2)]) hx hb dX7_number_1 rfl hl (by decide) rfl (fun ls hl => ?_)
  refine lv_iconst (v := (0 : Int32)) hx hb dX7_number_2 (by decide) ?_
  refine lv_istore (lv' := [(4, .int (0 : Int32)), (3, .int (0 : Int32)), (0, .ref (a 0)), (1, .int v1), (2, .int v2)]) hx hb dX7_number_3 hl (by decide) rfl (fun ls hl => ?_)
  exact b5 5000 st v1 v2 (0 : Int32) (0 : Int32) H locs ls hP hD hS (lv_sub hl [2, 3, 4, 1, 0] rfl) heq
