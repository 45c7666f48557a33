theorem dX8_isDown_0 : decode cX8_isDown 0 = .ok (.aload_n 0, 1) := by decide +kernel
theorem dX8_isDown_1 : decode cX8_isDown 1 = .ok (.getfield 36, 3) := by decide +kernel
theorem dX8_isDown_4 : decode cX8_isDown 4 = .ok (.bipush (-4), 2) := by decide +kernel
theorem dX8_isDown_6 : decode cX8_isDown 6 = .ok (.if_icmp .eq 7, 3) := by decide +kernel
theorem dX8_isDown_9 : decode cX8_isDown 9 = .ok (.iconst 1, 1) := by decide +kernel
theorem dX8_isDown_10 : decode cX8_isDown 10 = .ok (.goto 4, 3) := by decide +kernel
theorem dX8_isDown_13 : decode cX8_isDown 13 = .ok (.iconst 0, 1) := by decide +kernel
theorem dX8_isDown_14 : decode cX8_isDown 14 = .ok (.ireturn, 1) := by decide +kernel
/-! X8 isDown -/
def X8_isDown_p14 (st : MS) (t0 : Int32) : Option (Int32 × MS) :=
    gz t0 <|
    some (t0, st)
def X8_isDown (st : MS) : Option (Int32 × MS) :=
    if (gF st 9) = (-4 : Int32) then
      (X8_isDown_p14 st (0 : Int32))
    else
    X8_isDown_p14 st (1 : Int32)
abbrev rmX8_isDown : Room := { frames := 0, cells := 0, slots := 0, locals := 0 }
theorem hdX8_isDown : yX8_isDown.cls = RX8 ∧ yX8_isDown.cls ≠ "java/lang/invoke/MethodHandle" ∧ yX8_isDown.cls ≠ "java/lang/invoke/VarHandle" ∧ (parseMethodDescriptor yX8_isDown.desc).map (fun d => d.parameters.length) = some 0 := by decide +kernel
set_option maxRecDepth 100000 in
set_option maxHeartbeats 4000000 in
theorem okX8_isDown (z : Nat → Nat) (l : Launch) (D : va_G) (a : Nat → Nat) (T : mT3) (fo : Nat → Option Nat) {st : MS} {r : Int32} {st' : MS} (heq : X8_isDown st = some (r, st')) : hCi z l D (cT T) yX8_isDown wsX8_isDown rmX8_isDown [.ref (a 0)] (tW a T fo st) r (tW a T fo st') := by
  refine h_body_i (plainFor_of_name (by decide)) rfl (Nat.le_of_ble_eq_true rfl) (fun p e s m args below meth c A Q hx hb hml hown hts hK hA hX hret ls hP hD hS hl => ?_)
  have hl : lv_has ls 1 [(0, .ref (a 0))] := hl
  have hin : ∀ w ∈ wsX80, w ∈ wsX8_isDown := fun w h => List.mem_cons_of_mem _ (List.mem_append_right _ h)
  have f36 : (Cond.fieldLink RX8 36 RX8 (TX8 9).2.1 (TX8 9).2.2.1).before args s = true := hts (.fieldLink RX8 36 RX8 "fallenTo" "I") (by decide +kernel)
  have b14 : ∀ (st : MS) (t0 : Int32) (H : Heap) (locs : List Loc) (ls : Array Slot), va_P D vwCl (tW a T fo st) H → va_D A (tW a T fo st) → va_S A s.heap H locs → lv_has ls 1 [] → X8_isDown_p14  st t0 = some (r, st') → W p l e rmX8_isDown s m args below meth c H locs 0 0 Q (F0 m 14 ls [.int t0]) := by
    intro st t0 H locs ls hP hD hS hl heq
    unfold X8_isDown_p14 at heq
    obtain ⟨n_1, _, heq⟩ := gz_h heq
    obtain ⟨heq, heq2⟩ := ret_h heq
    subst heq
    subst heq2
    exact hret 14 H locs ls hP hD hS n_1 dX8_isDown_14
  obtain ⟨H, hH⟩ : ∃ H, H = s.heap := ⟨_, rfl⟩
  obtain ⟨locs, hlocs⟩ : ∃ z : List Loc, z = [] := ⟨_, rfl⟩
  have hS : va_S A s.heap H locs := by rw [hH, hlocs]; exact hS
  have hP : va_P D vwCl (tW a T fo st) H := by rw [hH]; exact hP
  suffices h9 : W p l e rmX8_isDown s m args below meth c H locs 0 0 Q (F0 m 0 ls []) by rw [hH, hlocs] at h9; exact h9
  clear hH hlocs
  unfold X8_isDown at heq
  refine lv_aload_n hx hb dX8_isDown_0 rfl (lv_at hl 0 rfl) ?_
  refine tg (k := 9) (v := .int (gF st 9)) hx hb hts hin hown hK hP (by decide) f36 rfl dX8_isDown_1 rfl ?_
  refine lv_bipush (v := (-4 : Int32)) hx hb dX8_isDown_4 (by decide) ?_
  refine lv_icmp_eq (tgt := 13) hx hb dX8_isDown_6 (by decide) (fun c_2 => ?_) (fun c_2 => ?_)
  · have heq := it_t c_2 heq
    refine lv_iconst (v := (0 : Int32)) hx hb dX8_isDown_13 (by decide) ?_
    exact b14 st (0 : Int32) H locs ls hP hD hS (lv_sub hl [] rfl) heq
  have heq := it_f c_2 heq
  refine lv_iconst (v := (1 : Int32)) hx hb dX8_isDown_9 (by decide) ?_
  refine lv_goto (tgt := 14) hx hb dX8_isDown_10 (by decide) ?_
  exact b14 st (1 : Int32) H locs ls hP hD hS (lv_sub hl [] rfl) heq
theorem dX8_alike_0 : decode cX8_alike 0 = .ok (.getstatic 75, 3) := by decide +kernel
theorem dX8_alike_3 : decode cX8_alike 3 = .ok (.iload_n 0, 1) := by decide +kernel
theorem dX8_alike_4 : decode cX8_alike 4 = .ok (.iaload, 1) := by decide +kernel
theorem dX8_alike_5 : decode cX8_alike 5 = .ok (.getstatic 75, 3) := by decide +kernel
theorem dX8_alike_8 : decode cX8_alike 8 = .ok (.iload_n 1, 1) := by decide +kernel
theorem dX8_alike_9 : decode cX8_alike 9 = .ok (.iaload, 1) := by decide +kernel
theorem dX8_alike_10 : decode cX8_alike 10 = .ok (.imul, 1) := by decide +kernel
theorem dX8_alike_11 : decode cX8_alike 11 = .ok (.getstatic 78, 3) := by decide +kernel
theorem dX8_alike_14 : decode cX8_alike 14 = .ok (.iload_n 0, 1) := by decide +kernel
theorem dX8_alike_15 : decode cX8_alike 15 = .ok (.iaload, 1) := by decide +kernel
theorem dX8_alike_16 : decode cX8_alike 16 = .ok (.getstatic 78, 3) := by decide +kernel
theorem dX8_alike_19 : decode cX8_alike 19 = .ok (.iload_n 1, 1) := by decide +kernel
theorem dX8_alike_20 : decode cX8_alike 20 = .ok (.iaload, 1) := by decide +kernel
theorem dX8_alike_21 : decode cX8_alike 21 = .ok (.imul, 1) := by decide +kernel
theorem dX8_alike_22 : decode cX8_alike 22 = .ok (.iadd, 1) := by decide +kernel
theorem dX8_alike_23 : decode cX8_alike 23 = .ok (.ireturn, 1) := by decide +kernel
/-! X8 alike -/
def X8_alike (v0 : Int32) (v1 : Int32) : Option Int32 :=
    inr v0 12 <|
    inr v1 12 <|
    inr v0 12 <|
    inr v1 12 <|
    some (((cAh v0.toNatClampNeg) * (cAh v1.toNatClampNeg)) + ((cAs v0.toNatClampNeg) * (cAs v1.toNatClampNeg)))
abbrev rmX8_alike : Room := { frames := 0, cells := 0, slots := 0, locals := 0 }
theorem hdX8_alike : yX8_alike.cls = RX8 ∧ yX8_alike.cls ≠ "java/lang/invoke/MethodHandle" ∧ yX8_alike.cls ≠ "java/lang/invoke/VarHandle" ∧ (parseMethodDescriptor yX8_alike.desc).map (fun d => d.parameters.length) = some 2 := by decide +kernel
set_option maxRecDepth 100000 in
set_option maxHeartbeats 4000000 in
theorem okX8_alike (z : Nat → Nat) (l : Launch) (D : va_G) {v0 : Int32} {v1 : Int32} {r : Int32} (heq : X8_alike v0 v1 = some r) : hCi z l D [] yX8_alike wsX8_alike rmX8_alike [.int v0, .int v1] [] r [] := by
  refine h_body_i (plainFor_of_name (by decide)) rfl (Nat.le_of_ble_eq_true rfl) (fun p e s m args below meth c A Q hx hb hml hown hts hK hA hX hret ls hP hD hS hl => ?_)
  have hl : lv_has ls 2 [(0, .int v0), (1, .int v1)] := hl
  obtain ⟨H, hH⟩ : ∃ H, H = s.heap := ⟨_, rfl⟩
  obtain ⟨locs, hlocs⟩ : ∃ z : List Loc, z = [] := ⟨_, rfl⟩
  have hS : va_S A s.heap H locs := by rw [hH, hlocs]; exact hS
  have hP : va_P D vwCl [] H := by rw [hH]; exact hP
  suffices h9 : W p l e rmX8_alike s m args below meth c H locs 0 0 Q (F0 m 0 ls []) by rw [hH, hlocs] at h9; exact h9
  clear hH hlocs
  unfold X8_alike at heq
  refine va_getsN (C := RX10) (ref := RX10) (host := RX10) hx hb hX.2.1.1 hS hown (va_Nw.use rfl (hX.nest 3 rfl)) (fun _ h => h) dX8_alike_0 ?_
  refine lv_iload_n hx hb dX8_alike_3 rfl (lv_at hl 0 rfl) ?_
  obtain ⟨n_1, heq⟩ := inr_h heq
  refine va_ti hx hb hX.2.1.2 hS n_1 rfl dX8_alike_4 ?_
  refine va_getsN (C := RX10) (ref := RX10) (host := RX10) hx hb hX.2.1.1 hS hown (va_Nw.use rfl (hX.nest 3 rfl)) (fun _ h => h) dX8_alike_5 ?_
  refine lv_iload_n hx hb dX8_alike_8 rfl (lv_at hl 1 rfl) ?_
  obtain ⟨n_2, heq⟩ := inr_h heq
  refine va_ti hx hb hX.2.1.2 hS n_2 rfl dX8_alike_9 ?_
  refine lv_imul hx hb dX8_alike_10 ?_
  refine va_getsN (C := RX10) (ref := RX10) (host := RX10) hx hb hX.2.2.1.1 hS hown (va_Nw.use rfl (hX.nest 4 rfl)) (fun _ h => h) dX8_alike_11 ?_
  refine lv_iload_n hx hb dX8_alike_14 rfl (lv_at hl 0 rfl) ?_
  obtain ⟨n_3, heq⟩ := inr_h heq
  refine va_ti hx hb hX.2.2.1.2 hS n_3 rfl dX8_alike_15 ?_
  refine va_getsN (C := RX10) (ref := RX10) (host := RX10) hx hb hX.2.2.1.1 hS hown (va_Nw.use rfl (hX.nest 4 rfl)) (fun _ h => h) dX8_alike_16 ?_
  refine lv_iload_n hx hb dX8_alike_19 rfl (lv_at hl 1 rfl) ?_
  obtain ⟨n_4, heq⟩ := inr_h heq
  refine va_ti hx hb hX.2.2.1.2 hS n_4 rfl dX8_alike_20 ?_
  refine lv_imul hx hb dX8_alike_21 ?_
  refine lv_iadd hx hb dX8_alike_22 ?_
  have heq := Option.some.inj heq
  subst heq
  exact hret 23 H locs ls hP hD hS rfl dX8_alike_23
theorem dX8_bearsAt_0 : decode cX8_bearsAt 0 = .ok (.aload_n 0, 1) := by decide +kernel
theorem dX8_bearsAt_1 : decode cX8_bearsAt 1 = .ok (.getfield 21, 3) := by decide +kernel
theorem dX8_bearsAt_4 : decode cX8_bearsAt 4 = .ok (.iload_n 1, 1) := by decide +kernel
theorem dX8_bearsAt_5 : decode cX8_bearsAt 5 = .ok (.iaload, 1) := by decide +kernel
theorem dX8_bearsAt_6 : decode cX8_bearsAt 6 = .ok (.bipush (-4), 2) := by decide +kernel
theorem dX8_bearsAt_8 : decode cX8_bearsAt 8 = .ok (.if_icmp .eq 17, 3) := by decide +kernel
theorem dX8_bearsAt_11 : decode cX8_bearsAt 11 = .ok (.iload_n 2, 1) := by decide +kernel
theorem dX8_bearsAt_12 : decode cX8_bearsAt 12 = .ok (.aload_n 0, 1) := by decide +kernel
theorem dX8_bearsAt_13 : decode cX8_bearsAt 13 = .ok (.getfield 21, 3) := by decide +kernel
theorem dX8_bearsAt_16 : decode cX8_bearsAt 16 = .ok (.iload_n 1, 1) := by decide +kernel
theorem dX8_bearsAt_17 : decode cX8_bearsAt 17 = .ok (.iaload, 1) := by decide +kernel
theorem dX8_bearsAt_18 : decode cX8_bearsAt 18 = .ok (.if_icmp .lt 7, 3) := by decide +kernel
theorem dX8_bearsAt_21 : decode cX8_bearsAt 21 = .ok (.iconst 0, 1) := by decide +kernel
theorem dX8_bearsAt_22 : decode cX8_bearsAt 22 = .ok (.goto 9, 3) := by decide +kernel
theorem dX8_bearsAt_25 : decode cX8_bearsAt 25 = .ok (.aload_n 0, 1) := by decide +kernel
theorem dX8_bearsAt_26 : decode cX8_bearsAt 26 = .ok (.getfield 17, 3) := by decide +kernel
theorem dX8_bearsAt_29 : decode cX8_bearsAt 29 = .ok (.iload_n 1, 1) := by decide +kernel
theorem dX8_bearsAt_30 : decode cX8_bearsAt 30 = .ok (.iaload, 1) := by decide +kernel
theorem dX8_bearsAt_31 : decode cX8_bearsAt 31 = .ok (.ireturn, 1) := by decide +kernel
/-! X8 bearsAt -/
def X8_bearsAt_p31 (st : MS) (t0 : Int32) : Option (Int32 × MS) :=
    some (t0, st)
def X8_bearsAt_p25 (st : MS) (v1 : Int32) : Option (Int32 × MS) :=
    inr v1 12 <|
    X8_bearsAt_p31 st (gA st 1 v1.toNatClampNeg)
def X8_bearsAt (st : MS) (v1 : Int32) (v2 : Int32) : Option (Int32 × MS) :=
    inr v1 12 <|
    if (gA st 2 v1.toNatClampNeg) = (-4 : Int32) then
      (X8_bearsAt_p25 st v1)
    else
    inr v1 12 <|
    if v2 < (gA st 2 v1.toNatClampNeg) then
      (X8_bearsAt_p25 st v1)
    else
    X8_bearsAt_p31 st (0 : Int32)
abbrev rmX8_bearsAt : Room := { frames := 0, cells := 0, slots := 0, locals := 0 }
theorem hdX8_bearsAt : yX8_bearsAt.cls = RX8 ∧ yX8_bearsAt.cls ≠ "java/lang/invoke/MethodHandle" ∧ yX8_bearsAt.cls ≠ "java/lang/invoke/VarHandle" ∧ (parseMethodDescriptor yX8_bearsAt.desc).map (fun d => d.parameters.length) = some 2 := by decide +kernel
set_option maxRecDepth 100000 in
set_option maxHeartbeats 4000000 in
theorem okX8_bearsAt (z : Nat → Nat) (l : Launch) (D : va_G) (a : Nat → Nat) (T : mT3) (fo : Nat → Option Nat) {st : MS} {v1 : Int32} {v2 : Int32} {r : Int32} {st' : MS} (heq : X8_bearsAt st v1 v2 = some (r, st')) : hCi z l D (cT T) yX8_bearsAt wsX8_bearsAt rmX8_bearsAt [.ref (a 0), .int v1, .int v2] (tW a T fo st) r (tW a T fo st') := by
  refine h_body_i (plainFor_of_name (by decide)) rfl (Nat.le_of_ble_eq_true rfl) (fun p e s m args below meth c A Q hx hb hml hown hts hK hA hX hret ls hP hD hS hl => ?_)
  have hl : lv_has ls 3 [(0, .ref (a 0)), (1, .int v1), (2, .int v2)] := hl
  have hin : ∀ w ∈ wsX80, w ∈ wsX8_bearsAt := fun w h => List.mem_cons_of_mem _ (List.mem_append_right _ h)
  have f17 : (Cond.fieldLink RX8 17 RX8 (TX8 1).2.1 (TX8 1).2.2.1).before args s = true := hts (.fieldLink RX8 17 RX8 "bears" "[I") (by decide +kernel)
  have f21 : (Cond.fieldLink RX8 21 RX8 (TX8 2).2.1 (TX8 2).2.2.1).before args s = true := hts (.fieldLink RX8 21 RX8 "burns" "[I") (by decide +kernel)
  have b31 : ∀ (st : MS) (t0 : Int32) (H : Heap) (locs : List Loc) (ls : Array Slot), va_P D vwCl (tW a T fo st) H → va_D A (tW a T fo st) → va_S A s.heap H locs → lv_has ls 3 [] → X8_bearsAt_p31  st t0 = some (r, st') → W p l e rmX8_bearsAt s m args below meth c H locs 0 0 Q (F0 m 31 ls [.int t0]) := by
    intro st t0 H locs ls hP hD hS hl heq
    unfold X8_bearsAt_p31 at heq
    obtain ⟨heq, heq2⟩ := ret_h heq
    subst heq
    subst heq2
    exact hret 31 H locs ls hP hD hS rfl dX8_bearsAt_31
  have b25 : ∀ (st : MS) (v1 : Int32) (H : Heap) (locs : List Loc) (ls : Array Slot), va_P D vwCl (tW a T fo st) H → va_D A (tW a T fo st) → va_S A s.heap H locs → lv_has ls 3 [(0, .ref (a 0)), (1, .int v1)] → X8_bearsAt_p25  st v1 = some (r, st') → W p l e rmX8_bearsAt s m args below meth c H locs 0 0 Q (F0 m 25 ls []) := by
    intro st v1 H locs ls hP hD hS hl heq
    unfold X8_bearsAt_p25 at heq
    refine lv_aload_n hx hb dX8_bearsAt_25 rfl (lv_at hl 0 rfl) ?_
    refine tg (k := 1) (v := .ref (a 2)) hx hb hts hin hown hK hP (by decide) f17 rfl dX8_bearsAt_26 rfl ?_
    refine lv_iload_n hx hb dX8_bearsAt_29 rfl (lv_at hl 1 rfl) ?_
    obtain ⟨n_1, heq⟩ := inr_h heq
    refine tal (k := 1) (q := 2) (n := 12) hx hb hK hP rfl n_1 dX8_bearsAt_30 ?_
    exact b31 st (gA st 1 v1.toNatClampNeg) H locs ls hP hD hS (lv_sub hl [] rfl) heq
  obtain ⟨H, hH⟩ : ∃ H, H = s.heap := ⟨_, rfl⟩
  obtain ⟨locs, hlocs⟩ : ∃ z : List Loc, z = [] := ⟨_, rfl⟩
  have hS : va_S A s.heap H locs := by rw [hH, hlocs]; exact hS
  have hP : va_P D vwCl (tW a T fo st) H := by rw [hH]; exact hP
  suffices h9 : W p l e rmX8_bearsAt s m args below meth c H locs 0 0 Q (F0 m 0 ls []) by rw [hH, hlocs] at h9; exact h9
  clear hH hlocs
  unfold X8_bearsAt at heq
  refine lv_aload_n hx hb dX8_bearsAt_0 rfl (lv_at hl 0 rfl) ?_
  refine tg (k := 2) (v := .ref (a 3)) hx hb hts hin hown hK hP (by decide) f21 rfl dX8_bearsAt_1 rfl ?_
  refine lv_iload_n hx hb dX8_bearsAt_4 rfl (lv_at hl 1 rfl) ?_
  obtain ⟨n_2, heq⟩ := inr_h heq
  refine tal (k := 2) (q := 3) (n := 12) hx hb hK hP rfl n_2 dX8_bearsAt_5 ?_
  refine lv_bipush (v := (-4 : Int32)) hx hb dX8_bearsAt_6 (by decide) ?_
  refine lv_icmp_eq (tgt := 25) hx hb dX8_bearsAt_8 (by decide) (fun c_3 => ?_) (fun c_3 => ?_)
  · have heq := it_t c_3 heq
    exact b25 st v1 H locs ls hP hD hS (lv_sub hl [0, 1] rfl) heq
  have heq := it_f c_3 heq
  refine lv_iload_n hx hb dX8_bearsAt_11 rfl (lv_at hl 2 rfl) ?_
  refine lv_aload_n hx hb dX8_bearsAt_12 rfl (lv_at hl 0 rfl) ?_
  refine tg (k := 2) (v := .ref (a 3)) hx hb hts hin hown hK hP (by decide) f21 rfl dX8_bearsAt_13 rfl ?_
  refine lv_iload_n hx hb dX8_bearsAt_16 rfl (lv_at hl 1 rfl) ?_
  obtain ⟨n_4, heq⟩ := inr_h heq
  refine tal (k := 2) (q := 3) (n := 12) hx hb hK hP rfl n_4 dX8_bearsAt_17 ?_
  refine lv_icmp_lt (tgt := 25) hx hb dX8_bearsAt_18 (by decide) (fun c_5 => ?_) (fun c_5 => ?_)
  · have heq := it_t c_5 heq
    exact b25 st v1 H locs ls hP hD hS (lv_sub hl [0, 1] rfl) heq
  have heq := it_f c_5 heq
  refine lv_iconst (v := (0 : Int32)) hx hb dX8_bearsAt_21 (by decide) ?_
  refine lv_goto (tgt := 31) hx hb dX8_bearsAt_22 (by decide) ?_
  exact b31 st (0 : Int32) H locs ls hP hD hS (lv_sub hl [] rfl) heq
set_option maxRecDepth 20000 in
theorem ggX8_holdOn_X8_alike : GoodIn wsX8_holdOn wsX8_alike := goodIn_r _ [4] (by decide +kernel) (by decide +kernel)
set_option maxRecDepth 20000 in
theorem gX8_holdOn_X8_alike : GoodIn wsX8_holdOn (va_wsS RX8 81 yX8_alike wsX8_alike) := goodIn_app (goodIn_of _ (by decide +kernel)) ggX8_holdOn_X8_alike
set_option maxRecDepth 20000 in
theorem ggX8_holdOn_X8_bearsAt : GoodIn wsX8_holdOn wsX8_bearsAt := goodIn_r _ [8, 9, 10, 11, 12, 13, 14, 15, 16, 17, 18, 19, 20] (by decide +kernel) (by decide +kernel)
set_option maxRecDepth 20000 in
theorem gX8_holdOn_X8_bearsAt : GoodIn wsX8_holdOn (wsV RX8 85 RX8 yX8_bearsAt wsX8_bearsAt) := goodIn_app (goodIn_of _ (by decide +kernel)) ggX8_holdOn_X8_bearsAt
theorem dX8_holdOn_0 : decode cX8_holdOn 0 = .ok (.iconst 0, 1) := by decide +kernel
theorem dX8_holdOn_1 : decode cX8_holdOn 1 = .ok (.istore_n 3, 1) := by decide +kernel
theorem dX8_holdOn_2 : decode cX8_holdOn 2 = .ok (.iconst 0, 1) := by decide +kernel
theorem dX8_holdOn_3 : decode cX8_holdOn 3 = .ok (.istore 4, 2) := by decide +kernel
theorem dX8_holdOn_5 : decode cX8_holdOn 5 = .ok (.iload 4, 2) := by decide +kernel
theorem dX8_holdOn_7 : decode cX8_holdOn 7 = .ok (.bipush 12, 2) := by decide +kernel
theorem dX8_holdOn_9 : decode cX8_holdOn 9 = .ok (.if_icmp .ge 35, 3) := by decide +kernel
theorem dX8_holdOn_12 : decode cX8_holdOn 12 = .ok (.iload_n 1, 1) := by decide +kernel
theorem dX8_holdOn_13 : decode cX8_holdOn 13 = .ok (.iload 4, 2) := by decide +kernel
theorem dX8_holdOn_15 : decode cX8_holdOn 15 = .ok (.invokestatic 81, 3) := by decide +kernel
theorem dX8_holdOn_18 : decode cX8_holdOn 18 = .ok (.istore 5, 2) := by decide +kernel
theorem dX8_holdOn_20 : decode cX8_holdOn 20 = .ok (.iload 5, 2) := by decide +kernel
theorem dX8_holdOn_22 : decode cX8_holdOn 22 = .ok (.ifCond .le 16, 3) := by decide +kernel
theorem dX8_holdOn_25 : decode cX8_holdOn 25 = .ok (.iload_n 3, 1) := by decide +kernel
theorem dX8_holdOn_26 : decode cX8_holdOn 26 = .ok (.aload_n 0, 1) := by decide +kernel
theorem dX8_holdOn_27 : decode cX8_holdOn 27 = .ok (.iload 4, 2) := by decide +kernel
theorem dX8_holdOn_29 : decode cX8_holdOn 29 = .ok (.iload_n 2, 1) := by decide +kernel
theorem dX8_holdOn_30 : decode cX8_holdOn 30 = .ok (.invokevirtual 85, 3) := by decide +kernel
theorem dX8_holdOn_33 : decode cX8_holdOn 33 = .ok (.iload 5, 2) := by decide +kernel
theorem dX8_holdOn_35 : decode cX8_holdOn 35 = .ok (.imul, 1) := by decide +kernel
theorem dX8_holdOn_36 : decode cX8_holdOn 36 = .ok (.iadd, 1) := by decide +kernel
theorem dX8_holdOn_37 : decode cX8_holdOn 37 = .ok (.istore_n 3, 1) := by decide +kernel
theorem dX8_holdOn_38 : decode cX8_holdOn 38 = .ok (.iinc 4 1, 3) := by decide +kernel
theorem dX8_holdOn_41 : decode cX8_holdOn 41 = .ok (.goto (-36), 3) := by decide +kernel
theorem dX8_holdOn_44 : decode cX8_holdOn 44 = .ok (.iload_n 3, 1) := by decide +kernel
theorem dX8_holdOn_45 : decode cX8_holdOn 45 = .ok (.bipush 10, 2) := by decide +kernel
theorem dX8_holdOn_47 : decode cX8_holdOn 47 = .ok (.idiv, 1) := by decide +kernel
theorem dX8_holdOn_48 : decode cX8_holdOn 48 = .ok (.ireturn, 1) := by decide +kernel
/-! X8 holdOn -/
def X8_holdOn_p38 (k5 : MS → Int32 → Int32 → Int32 → Int32 → Option (Int32 × MS)) (st : MS) (v1 : Int32) (v2 : Int32) (v3 : Int32) (v4 : Int32) : Option (Int32 × MS) :=
    nm (v4 + (1 : Int32)) fun x_1 =>
    k5 st v1 v2 v3 x_1
def X8_holdOn_p44 (st : MS) (v3 : Int32) : Option (Int32 × MS) :=
    dvi (10 : Int32) <|
    some ((v3 / (10 : Int32)), st)
def X8_holdOn_p5 : Nat → MS → Int32 → Int32 → Int32 → Int32 → Option (Int32 × MS)
  | 0, _, _, _, _, _ => none
  | n + 1, st, v1, v2, v3, v4 =>
    if (12 : Int32) ≤ v4 then
      (X8_holdOn_p44 st v3)
    else
    bd1 (X8_alike v1 v4) fun y_4 =>
    if y_4 ≤ 0 then
      (X8_holdOn_p38 (fun st v1 v2 v3 v4 => X8_holdOn_p5  n st v1 v2 v3 v4) st v1 v2 v3 v4)
    else
    bnd (X8_bearsAt st v4 v2) fun y_8 st_7 =>
    nm ((v3 + (y_8 * y_4))) fun x_10 =>
    X8_holdOn_p38 (fun st v1 v2 v3 v4 => X8_holdOn_p5  n st v1 v2 v3 v4) st_7 v1 v2 x_10 v4
theorem X8_holdOn_p5_s (n : Nat) (st : MS) (v1 : Int32) (v2 : Int32) (v3 : Int32) (v4 : Int32) : X8_holdOn_p5  (n + 1) st v1 v2 v3 v4 =
    (if (12 : Int32) ≤ v4 then
      (X8_holdOn_p44 st v3)
    else
    bd1 (X8_alike v1 v4) fun y_4 =>
    if y_4 ≤ 0 then
      (X8_holdOn_p38 (fun st v1 v2 v3 v4 => X8_holdOn_p5  n st v1 v2 v3 v4) st v1 v2 v3 v4)
    else
    bnd (X8_bearsAt st v4 v2) fun y_8 st_7 =>
    nm ((v3 + (y_8 * y_4))) fun x_10 =>
    X8_holdOn_p38 (fun st v1 v2 v3 v4 => X8_holdOn_p5  n st v1 v2 v3 v4) st_7 v1 v2 x_10 v4) := rfl
def X8_holdOn (st : MS) (v1 : Int32) (v2 : Int32) : Option (Int32 × MS) :=
    X8_holdOn_p5 13 st v1 v2 (0 : Int32) (0 : Int32)
abbrev rmX8_holdOn : Room := { frames := 1, cells := 0, slots := 0, locals := 22 }
theorem hdX8_holdOn : yX8_holdOn.cls = RX8 ∧ yX8_holdOn.cls ≠ "java/lang/invoke/MethodHandle" ∧ yX8_holdOn.cls ≠ "java/lang/invoke/VarHandle" ∧ (parseMethodDescriptor yX8_holdOn.desc).map (fun d => d.parameters.length) = some 2 := by decide +kernel
set_option maxRecDepth 100000 in
set_option maxHeartbeats 4000000 in
theorem okX8_holdOn (z : Nat → Nat) (l : Launch) (D : va_G) (a : Nat → Nat) (T : mT3) (fo : Nat → Option Nat) {st : MS} {v1 : Int32} {v2 : Int32} {r : Int32} {st' : MS} (heq : X8_holdOn st v1 v2 = some (r, st')) : hCi z l D (cT T) yX8_holdOn wsX8_holdOn rmX8_holdOn [.ref (a 0), .int v1, .int v2] (tW a T fo st) r (tW a T fo st') := by
  refine h_body_i (plainFor_of_name (by decide)) rfl (Nat.le_of_ble_eq_true rfl) (fun p e s m args below meth c A Q hx hb hml hown hts hK hA hX hret ls hP hD hS hl => ?_)
  have hl : lv_has ls 6 [(0, .ref (a 0)), (1, .int v1), (2, .int v2)] := hl
  have b38 : ∀ (k5 : MS → Int32 → Int32 → Int32 → Int32 → Option (Int32 × MS)) (hk5 : ∀ (st : MS) (v1 : Int32) (v2 : Int32) (v3 : Int32) (v4 : Int32) (H : Heap) (locs : List Loc) (ls : Array Slot), va_P D vwCl (tW a T fo st) H → va_D A (tW a T fo st) → va_S A s.heap H locs → lv_has ls 6 [(0, .ref (a 0)), (1, .int v1), (2, .int v2), (3, .int v3), (4, .int v4)] → k5 st v1 v2 v3 v4 = some (r, st') → W p l e rmX8_holdOn s m args below meth c H locs 0 0 Q (F0 m 5 ls [])), ∀ (st : MS) (v1 : Int32) (v2 : Int32) (v3 : Int32) (v4 : Int32) (H : Heap) (locs : List Loc) (ls : Array Slot), va_P D vwCl (tW a T fo st) H → va_D A (tW a T fo st) → va_S A s.heap H locs → lv_has ls 6 [(0, .ref (a 0)), (1, .int v1), (2, .int v2), (3, .int v3), (4, .int v4)] → X8_holdOn_p38 k5 st v1 v2 v3 v4 = some (r, st') → W p l e rmX8_holdOn s m args below meth c H locs 0 0 Q (F0 m 38 ls []) := by
    intro k5 hk5 st v1 v2 v3 v4 H locs ls hP hD hS hl heq
    unfold X8_holdOn_p38 at heq
    obtain ⟨x_1, ex_1⟩ : ∃ y : Int32, y = v4 + (1 : Int32) := ⟨_, rfl⟩
    have heq := nm_h ex_1 heq
    refine lv_iinc (v := x_1) (lv' := [(4, .int x_1), (0, .ref (a 0)), (1, .int v1), (2, .int v2), (3, .int v3)]) hx hb dX8_holdOn_38 hl (k := 4) rfl (by rw [ex_1]; rfl) (by decide) rfl (fun ls hl => ?_)
    refine lv_goto (tgt := 5) hx hb dX8_holdOn_41 (by decide) ?_
    exact hk5 st v1 v2 v3 x_1 H locs ls hP hD hS (lv_sub hl [1, 2, 3, 4, 0] rfl) heq
  have b44 : ∀ (st : MS) (v3 : Int32) (H : Heap) (locs : List Loc) (ls : Array Slot), va_P D vwCl (tW a T fo st) H → va_D A (tW a T fo st) → va_S A s.heap H locs → lv_has ls 6 [(3, .int v3)] → X8_holdOn_p44  st v3 = some (r, st') → W p l e rmX8_holdOn s m args below meth c H locs 0 0 Q (F0 m 44 ls []) := by
    intro st v3 H locs ls hP hD hS hl heq
    unfold X8_holdOn_p44 at heq
    refine lv_iload_n hx hb dX8_holdOn_44 rfl (lv_at hl 0 rfl) ?_
    refine lv_bipush (v := (10 : Int32)) hx hb dX8_holdOn_45 (by decide) ?_
    obtain ⟨n_2, heq⟩ := dvi_h heq
    refine lv_idiv hx hb dX8_holdOn_47 n_2 ?_
    obtain ⟨heq, heq2⟩ := ret_h heq
    subst heq
    subst heq2
    exact hret 48 H locs ls hP hD hS rfl dX8_holdOn_48
  have b5 : ∀ (n : Nat), ∀ (st : MS) (v1 : Int32) (v2 : Int32) (v3 : Int32) (v4 : Int32) (H : Heap) (locs : List Loc) (ls : Array Slot), va_P D vwCl (tW a T fo st) H → va_D A (tW a T fo st) → va_S A s.heap H locs → lv_has ls 6 [(0, .ref (a 0)), (1, .int v1), (2, .int v2), (3, .int v3), (4, .int v4)] → X8_holdOn_p5  n st v1 v2 v3 v4 = some (r, st') → W p l e rmX8_holdOn s m args below meth c H locs 0 0 Q (F0 m 5 ls []) := by
    intro n
    induction n with
    | zero => intro st v1 v2 v3 v4 H locs ls hP hD hS hl heq; cases heq
    | succ n ih =>
      intro st v1 v2 v3 v4 H locs ls hP hD hS hl heq
      rw [X8_holdOn_p5_s] at heq
      refine lv_iload hx hb dX8_holdOn_5 (lv_at hl 4 rfl) ?_
      refine lv_bipush (v := (12 : Int32)) hx hb dX8_holdOn_7 (by decide) ?_
      refine lv_icmp_ge (tgt := 44) hx hb dX8_holdOn_9 (by decide) (fun c_3 => ?_) (fun c_3 => ?_)
      · have heq := it_t c_3 heq
        exact b44 st v3 H locs ls hP hD hS (lv_sub hl [3] rfl) heq
      have heq := it_f c_3 heq
      refine lv_iload_n hx hb dX8_holdOn_12 rfl (lv_at hl 1 rfl) ?_
      refine lv_iload hx hb dX8_holdOn_13 (lv_at hl 4 rfl) ?_
      obtain ⟨y_4, h_5, heq⟩ := bd1_h heq
      refine h_si (own := RX8) (As := [.int v1, .int v4]) (rest := []) (w0 := []) (w1 := []) (wr := (tW a T fo st)) hx hb hml hown hts (okX8_alike z l D h_5) (va_cwS 2 hts gX8_holdOn_X8_alike rfl rfl rfl (hdX8_alike).2 ⟨Nat.le_of_ble_eq_true rfl, Nat.le_of_ble_eq_true rfl⟩) (hK.sub [] rfl) hA hX hP hD hS (List.Perm.refl _) (List.Perm.refl _) rfl hl.1 rfl (Nat.le_of_ble_eq_true rfl) dX8_holdOn_15 ⟨Nat.le_of_ble_eq_true rfl, Nat.le_of_ble_eq_true rfl⟩ (fun H locs hP hD hS => ?_)
      refine lv_istore (lv' := [(5, .int y_4), (0, .ref (a 0)), (1, .int v1), (2, .int v2), (3, .int v3), (4, .int v4)]) hx hb dX8_holdOn_18 hl (by decide) rfl (fun ls hl => ?_)
      refine lv_iload hx hb dX8_holdOn_20 (lv_at hl 0 rfl) ?_
      refine lv_if_le (tgt := 38) hx hb dX8_holdOn_22 (by decide) (fun c_6 => ?_) (fun c_6 => ?_)
      · have heq := it_t c_6 heq
        exact b38 (fun st v1 v2 v3 v4 => X8_holdOn_p5  n st v1 v2 v3 v4) ih st v1 v2 v3 v4 H locs ls hP hD hS (lv_sub hl [1, 2, 3, 4, 5] rfl) heq
      have heq := it_f c_6 heq
      refine lv_iload_n hx hb dX8_holdOn_25 rfl (lv_at hl 4 rfl) ?_
      refine lv_aload_n hx hb dX8_holdOn_26 rfl (lv_at hl 1 rfl) ?_
      refine lv_iload hx hb dX8_holdOn_27 (lv_at hl 5 rfl) ?_
      refine lv_iload_n hx hb dX8_holdOn_29 rfl (lv_at hl 3 rfl) ?_
      obtain ⟨y_8, st_7, h_9, heq⟩ := bnd_h heq
      refine h_vi (own := RX8) (As := [.int v4, .int v2]) (rest := [.int v3]) (wr := []) hx hb hml hown hts (okX8_bearsAt z l D a T fo h_9) (cwV 2 hts gX8_holdOn_X8_bearsAt rfl rfl rfl hdX8_bearsAt ⟨Nat.le_of_ble_eq_true rfl, Nat.le_of_ble_eq_true rfl⟩) hK hA hX hP hD hS (perm_nil _) (perm_nil2 _) (ci := 8) (q0 := 0) rfl rfl rfl hl.1 rfl (Nat.le_of_ble_eq_true rfl) dX8_holdOn_30 ⟨Nat.le_of_ble_eq_true rfl, Nat.le_of_ble_eq_true rfl⟩ (fun H locs hP hD hS => ?_)
      refine lv_iload hx hb dX8_holdOn_33 (lv_at hl 0 rfl) ?_
      refine lv_imul hx hb dX8_holdOn_35 ?_
      refine lv_iadd hx hb dX8_holdOn_36 ?_
      refine lv_topi (fun x_10 ex_10 => ?_)
      have heq := nm_h ex_10 heq
      refine lv_istore_n (lv' := [(3, .int x_10), (5, .int y_4), (0, .ref (a 0)), (1, .int v1), (2, .int v2), (4, .int v4)]) hx hb dX8_holdOn_37 rfl hl (by decide) rfl (fun ls hl => ?_)
      exact b38 (fun st v1 v2 v3 v4 => X8_holdOn_p5  n st v1 v2 v3 v4) ih st_7 v1 v2 x_10 v4 H locs ls hP hD hS (lv_sub hl [2, 3, 4, 0, 5] rfl) heq
  obtain ⟨H, hH⟩ : ∃ H, H = s.heap := ⟨_, rfl⟩
  obtain ⟨locs, hlocs⟩ : ∃ z : List Loc, z = [] := ⟨_, rfl⟩
  have hS : va_S A s.heap H locs := by rw [hH, hlocs]; exact hS
  have hP : va_P D vwCl (tW a T fo st) H := by rw [hH]; exact hP
  suffices h9 : W p l e rmX8_holdOn s m args below meth c H locs 0 0 Q (F0 m 0 ls []) by rw [hH, hlocs] at h9; exact h9
  clear hH hlocs
  unfold X8_holdOn at heq
  refine lv_iconst (v := (0 : Int32)) hx hb dX8_holdOn_0 (by decide) ?_
  refine lv_istore_n (lv' := [(3, .int (0 : Int32)), (0, .ref (a 0)), (1, .int v1), (2, .int v2)]) hx hb dX8_holdOn_1 rfl hl (by decide) rfl (fun ls hl => ?_)
  refine lv_iconst (v := (0 : Int32)) hx hb dX8_holdOn_2 (by decide) ?_
  refine lv_istore (lv' := [(4, .int (0 : Int32)), (3, .int (0 : Int32)), (0, .ref (a 0)), (1, .int v1), (2, .int v2)]) hx hb dX8_holdOn_3 hl (by decide) rfl (fun ls hl => ?_)
  exact b5 13 st v1 v2 (0 : Int32) (0 : Int32) H locs ls hP hD hS (lv_sub hl [2, 3, 4, 1, 0] rfl) heq
set_option maxRecDepth 20000 in
theorem ggX8_pressOn_X8_alike : GoodIn wsX8_pressOn wsX8_alike := goodIn_r _ [5] (by decide +kernel) (by decide +kernel)
set_option maxRecDepth 20000 in
theorem gX8_pressOn_X8_alike : GoodIn wsX8_pressOn (va_wsS RX8 81 yX8_alike wsX8_alike) := goodIn_app (goodIn_of _ (by decide +kernel)) ggX8_pressOn_X8_alike
theorem dX8_pressOn_0 : decode cX8_pressOn 0 = .ok (.iload_n 1, 1) := by decide +kernel
theorem dX8_pressOn_1 : decode cX8_pressOn 1 = .ok (.aload_n 0, 1) := by decide +kernel
theorem dX8_pressOn_2 : decode cX8_pressOn 2 = .ok (.getfield 24, 3) := by decide +kernel
theorem dX8_pressOn_5 : decode cX8_pressOn 5 = .ok (.iconst 0, 1) := by decide +kernel
theorem dX8_pressOn_6 : decode cX8_pressOn 6 = .ok (.iaload, 1) := by decide +kernel
theorem dX8_pressOn_7 : decode cX8_pressOn 7 = .ok (.invokestatic 81, 3) := by decide +kernel
theorem dX8_pressOn_10 : decode cX8_pressOn 10 = .ok (.aload_n 0, 1) := by decide +kernel
theorem dX8_pressOn_11 : decode cX8_pressOn 11 = .ok (.getfield 24, 3) := by decide +kernel
theorem dX8_pressOn_14 : decode cX8_pressOn 14 = .ok (.iconst 1, 1) := by decide +kernel
theorem dX8_pressOn_15 : decode cX8_pressOn 15 = .ok (.iaload, 1) := by decide +kernel
theorem dX8_pressOn_16 : decode cX8_pressOn 16 = .ok (.imul, 1) := by decide +kernel
theorem dX8_pressOn_17 : decode cX8_pressOn 17 = .ok (.iload_n 1, 1) := by decide +kernel
theorem dX8_pressOn_18 : decode cX8_pressOn 18 = .ok (.aload_n 0, 1) := by decide +kernel
theorem dX8_pressOn_19 : decode cX8_pressOn 19 = .ok (.getfield 24, 3) := by decide +kernel
theorem dX8_pressOn_22 : decode cX8_pressOn 22 = .ok (.iconst 2, 1) := by decide +kernel
theorem dX8_pressOn_23 : decode cX8_pressOn 23 = .ok (.iaload, 1) := by decide +kernel
theorem dX8_pressOn_24 : decode cX8_pressOn 24 = .ok (.invokestatic 81, 3) := by decide +kernel
theorem dX8_pressOn_27 : decode cX8_pressOn 27 = .ok (.aload_n 0, 1) := by decide +kernel
theorem dX8_pressOn_28 : decode cX8_pressOn 28 = .ok (.getfield 24, 3) := by decide +kernel
theorem dX8_pressOn_31 : decode cX8_pressOn 31 = .ok (.iconst 3, 1) := by decide +kernel
theorem dX8_pressOn_32 : decode cX8_pressOn 32 = .ok (.iaload, 1) := by decide +kernel
theorem dX8_pressOn_33 : decode cX8_pressOn 33 = .ok (.imul, 1) := by decide +kernel
theorem dX8_pressOn_34 : decode cX8_pressOn 34 = .ok (.iadd, 1) := by decide +kernel
theorem dX8_pressOn_35 : decode cX8_pressOn 35 = .ok (.istore_n 2, 1) := by decide +kernel
theorem dX8_pressOn_36 : decode cX8_pressOn 36 = .ok (.aload_n 0, 1) := by decide +kernel
theorem dX8_pressOn_37 : decode cX8_pressOn 37 = .ok (.getfield 24, 3) := by decide +kernel
theorem dX8_pressOn_40 : decode cX8_pressOn 40 = .ok (.iconst 4, 1) := by decide +kernel
theorem dX8_pressOn_41 : decode cX8_pressOn 41 = .ok (.iaload, 1) := by decide +kernel
theorem dX8_pressOn_42 : decode cX8_pressOn 42 = .ok (.iload_n 2, 1) := by decide +kernel
theorem dX8_pressOn_43 : decode cX8_pressOn 43 = .ok (.bipush 10, 2) := by decide +kernel
theorem dX8_pressOn_45 : decode cX8_pressOn 45 = .ok (.idiv, 1) := by decide +kernel
theorem dX8_pressOn_46 : decode cX8_pressOn 46 = .ok (.iadd, 1) := by decide +kernel
theorem dX8_pressOn_47 : decode cX8_pressOn 47 = .ok (.ireturn, 1) := by decide +kernel
/-! X8 pressOn -/
def X8_pressOn (st : MS) (v1 : Int32) : Option (Int32 × MS) :=
    inr (0 : Int32) 7 <|
    bd1 (X8_alike v1 (gA st 3 (0 : Int32).toNatClampNeg)) fun y_2 =>
    inr (1 : Int32) 7 <|
    inr (2 : Int32) 7 <|
    bd1 (X8_alike v1 (gA st 3 (2 : Int32).toNatClampNeg)) fun y_6 =>
    inr (3 : Int32) 7 <|
    nm (((y_2 * (gA st 3 (1 : Int32).toNatClampNeg)) + (y_6 * (gA st 3 (3 : Int32).toNatClampNeg)))) fun x_9 =>
    inr (4 : Int32) 7 <|
    dvi (10 : Int32) <|
    some (((gA st 3 (4 : Int32).toNatClampNeg) + (x_9 / (10 : Int32))), st)
abbrev rmX8_pressOn : Room := { frames := 1, cells := 0, slots := 0, locals := 21 }
theorem hdX8_pressOn : yX8_pressOn.cls = RX8 ∧ yX8_pressOn.cls ≠ "java/lang/invoke/MethodHandle" ∧ yX8_pressOn.cls ≠ "java/lang/invoke/VarHandle" ∧ (parseMethodDescriptor yX8_pressOn.desc).map (fun d => d.parameters.length) = some 1 := by decide +kernel
set_option maxRecDepth 100000 in
set_option maxHeartbeats 4000000 in
theorem okX8_pressOn (z : Nat → Nat) (l : Launch) (D : va_G) (a : Nat → Nat) (T : mT3) (fo : Nat → Option Nat) {st : MS} {v1 : Int32} {r : Int32} {st' : MS} (heq : X8_pressOn st v1 = some (r, st')) : hCi z l D (cT T) yX8_pressOn wsX8_pressOn rmX8_pressOn [.ref (a 0), .int v1] (tW a T fo st) r (tW a T fo st') := by
  refine h_body_i (plainFor_of_name (by decide)) rfl (Nat.le_of_ble_eq_true rfl) (fun p e s m args below meth c A Q hx hb hml hown hts hK hA hX hret ls hP hD hS hl => ?_)
  have hl : lv_has ls 3 [(0, .ref (a 0)), (1, .int v1)] := hl
  have hin : ∀ w ∈ wsX80, w ∈ wsX8_pressOn := fun w h => List.mem_cons_of_mem _ (List.mem_append_right _ h)
  have f24 : (Cond.fieldLink RX8 24 RX8 (TX8 3).2.1 (TX8 3).2.2.1).before args s = true := hts (.fieldLink RX8 24 RX8 "told" "[I") (by decide +kernel)
  obtain ⟨H, hH⟩ : ∃ H, H = s.heap := ⟨_, rfl⟩
  obtain ⟨locs, hlocs⟩ : ∃ z : List Loc, z = [] := ⟨_, rfl⟩
  have hS : va_S A s.heap H locs := by rw [hH, hlocs]; exact hS
  have hP : va_P D vwCl (tW a T fo st) H := by rw [hH]; exact hP
  suffices h9 : W p l e rmX8_pressOn s m args below meth c H locs 0 0 Q (F0 m 0 ls []) by rw [hH, hlocs] at h9; exact h9
  clear hH hlocs
  unfold X8_pressOn at heq
  refine lv_iload_n hx hb dX8_pressOn_0 rfl (lv_at hl 1 rfl) ?_
  refine lv_aload_n hx hb dX8_pressOn_1 rfl (lv_at hl 0 rfl) ?_
  refine tg (k := 3) (v := .ref (a 4)) hx hb hts hin hown hK hP (by decide) f24 rfl dX8_pressOn_2 rfl ?_
  refine lv_iconst (v := (0 : Int32)) hx hb dX8_pressOn_5 (by decide) ?_
  obtain ⟨n_1, heq⟩ := inr_h heq
  refine tal (k := 3) (q := 4) (n := 7) hx hb hK hP rfl n_1 dX8_pressOn_6 ?_
  obtain ⟨y_2, h_3, heq⟩ := bd1_h heq
  refine h_si (own := RX8) (As := [.int v1, .int (gA st 3 (0 : Int32).toNatClampNeg)]) (rest := []) (w0 := []) (w1 := []) (wr := (tW a T fo st)) hx hb hml hown hts (okX8_alike z l D h_3) (va_cwS 2 hts gX8_pressOn_X8_alike rfl rfl rfl (hdX8_alike).2 ⟨Nat.le_of_ble_eq_true rfl, Nat.le_of_ble_eq_true rfl⟩) (hK.sub [] rfl) hA hX hP hD hS (List.Perm.refl _) (List.Perm.refl _) rfl hl.1 rfl (Nat.le_of_ble_eq_true rfl) dX8_pressOn_7 ⟨Nat.le_of_ble_eq_true rfl, Nat.le_of_ble_eq_true rfl⟩ (fun H locs hP hD hS => ?_)
  refine lv_aload_n hx hb dX8_pressOn_10 rfl (lv_at hl 0 rfl) ?_
  refine tg (k := 3) (v := .ref (a 4)) hx hb hts hin hown hK hP (by decide) f24 rfl dX8_pressOn_11 rfl ?_
  refine lv_iconst (v := (1 : Int32)) hx hb dX8_pressOn_14 (by decide) ?_
  obtain ⟨n_4, heq⟩ := inr_h heq
  refine tal (k := 3) (q := 4) (n := 7) hx hb hK hP rfl n_4 dX8_pressOn_15 ?_
  refine lv_imul hx hb dX8_pressOn_16 ?_
  refine lv_iload_n hx hb dX8_pressOn_17 rfl (lv_at hl 1 rfl) ?_
  refine lv_aload_n hx hb dX8_pressOn_18 rfl (lv_at hl 0 rfl) ?_
  refine tg (k := 3) (v := .ref (a 4)) hx hb hts hin hown hK hP (by decide) f24 rfl dX8_pressOn_19 rfl ?_
  refine lv_iconst (v := (2 : Int32)) hx hb dX8_pressOn_22 (by decide) ?_
  obtain ⟨n_5, heq⟩ := inr_h heq
  refine tal (k := 3) (q := 4) (n := 7) hx hb hK hP rfl n_5 dX8_pressOn_23 ?_
  obtain ⟨y_6, h_7, heq⟩ := bd1_h heq
  refine h_si (own := RX8) (As := [.int v1, .int (gA st 3 (2 : Int32).toNatClampNeg)]) (rest := [.int (y_2 * (gA st 3 (1 : Int32).toNatClampNeg))]) (w0 := []) (w1 := []) (wr := (tW a T fo st)) hx hb hml hown hts (okX8_alike z l D h_7) (va_cwS 2 hts gX8_pressOn_X8_alike rfl rfl rfl (hdX8_alike).2 ⟨Nat.le_of_ble_eq_true rfl, Nat.le_of_ble_eq_true rfl⟩) (hK.sub [] rfl) hA hX hP hD hS (List.Perm.refl _) (List.Perm.refl _) rfl hl.1 rfl (Nat.le_of_ble_eq_true rfl) dX8_pressOn_24 ⟨Nat.le_of_ble_eq_true rfl, Nat.le_of_ble_eq_true rfl⟩ (fun H locs hP hD hS => ?_)
  refine lv_aload_n hx hb dX8_pressOn_27 rfl (lv_at hl 0 rfl) ?_
  refine tg (k := 3) (v := .ref (a 4)) hx hb hts hin hown hK hP (by decide) f24 rfl dX8_pressOn_28 rfl ?_
  refine lv_iconst (v := (3 : Int32)) hx hb dX8_pressOn_31 (by decide) ?_
  obtain ⟨n_8, heq⟩ := inr_h heq
  refine tal (k := 3) (q := 4) (n := 7) hx hb hK hP rfl n_8 dX8_pressOn_32 ?_
  refine lv_imul hx hb dX8_pressOn_33 ?_
  refine lv_iadd hx hb dX8_pressOn_34 ?_
  refine lv_topi (fun x_9 ex_9 => ?_)
  have heq := nm_h ex_9 heq
  refine lv_istore_n (lv' := [(2, .int x_9), (0, .ref (a 0)), (1, .int v1)]) hx hb dX8_pressOn_35 rfl hl (by decide) rfl (fun ls hl => ?_)
  refine lv_aload_n hx hb dX8_pressOn_36 rfl (lv_at hl 1 rfl) ?_
  refine tg (k := 3) (v := .ref (a 4)) hx hb hts hin hown hK hP (by decide) f24 rfl dX8_pressOn_37 rfl ?_
  refine lv_iconst (v := (4 : Int32)) hx hb dX8_pressOn_40 (by decide) ?_
  obtain ⟨n_10, heq⟩ := inr_h heq
  refine tal (k := 3) (q := 4) (n := 7) hx hb hK hP rfl n_10 dX8_pressOn_41 ?_
  refine lv_iload_n hx hb dX8_pressOn_42 rfl (lv_at hl 0 rfl) ?_
  refine lv_bipush (v := (10 : Int32)) hx hb dX8_pressOn_43 (by decide) ?_
  obtain ⟨n_11, heq⟩ := dvi_h heq
  refine lv_idiv hx hb dX8_pressOn_45 n_11 ?_
  refine lv_iadd hx hb dX8_pressOn_46 ?_
  obtain ⟨heq, heq2⟩ := ret_h heq
  subst heq
  subst heq2
  exact hret 47 H locs ls hP hD hS rfl dX8_pressOn_47
set_option maxRecDepth 20000 in
theorem ggX8_lackOn_X8_pressOn : GoodIn wsX8_lackOn wsX8_pressOn := goodIn_r _ [5, 6, 7, 8, 4, 9, 20, 21, 22, 23, 24, 25, 26, 27, 28, 29] (by decide +kernel) (by decide +kernel)
set_option maxRecDepth 20000 in
theorem gX8_lackOn_X8_pressOn : GoodIn wsX8_lackOn (wsV RX8 88 RX8 yX8_pressOn wsX8_pressOn) := goodIn_app (goodIn_of _ (by decide +kernel)) ggX8_lackOn_X8_pressOn
set_option maxRecDepth 20000 in
theorem ggX8_lackOn_X8_holdOn : GoodIn wsX8_lackOn wsX8_holdOn := goodIn_r _ [13, 7, 8, 4, 9, 14, 15, 16, 17, 18, 19, 20, 21, 22, 23, 24, 25, 26, 27, 28, 29] (by decide +kernel) (by decide +kernel)
set_option maxRecDepth 20000 in
theorem gX8_lackOn_X8_holdOn : GoodIn wsX8_lackOn (wsV RX8 91 RX8 yX8_holdOn wsX8_holdOn) := goodIn_app (goodIn_of _ (by decide +kernel)) ggX8_lackOn_X8_holdOn
theorem dX8_lackOn_0 : decode cX8_lackOn 0 = .ok (.aload_n 0, 1) := by decide +kernel
theorem dX8_lackOn_1 : decode cX8_lackOn 1 = .ok (.iload_n 1, 1) := by decide +kernel
theorem dX8_lackOn_2 : decode cX8_lackOn 2 = .ok (.invokevirtual 88, 3) := by decide +kernel
theorem dX8_lackOn_5 : decode cX8_lackOn 5 = .ok (.aload_n 0, 1) := by decide +kernel
theorem dX8_lackOn_6 : decode cX8_lackOn 6 = .ok (.iload_n 1, 1) := by decide +kernel
theorem dX8_lackOn_7 : decode cX8_lackOn 7 = .ok (.iload_n 2, 1) := by decide +kernel
theorem dX8_lackOn_8 : decode cX8_lackOn 8 = .ok (.invokevirtual 91, 3) := by decide +kernel
theorem dX8_lackOn_11 : decode cX8_lackOn 11 = .ok (.isub, 1) := by decide +kernel
theorem dX8_lackOn_12 : decode cX8_lackOn 12 = .ok (.ireturn, 1) := by decide +kernel
/-! X8 lackOn -/
def X8_lackOn (st : MS) (v1 : Int32) (v2 : Int32) : Option (Int32 × MS) :=
    bnd (X8_pressOn st v1) fun y_2 st_1 =>
    bnd (X8_holdOn st_1 v1 v2) fun y_5 st_4 =>
    some ((y_2 - y_5), st_4)
abbrev rmX8_lackOn : Room := { frames := 2, cells := 0, slots := 0, locals := 47 }
theorem hdX8_lackOn : yX8_lackOn.cls = RX8 ∧ yX8_lackOn.cls ≠ "java/lang/invoke/MethodHandle" ∧ yX8_lackOn.cls ≠ "java/lang/invoke/VarHandle" ∧ (parseMethodDescriptor yX8_lackOn.desc).map (fun d => d.parameters.length) = some 2 := by decide +kernel
set_option maxRecDepth 100000 in
set_option maxHeartbeats 4000000 in
theorem okX8_lackOn (z : Nat → Nat) (l : Launch) (D : va_G) (a : Nat → Nat) (T : mT3) (fo : Nat → Option Nat) {st : MS} {v1 : Int32} {v2 : Int32} {r : Int32} {st' : MS} (heq : X8_lackOn st v1 v2 = some (r, st')) : hCi z l D (cT T) yX8_lackOn wsX8_lackOn rmX8_lackOn [.ref (a 0), .int v1, .int v2] (tW a T fo st) r (tW a T fo st') := by
  refine h_body_i (plainFor_of_name (by decide)) rfl (Nat.le_of_ble_eq_true rfl) (fun p e s m args below meth c A Q hx hb hml hown hts hK hA hX hret ls hP hD hS hl => ?_)
  have hl : lv_has ls 3 [(0, .ref (a 0)), (1, .int v1), (2, .int v2)] := hl
  obtain ⟨H, hH⟩ : ∃ H, H = s.heap := ⟨_, rfl⟩
  obtain ⟨locs, hlocs⟩ : ∃ z : List Loc, z = [] := ⟨_, rfl⟩
  have hS : va_S A s.heap H locs := by rw [hH, hlocs]; exact hS
  have hP : va_P D vwCl (tW a T fo st) H := by rw [hH]; exact hP
  suffices h9 : W p l e rmX8_lackOn s m args below meth c H locs 0 0 Q (F0 m 0 ls []) by rw [hH, hlocs] at h9; exact h9
  clear hH hlocs
  unfold X8_lackOn at heq
  refine lv_aload_n hx hb dX8_lackOn_0 rfl (lv_at hl 0 rfl) ?_
  refine lv_iload_n hx hb dX8_lackOn_1 rfl (lv_at hl 1 rfl) ?_
  obtain ⟨y_2, st_1, h_3, heq⟩ := bnd_h heq
  refine h_vi (own := RX8) (As := [.int v1]) (rest := []) (wr := []) hx hb hml hown hts (okX8_pressOn z l D a T fo h_3) (cwV 1 hts gX8_lackOn_X8_pressOn rfl rfl rfl hdX8_pressOn ⟨Nat.le_of_ble_eq_true rfl, Nat.le_of_ble_eq_true rfl⟩) hK hA hX hP hD hS (perm_nil _) (perm_nil2 _) (ci := 8) (q0 := 0) rfl rfl rfl hl.1 rfl (Nat.le_of_ble_eq_true rfl) dX8_lackOn_2 ⟨Nat.le_of_ble_eq_true rfl, Nat.le_of_ble_eq_true rfl⟩ (fun H locs hP hD hS => ?_)
  refine lv_aload_n hx hb dX8_lackOn_5 rfl (lv_at hl 0 rfl) ?_
  refine lv_iload_n hx hb dX8_lackOn_6 rfl (lv_at hl 1 rfl) ?_
  refine lv_iload_n hx hb dX8_lackOn_7 rfl (lv_at hl 2 rfl) ?_
  obtain ⟨y_5, st_4, h_6, heq⟩ := bnd_h heq
  refine h_vi (own := RX8) (As := [.int v1, .int v2]) (rest := [.int y_2]) (wr := []) hx hb hml hown hts (okX8_holdOn z l D a T fo h_6) (cwV 2 hts gX8_lackOn_X8_holdOn rfl rfl rfl hdX8_holdOn ⟨Nat.le_of_ble_eq_true rfl, Nat.le_of_ble_eq_true rfl⟩) hK hA hX hP hD hS (perm_nil _) (perm_nil2 _) (ci := 8) (q0 := 0) rfl rfl rfl hl.1 rfl (Nat.le_of_ble_eq_true rfl) dX8_lackOn_8 ⟨Nat.le_of_ble_eq_true rfl, Nat.le_of_ble_eq_true rfl⟩ (fun H locs hP hD hS => ?_)
  refine lv_isub hx hb dX8_lackOn_11 ?_
  obtain ⟨heq, heq2⟩ := ret_h heq
  subst heq
  subst heq2
  exact hret 12 H locs ls hP hD hS rfl dX8_lackOn_12
set_option maxRecDepth 20000 in
theorem ggX8_fallSideAt_X8_lackOn : GoodIn wsX8_fallSideAt wsX8_lackOn := goodIn_r _ [5, 6, 7, 8, 4, 9, 10, 11, 12, 13, 14, 15, 16, 17, 18, 19, 20, 21, 22, 23, 24, 25, 26, 27, 28, 29, 30, 31, 32, 33] (by decide +kernel) (by decide +kernel)
set_option maxRecDepth 20000 in
theorem gX8_fallSideAt_X8_lackOn : GoodIn wsX8_fallSideAt (wsV RX8 94 RX8 yX8_lackOn wsX8_lackOn) := goodIn_app (goodIn_of _ (by decide +kernel)) ggX8_fallSideAt_X8_lackOn
theorem dX8_fallSideAt_0 : decode cX8_fallSideAt 0 = .ok (.bipush (-4), 2) := by decide +kernel
theorem dX8_fallSideAt_2 : decode cX8_fallSideAt 2 = .ok (.istore_n 2, 1) := by decide +kernel
theorem dX8_fallSideAt_3 : decode cX8_fallSideAt 3 = .ok (.iconst 0, 1) := by decide +kernel
theorem dX8_fallSideAt_4 : decode cX8_fallSideAt 4 = .ok (.istore_n 3, 1) := by decide +kernel
theorem dX8_fallSideAt_5 : decode cX8_fallSideAt 5 = .ok (.iconst 0, 1) := by decide +kernel
theorem dX8_fallSideAt_6 : decode cX8_fallSideAt 6 = .ok (.istore 4, 2) := by decide +kernel
theorem dX8_fallSideAt_8 : decode cX8_fallSideAt 8 = .ok (.iload 4, 2) := by decide +kernel
theorem dX8_fallSideAt_10 : decode cX8_fallSideAt 10 = .ok (.bipush 12, 2) := by decide +kernel
theorem dX8_fallSideAt_12 : decode cX8_fallSideAt 12 = .ok (.if_icmp .ge 30, 3) := by decide +kernel
theorem dX8_fallSideAt_15 : decode cX8_fallSideAt 15 = .ok (.aload_n 0, 1) := by decide +kernel
theorem dX8_fallSideAt_16 : decode cX8_fallSideAt 16 = .ok (.iload 4, 2) := by decide +kernel
theorem dX8_fallSideAt_18 : decode cX8_fallSideAt 18 = .ok (.iload_n 1, 1) := by decide +kernel
theorem dX8_fallSideAt_19 : decode cX8_fallSideAt 19 = .ok (.invokevirtual 94, 3) := by decide +kernel
theorem dX8_fallSideAt_22 : decode cX8_fallSideAt 22 = .ok (.istore 5, 2) := by decide +kernel
theorem dX8_fallSideAt_24 : decode cX8_fallSideAt 24 = .ok (.iload 5, 2) := by decide +kernel
theorem dX8_fallSideAt_26 : decode cX8_fallSideAt 26 = .ok (.iload_n 3, 1) := by decide +kernel
theorem dX8_fallSideAt_27 : decode cX8_fallSideAt 27 = .ok (.if_icmp .le 9, 3) := by decide +kernel
theorem dX8_fallSideAt_30 : decode cX8_fallSideAt 30 = .ok (.iload 5, 2) := by decide +kernel
theorem dX8_fallSideAt_32 : decode cX8_fallSideAt 32 = .ok (.istore_n 3, 1) := by decide +kernel
theorem dX8_fallSideAt_33 : decode cX8_fallSideAt 33 = .ok (.iload 4, 2) := by decide +kernel
theorem dX8_fallSideAt_35 : decode cX8_fallSideAt 35 = .ok (.istore_n 2, 1) := by decide +kernel
theorem dX8_fallSideAt_36 : decode cX8_fallSideAt 36 = .ok (.iinc 4 1, 3) := by decide +kernel
theorem dX8_fallSideAt_39 : decode cX8_fallSideAt 39 = .ok (.goto (-31), 3) := by decide +kernel
theorem dX8_fallSideAt_42 : decode cX8_fallSideAt 42 = .ok (.iload_n 2, 1) := by decide +kernel
theorem dX8_fallSideAt_43 : decode cX8_fallSideAt 43 = .ok (.ireturn, 1) := by decide +kernel
/-! X8 fallSideAt -/
def X8_fallSideAt_p36 (k8 : MS → Int32 → Int32 → Int32 → Int32 → Option (Int32 × MS)) (st : MS) (v1 : Int32) (v2 : Int32) (v3 : Int32) (v4 : Int32) : Option (Int32 × MS) :=
    nm (v4 + (1 : Int32)) fun x_1 =>
    k8 st v1 v2 v3 x_1
def X8_fallSideAt_p42 (st : MS) (v2 : Int32) : Option (Int32 × MS) :=
    some (v2, st)
def X8_fallSideAt_p8 : Nat → MS → Int32 → Int32 → Int32 → Int32 → Option (Int32 × MS)
  | 0, _, _, _, _, _ => none
  | n + 1, st, v1, v2, v3, v4 =>
    if (12 : Int32) ≤ v4 then
      (X8_fallSideAt_p42 st v2)
    else
    bnd (X8_lackOn st v4 v1) fun y_4 st_3 =>
    if y_4 ≤ v3 then
      (X8_fallSideAt_p36 (fun st v1 v2 v3 v4 => X8_fallSideAt_p8  n st v1 v2 v3 v4) st_3 v1 v2 v3 v4)
    else
    X8_fallSideAt_p36 (fun st v1 v2 v3 v4 => X8_fallSideAt_p8  n st v1 v2 v3 v4) st_3 v1 v4 y_4 v4
theorem X8_fallSideAt_p8_s (n : Nat) (st : MS) (v1 : Int32) (v2 : Int32) (v3 : Int32) (v4 : Int32) : X8_fallSideAt_p8  (n + 1) st v1 v2 v3 v4 =
    (if (12 : Int32) ≤ v4 then
      (X8_fallSideAt_p42 st v2)
    else
    bnd (X8_lackOn st v4 v1) fun y_4 st_3 =>
    if y_4 ≤ v3 then
      (X8_fallSideAt_p36 (fun st v1 v2 v3 v4 => X8_fallSideAt_p8  n st v1 v2 v3 v4) st_3 v1 v2 v3 v4)
    else
    X8_fallSideAt_p36 (fun st v1 v2 v3 v4 => X8_fallSideAt_p8  n st v1 v2 v3 v4) st_3 v1 v4 y_4 v4) := rfl
def X8_fallSideAt (st : MS) (v1 : Int32) : Option (Int32 × MS) :=
    X8_fallSideAt_p8 13 st v1 (-4 : Int32) (0 : Int32) (0 : Int32)
abbrev rmX8_fallSideAt : Room := { frames := 3, cells := 0, slots := 0, locals := 69 }
theorem hdX8_fallSideAt : yX8_fallSideAt.cls = RX8 ∧ yX8_fallSideAt.cls ≠ "java/lang/invoke/MethodHandle" ∧ yX8_fallSideAt.cls ≠ "java/lang/invoke/VarHandle" ∧ (parseMethodDescriptor yX8_fallSideAt.desc).map (fun d => d.parameters.length) = some 1 := by decide +kernel
set_option maxRecDepth 100000 in
set_option maxHeartbeats 4000000 in
theorem okX8_fallSideAt (z : Nat → Nat) (l : Launch) (D : va_G) (a : Nat → Nat) (T : mT3) (fo : Nat → Option Nat) {st : MS} {v1 : Int32} {r : Int32} {st' : MS} (heq : X8_fallSideAt st v1 = some (r, st')) : hCi z l D (cT T) yX8_fallSideAt wsX8_fallSideAt rmX8_fallSideAt [.ref (a 0), .int v1] (tW a T fo st) r (tW a T fo st') := by
  refine h_body_i (plainFor_of_name (by decide)) rfl (Nat.le_of_ble_eq_true rfl) (fun p e s m args below meth c A Q hx hb hml hown hts hK hA hX hret ls hP hD hS hl => ?_)
  have hl : lv_has ls 6 [(0, .ref (a 0)), (1, .int v1)] := hl
  have b36 : ∀ (k8 : MS → Int32 → Int32 → Int32 → Int32 → Option (Int32 × MS)) (hk8 : ∀ (st : MS) (v1 : Int32) (v2 : Int32) (v3 : Int32) (v4 : Int32) (H : Heap) (locs : List Loc) (ls : Array Slot), va_P D vwCl (tW a T fo st) H → va_D A (tW a T fo st) → va_S A s.heap H locs → lv_has ls 6 [(0, .ref (a 0)), (1, .int v1), (2, .int v2), (3, .int v3), (4, .int v4)] → k8 st v1 v2 v3 v4 = some (r, st') → W p l e rmX8_fallSideAt s m args below meth c H locs 0 0 Q (F0 m 8 ls [])), ∀ (st : MS) (v1 : Int32) (v2 : Int32) (v3 : Int32) (v4 : Int32) (H : Heap) (locs : List Loc) (ls : Array Slot), va_P D vwCl (tW a T fo st) H → va_D A (tW a T fo st) → va_S A s.heap H locs → lv_has ls 6 [(0, .ref (a 0)), (1, .int v1), (2, .int v2), (3, .int v3), (4, .int v4)] → X8_fallSideAt_p36 k8 st v1 v2 v3 v4 = some (r, st') → W p l e rmX8_fallSideAt s m args below meth c H locs 0 0 Q (F0 m 36 ls []) := by
    intro k8 hk8 st v1 v2 v3 v4 H locs ls hP hD hS hl heq
    unfold X8_fallSideAt_p36 at heq
    obtain ⟨x_1, ex_1⟩ : ∃ y : Int32, y = v4 + (1 : Int32) := ⟨_, rfl⟩
    have heq := nm_h ex_1 heq
    refine lv_iinc (v := x_1) (lv' := [(4, .int x_1), (0, .ref (a 0)), (1, .int v1), (2, .int v2), (3, .int v3)]) hx hb dX8_fallSideAt_36 hl (k := 4) rfl (by rw [ex_1]; rfl) (by decide) rfl (fun ls hl => ?_)
    refine lv_goto (tgt := 8) hx hb dX8_fallSideAt_39 (by decide) ?_
    exact hk8 st v1 v2 v3 x_1 H locs ls hP hD hS (lv_sub hl [1, 2, 3, 4, 0] rfl) heq
  have b42 : ∀ (st : MS) (v2 : Int32) (H : Heap) (locs : List Loc) (ls : Array Slot), va_P D vwCl (tW a T fo st) H → va_D A (tW a T fo st) → va_S A s.heap H locs → lv_has ls 6 [(2, .int v2)] → X8_fallSideAt_p42  st v2 = some (r, st') → W p l e rmX8_fallSideAt s m args below meth c H locs 0 0 Q (F0 m 42 ls []) := by
    intro st v2 H locs ls hP hD hS hl heq
    unfold X8_fallSideAt_p42 at heq
    refine lv_iload_n hx hb dX8_fallSideAt_42 rfl (lv_at hl 0 rfl) ?_
    obtain ⟨heq, heq2⟩ := ret_h heq
    subst heq
    subst heq2
    exact hret 43 H locs ls hP hD hS rfl dX8_fallSideAt_43
  have b8 : ∀ (n : Nat), ∀ (st : MS) (v1 : Int32) (v2 : Int32) (v3 : Int32) (v4 : Int32) (H : Heap) (locs : List Loc) (ls : Array Slot), va_P D vwCl (tW a T fo st) H → va_D A (tW a T fo st) → va_S A s.heap H locs → lv_has ls 6 [(0, .ref (a 0)), (1, .int v1), (2, .int v2), (3, .int v3), (4, .int v4)] → X8_fallSideAt_p8  n st v1 v2 v3 v4 = some (r, st') → W p l e rmX8_fallSideAt s m args below meth c H locs 0 0 Q (F0 m 8 ls []) := by
    intro n
    induction n with
    | zero => intro st v1 v2 v3 v4 H locs ls hP hD hS hl heq; cases heq
    | succ n ih =>
      intro st v1 v2 v3 v4 H locs ls hP hD hS hl heq
      rw [X8_fallSideAt_p8_s] at heq
      refine lv_iload hx hb dX8_fallSideAt_8 (lv_at hl 4 rfl) ?_
      refine lv_bipush (v := (12 : Int32)) hx hb dX8_fallSideAt_10 (by decide) ?_
      refine lv_icmp_ge (tgt := 42) hx hb dX8_fallSideAt_12 (by decide) (fun c_2 => ?_) (fun c_2 => ?_)
      · have heq := it_t c_2 heq
        exact b42 st v2 H locs ls hP hD hS (lv_sub hl [2] rfl) heq
      have heq := it_f c_2 heq
      refine lv_aload_n hx hb dX8_fallSideAt_15 rfl (lv_at hl 0 rfl) ?_
      refine lv_iload hx hb dX8_fallSideAt_16 (lv_at hl 4 rfl) ?_
      refine lv_iload_n hx hb dX8_fallSideAt_18 rfl (lv_at hl 1 rfl) ?_
      obtain ⟨y_4, st_3, h_5, heq⟩ := bnd_h heq
      refine h_vi (own := RX8) (As := [.int v4, .int v1]) (rest := []) (wr := []) hx hb hml hown hts (okX8_lackOn z l D a T fo h_5) (cwV 2 hts gX8_fallSideAt_X8_lackOn rfl rfl rfl hdX8_lackOn ⟨Nat.le_of_ble_eq_true rfl, Nat.le_of_ble_eq_true rfl⟩) hK hA hX hP hD hS (perm_nil _) (perm_nil2 _) (ci := 8) (q0 := 0) rfl rfl rfl hl.1 rfl (Nat.le_of_ble_eq_true rfl) dX8_fallSideAt_19 ⟨Nat.le_of_ble_eq_true rfl, Nat.le_of_ble_eq_true rfl⟩ (fun H locs hP hD hS => ?_)
      refine lv_istore (lv' := [(5, .int y_4), (0, .ref (a 0)), (1, .int v1), (2, .int v2), (3, .int v3), (4, .int v4)]) hx hb dX8_fallSideAt_22 hl (by decide) rfl (fun ls hl => ?_)
      refine lv_iload hx hb dX8_fallSideAt_24 (lv_at hl 0 rfl) ?_
      refine lv_iload_n hx hb dX8_fallSideAt_26 rfl (lv_at hl 4 rfl) ?_
      refine lv_icmp_le (tgt := 36) hx hb dX8_fallSideAt_27 (by decide) (fun c_6 => ?_) (fun c_6 => ?_)
      · have heq := it_t c_6 heq
        exact b36 (fun st v1 v2 v3 v4 => X8_fallSideAt_p8  n st v1 v2 v3 v4) ih st_3 v1 v2 v3 v4 H locs ls hP hD hS (lv_sub hl [1, 2, 3, 4, 5] rfl) heq
      have heq := it_f c_6 heq
      refine lv_iload hx hb dX8_fallSideAt_30 (lv_at hl 0 rfl) ?_
      refine lv_istore_n (lv' := [(3, .int y_4), (5, .int y_4), (0, .ref (a 0)), (1, .int v1), (2, .int v2), (4, .int v4)]) hx hb dX8_fallSideAt_32 rfl hl (by decide) rfl (fun ls hl => ?_)
      refine lv_iload hx hb dX8_fallSideAt_33 (lv_at hl 5 rfl) ?_
      refine lv_istore_n (lv' := [(2, .int v4), (3, .int y_4), (5, .int y_4), (0, .ref (a 0)), (1, .int v1), (4, .int v4)]) hx hb dX8_fallSideAt_35 rfl hl (by decide) rfl (fun ls hl => ?_)
      exact b36 (fun st v1 v2 v3 v4 => X8_fallSideAt_p8  n st v1 v2 v3 v4) ih st_3 v1 v4 y_4 v4 H locs ls hP hD hS (lv_sub hl [3, 4, 0, 1, 5] rfl) heq
  obtain ⟨H, hH⟩ : ∃ H, H = s.heap := ⟨_, rfl⟩
  obtain ⟨locs, hlocs⟩ : ∃ z : List Loc, z = [] := ⟨_, rfl⟩
  have hS : va_S A s.heap H locs := by rw [hH, hlocs]; exact hS
  have hP : va_P D vwCl (tW a T fo st) H := by rw [hH]; exact hP
  suffices h9 : W p l e rmX8_fallSideAt s m args below meth c H locs 0 0 Q (F0 m 0 ls []) by rw [hH, hlocs] at h9; exact h9
  clear hH hlocs
  unfold X8_fallSideAt at heq
  refine lv_bipush (v := (-4 : Int32)) hx hb dX8_fallSideAt_0 (by decide) ?_
  refine lv_istore_n (lv' := [(2, .int (-4 : Int32)), (0, .ref (a 0)), (1, .int v1)]) hx hb dX8_fallSideAt_2 rfl hl (by decide) rfl (fun ls hl => ?_)
  refine lv_iconst (v := (0 : Int32)) hx hb dX8_fallSideAt_3 (by decide) ?_
  refine lv_istore_n (lv' := [(3, .int (0 : Int32)), (2, .int (-4 : Int32)), (0, .ref (a 0)), (1, .int v1)]) hx hb dX8_fallSideAt_4 rfl hl (by decide) rfl (fun ls hl => ?_)
  refine lv_iconst (v := (0 : Int32)) hx hb dX8_fallSideAt_5 (by decide) ?_
  refine lv_istore (lv' := [(4, .int (0 : Int32)), (3, .int (0 : Int32)), (2, .int (-4 : Int32)), (0, .ref (a 0)), (1, .int v1)]) hx hb dX8_fallSideAt_6 hl (by decide) rfl (fun ls hl => ?_)
  exact b8 13 st v1 (-4 : Int32) (0 : Int32) (0 : Int32) H locs ls hP hD hS (lv_sub hl [3, 4, 2, 1, 0] rfl) heq
set_option maxRecDepth 20000 in
theorem ggX8_settle_X8_isDown : GoodIn wsX8_settle wsX8_isDown := goodIn_r _ [7, 2, 34, 35, 36, 37, 38, 39, 40, 41, 42, 43] (by decide +kernel) (by decide +kernel)
set_option maxRecDepth 20000 in
theorem gX8_settle_X8_isDown : GoodIn wsX8_settle (wsV RX8 50 RX8 yX8_isDown wsX8_isDown) := goodIn_app (goodIn_of _ (by decide +kernel)) ggX8_settle_X8_isDown
set_option maxRecDepth 20000 in
theorem ggX8_settle_X8_fallSideAt : GoodIn wsX8_settle wsX8_fallSideAt := goodIn_r _ [11, 12, 13, 14, 6, 15, 16, 17, 18, 19, 20, 21, 22, 23, 24, 25, 26, 27, 28, 29, 30, 31, 32, 33, 34, 35, 36, 37, 38, 39, 40, 41, 42, 43] (by decide +kernel) (by decide +kernel)
set_option maxRecDepth 20000 in
theorem gX8_settle_X8_fallSideAt : GoodIn wsX8_settle (wsV RX8 54 RX8 yX8_fallSideAt wsX8_fallSideAt) := goodIn_app (goodIn_of _ (by decide +kernel)) ggX8_settle_X8_fallSideAt
theorem dX8_settle_0 : decode cX8_settle 0 = .ok (.aload_n 0, 1) := by decide +kernel
theorem dX8_settle_1 : decode cX8_settle 1 = .ok (.invokevirtual 50, 3) := by decide +kernel
theorem dX8_settle_4 : decode cX8_settle 4 = .ok (.ifCond .ne 15, 3) := by decide +kernel
theorem dX8_settle_7 : decode cX8_settle 7 = .ok (.aload_n 0, 1) := by decide +kernel
theorem dX8_settle_8 : decode cX8_settle 8 = .ok (.aload_n 0, 1) := by decide +kernel
theorem dX8_settle_9 : decode cX8_settle 9 = .ok (.aload_n 0, 1) := by decide +kernel
theorem dX8_settle_10 : decode cX8_settle 10 = .ok (.getfield 47, 3) := by decide +kernel
theorem dX8_settle_13 : decode cX8_settle 13 = .ok (.invokevirtual 54, 3) := by decide +kernel
theorem dX8_settle_16 : decode cX8_settle 16 = .ok (.putfield 36, 3) := by decide +kernel
theorem dX8_settle_19 : decode cX8_settle 19 = .ok (.return_, 1) := by decide +kernel
/-! X8 settle -/
def X8_settle_p19 (st : MS) : Option (Unit × MS) :=
    some ((), st)
def X8_settle (st : MS) : Option (Unit × MS) :=
    bnd (X8_isDown st) fun y_2 st_1 =>
    if y_2 = 0 then
      (bnd (X8_fallSideAt st_1 (gF st_1 8)) fun y_6 st_5 =>
      nm (sF st_5 9 y_6) fun st_8 =>
      X8_settle_p19 st_8)
    else
    X8_settle_p19 st_1
abbrev rmX8_settle : Room := { frames := 4, cells := 0, slots := 0, locals := 94 }
theorem hdX8_settle : yX8_settle.cls = RX8 ∧ yX8_settle.cls ≠ "java/lang/invoke/MethodHandle" ∧ yX8_settle.cls ≠ "java/lang/invoke/VarHandle" ∧ (parseMethodDescriptor yX8_settle.desc).map (fun d => d.parameters.length) = some 0 := by decide +kernel
set_option maxRecDepth 100000 in
set_option maxHeartbeats 4000000 in
theorem okX8_settle (z : Nat → Nat) (l : Launch) (D : va_G) (a : Nat → Nat) (T : mT3) (fo : Nat → Option Nat) {st : MS} {st' : MS} (heq : X8_settle st = some ((), st')) : hCv z l D (cT T) yX8_settle wsX8_settle rmX8_settle [.ref (a 0)] (tW a T fo st) (tW a T fo st') := by
  refine h_body_v (plainFor_of_name (by decide)) rfl (Nat.le_of_ble_eq_true rfl) (fun p e s m args below meth c A Q hx hb hml hown hts hK hA hX _ hret ls hP hD hS hl => ?_)
  have hl : lv_has ls 1 [(0, .ref (a 0))] := hl
  have hin : ∀ w ∈ wsX80, w ∈ wsX8_settle := fun w h => List.mem_cons_of_mem _ (List.mem_append_right _ h)
  have f36 : (Cond.fieldLink RX8 36 RX8 (TX8 9).2.1 (TX8 9).2.2.1).before args s = true := hts (.fieldLink RX8 36 RX8 "fallenTo" "I") (by decide +kernel)
  have f47 : (Cond.fieldLink RX8 47 RX8 (TX8 8).2.1 (TX8 8).2.2.1).before args s = true := hts (.fieldLink RX8 47 RX8 "minute" "I") (by decide +kernel)
  have b19 : ∀ (st : MS) (H : Heap) (locs : List Loc) (ls : Array Slot), va_P D vwCl (tW a T fo st) H → va_D A (tW a T fo st) → va_S A s.heap H locs → lv_has ls 1 [] → X8_settle_p19  st = some ((), st') → W p l e rmX8_settle s m args below meth c H locs 0 0 Q (F0 m 19 ls []) := by
    intro st H locs ls hP hD hS hl heq
    unfold X8_settle_p19 at heq
    obtain ⟨-, heq2⟩ := ret_h heq
    subst heq2
    exact hret 19 H locs ls hP hD hS dX8_settle_19
  obtain ⟨H, hH⟩ : ∃ H, H = s.heap := ⟨_, rfl⟩
  obtain ⟨locs, hlocs⟩ : ∃ z : List Loc, z = [] := ⟨_, rfl⟩
  have hS : va_S A s.heap H locs := by rw [hH, hlocs]; exact hS
  have hP : va_P D vwCl (tW a T fo st) H := by rw [hH]; exact hP
  suffices h9 : W p l e rmX8_settle s m args below meth c H locs 0 0 Q (F0 m 0 ls []) by rw [hH, hlocs] at h9; exact h9
  clear hH hlocs
  unfold X8_settle at heq
  refine lv_aload_n hx hb dX8_settle_0 rfl (lv_at hl 0 rfl) ?_
  obtain ⟨y_2, st_1, h_3, heq⟩ := bnd_h heq
  refine h_vi (own := RX8) (As := []) (rest := []) (wr := []) hx hb hml hown hts (okX8_isDown z l D a T fo h_3) (cwV 0 hts gX8_settle_X8_isDown rfl rfl rfl hdX8_isDown ⟨Nat.le_of_ble_eq_true rfl, Nat.le_of_ble_eq_true rfl⟩) hK hA hX hP hD hS (perm_nil _) (perm_nil2 _) (ci := 8) (q0 := 0) rfl rfl rfl hl.1 rfl (Nat.le_of_ble_eq_true rfl) dX8_settle_1 ⟨Nat.le_of_ble_eq_true rfl, Nat.le_of_ble_eq_true rfl⟩ (fun H locs hP hD hS => ?_)
  refine lv_if_ne (tgt := 19) hx hb dX8_settle_4 (by decide) (fun c_4 => ?_) (fun c_4 => ?_)
  · have heq := it_f c_4 heq
    exact b19 st_1 H locs ls hP hD hS (lv_sub hl [] rfl) heq
  have heq := it_t c_4 heq
  refine lv_aload_n hx hb dX8_settle_7 rfl (lv_at hl 0 rfl) ?_
  refine lv_aload_n hx hb dX8_settle_8 rfl (lv_at hl 0 rfl) ?_
  refine lv_aload_n hx hb dX8_settle_9 rfl (lv_at hl 0 rfl) ?_
  refine tg (k := 8) (v := .int (gF st_1 8)) hx hb hts hin hown hK hP (by decide) f47 rfl dX8_settle_10 rfl ?_
  obtain ⟨y_6, st_5, h_7, heq⟩ := bnd_h heq
  refine h_vi (own := RX8) (As := [.int (gF st_1 8)]) (rest := [.ref (a 0)]) (wr := []) hx hb hml hown hts (okX8_fallSideAt z l D a T fo h_7) (cwV 1 hts gX8_settle_X8_fallSideAt rfl rfl rfl hdX8_fallSideAt ⟨Nat.le_of_ble_eq_true rfl, Nat.le_of_ble_eq_true rfl⟩) hK hA hX hP hD hS (perm_nil _) (perm_nil2 _) (ci := 8) (q0 := 0) rfl rfl rfl hl.1 rfl (Nat.le_of_ble_eq_true rfl) dX8_settle_13 ⟨Nat.le_of_ble_eq_true rfl, Nat.le_of_ble_eq_true rfl⟩ (fun H locs hP hD hS => ?_)
  refine tp (k := 9) hx hb hts hin hown hK hP hD hS (by decide) f36 dX8_settle_16 rfl rfl rfl rfl (tset_9 ..) (fun H locs hP hD hS => ?_)
  obtain ⟨st_8, est_8⟩ : ∃ z, z = sF st_5 9 y_6 := ⟨_, rfl⟩
  rw [← est_8] at hP hD
  have heq := nm_h est_8 heq
  exact b19 st_8 H locs ls hP hD hS (lv_sub hl [] rfl) heq
set_option maxRecDepth 20000 in
theorem ggX8_isTold_X10_isAsTold : GoodIn wsX8_isTold wsX10_isAsTold := goodIn_r _ [4, 5, 6] (by decide +kernel) (by decide +kernel)
set_option maxRecDepth 20000 in
theorem gX8_isTold_X10_isAsTold_n63 : GoodIn wsX8_isTold (wsX10_isAsTold) := ggX8_isTold_X10_isAsTold
theorem dX8_isTold_0 : decode cX8_isTold 0 = .ok (.iload_n 1, 1) := by decide +kernel
theorem dX8_isTold_1 : decode cX8_isTold 1 = .ok (.iload_n 2, 1) := by decide +kernel
theorem dX8_isTold_2 : decode cX8_isTold 2 = .ok (.invokestatic 63, 3) := by decide +kernel
theorem dX8_isTold_5 : decode cX8_isTold 5 = .ok (.ifCond .ne 5, 3) := by decide +kernel
theorem dX8_isTold_8 : decode cX8_isTold 8 = .ok (.iconst 0, 1) := by decide +kernel
theorem dX8_isTold_9 : decode cX8_isTold 9 = .ok (.ireturn, 1) := by decide +kernel
theorem dX8_isTold_10 : decode cX8_isTold 10 = .ok (.aload_n 0, 1) := by decide +kernel
theorem dX8_isTold_11 : decode cX8_isTold 11 = .ok (.getfield 24, 3) := by decide +kernel
theorem dX8_isTold_14 : decode cX8_isTold 14 = .ok (.iload_n 1, 1) := by decide +kernel
theorem dX8_isTold_15 : decode cX8_isTold 15 = .ok (.iload_n 2, 1) := by decide +kernel
theorem dX8_isTold_16 : decode cX8_isTold 16 = .ok (.iastore, 1) := by decide +kernel
theorem dX8_isTold_17 : decode cX8_isTold 17 = .ok (.iconst 1, 1) := by decide +kernel
theorem dX8_isTold_18 : decode cX8_isTold 18 = .ok (.ireturn, 1) := by decide +kernel
/-! X8 isTold -/
def X8_isTold (st : MS) (v1 : Int32) (v2 : Int32) : Option (Int32 × MS) :=
    bd1 (X10_isAsTold v1 v2) fun y_1 =>
    if y_1 = 0 then
      (gz (0 : Int32) <|
      some ((0 : Int32), st))
    else
    inr v1 7 <|
    nm (sA st 3 v1.toNatClampNeg v2) fun st_5 =>
    gz (1 : Int32) <|
    some ((1 : Int32), st_5)
abbrev rmX8_isTold : Room := { frames := 1, cells := 0, slots := 0, locals := 21 }
theorem hdX8_isTold : yX8_isTold.cls = RX8 ∧ yX8_isTold.cls ≠ "java/lang/invoke/MethodHandle" ∧ yX8_isTold.cls ≠ "java/lang/invoke/VarHandle" ∧ (parseMethodDescriptor yX8_isTold.desc).map (fun d => d.parameters.length) = some 2 := by decide +kernel
set_option maxRecDepth 100000 in
set_option maxHeartbeats 4000000 in
theorem okX8_isTold (z : Nat → Nat) (l : Launch) (D : va_G) (a : Nat → Nat) (T : mT3) (fo : Nat → Option Nat) {st : MS} {v1 : Int32} {v2 : Int32} {r : Int32} {st' : MS} (heq : X8_isTold st v1 v2 = some (r, st')) : hCi z l D (cT T) yX8_isTold wsX8_isTold rmX8_isTold [.ref (a 0), .int v1, .int v2] (tW a T fo st) r (tW a T fo st') := by
  refine h_body_i (plainFor_of_name (by decide)) rfl (Nat.le_of_ble_eq_true rfl) (fun p e s m args below meth c A Q hx hb hml hown hts hK hA hX hret ls hP hD hS hl => ?_)
  have hl : lv_has ls 3 [(0, .ref (a 0)), (1, .int v1), (2, .int v2)] := hl
  have hin : ∀ w ∈ wsX80, w ∈ wsX8_isTold := fun w h => List.mem_cons_of_mem _ (List.mem_append_right _ h)
  have f24 : (Cond.fieldLink RX8 24 RX8 (TX8 3).2.1 (TX8 3).2.2.1).before args s = true := hts (.fieldLink RX8 24 RX8 "told" "[I") (by decide +kernel)
  have wi_X10 : (Cond.initialized RX10).before args s = true := hts (.initialized RX10) (by decide +kernel)
  have ws_X10_isAsTold := hts (.static yX10_isAsTold) (by decide +kernel)
  obtain ⟨H, hH⟩ : ∃ H, H = s.heap := ⟨_, rfl⟩
  obtain ⟨locs, hlocs⟩ : ∃ z : List Loc, z = [] := ⟨_, rfl⟩
  have hS : va_S A s.heap H locs := by rw [hH, hlocs]; exact hS
  have hP : va_P D vwCl (tW a T fo st) H := by rw [hH]; exact hP
  suffices h9 : W p l e rmX8_isTold s m args below meth c H locs 0 0 Q (F0 m 0 ls []) by rw [hH, hlocs] at h9; exact h9
  clear hH hlocs
  unfold X8_isTold at heq
  refine lv_iload_n hx hb dX8_isTold_0 rfl (lv_at hl 1 rfl) ?_
  refine lv_iload_n hx hb dX8_isTold_1 rfl (lv_at hl 2 rfl) ?_
  obtain ⟨y_1, h_2, heq⟩ := bd1_h heq
  refine h_sni (own := RX8) (As := [.int v1, .int v2]) (rest := []) (w0 := []) (w1 := []) (wr := (tW a T fo st)) hx hb hml hown hts (okX10_isAsTold z l D h_2) ⟨va_cnB 2 hts gX8_isTold_X10_isAsTold_n63 rfl rfl rfl (hX.nest 1 rfl) wi_X10 (hdX10_isAsTold).2 ⟨Nat.le_of_ble_eq_true rfl, Nat.le_of_ble_eq_true rfl⟩, ws_X10_isAsTold, trivial⟩ (hK.sub [] rfl) hA hX hP hD hS (List.Perm.refl _) (List.Perm.refl _) rfl hl.1 rfl (Nat.le_of_ble_eq_true rfl) dX8_isTold_2 ⟨Nat.le_of_ble_eq_true rfl, Nat.le_of_ble_eq_true rfl⟩ (fun H locs hP hD hS => ?_)
  refine lv_if_ne (tgt := 10) hx hb dX8_isTold_5 (by decide) (fun c_3 => ?_) (fun c_3 => ?_)
  · have heq := it_f c_3 heq
    refine lv_aload_n hx hb dX8_isTold_10 rfl (lv_at hl 0 rfl) ?_
    refine tg (k := 3) (v := .ref (a 4)) hx hb hts hin hown hK hP (by decide) f24 rfl dX8_isTold_11 rfl ?_
    refine lv_iload_n hx hb dX8_isTold_14 rfl (lv_at hl 1 rfl) ?_
    refine lv_iload_n hx hb dX8_isTold_15 rfl (lv_at hl 2 rfl) ?_
    obtain ⟨n_4, heq⟩ := inr_h heq
    refine tas (k := 3) (q := 4) (n := 7) hx hb hK hP hD hS rfl (taset_3 ..) n_4 dX8_isTold_16 (fun H locs hP hD hS => ?_)
    obtain ⟨st_5, est_5⟩ : ∃ z, z = sA st 3 v1.toNatClampNeg v2 := ⟨_, rfl⟩
    rw [← est_5] at hP hD
    have heq := nm_h est_5 heq
    refine lv_iconst (v := (1 : Int32)) hx hb dX8_isTold_17 (by decide) ?_
    obtain ⟨n_6, _, heq⟩ := gz_h heq
    obtain ⟨heq, heq2⟩ := ret_h heq
    subst heq
    subst heq2
    exact hret 18 H locs ls hP hD hS n_6 dX8_isTold_18
  have heq := it_t c_3 heq
  refine lv_iconst (v := (0 : Int32)) hx hb dX8_isTold_8 (by decide) ?_
  obtain ⟨n_7, _, heq⟩ := gz_h heq
  obtain ⟨heq, heq2⟩ := ret_h heq
  subst heq
  subst heq2
  exact hret 9 H locs ls hP hD hS n_7 dX8_isTold_9
set_option maxRecDepth 20000 in
theorem ggX8_addHouse_X10_isSide : GoodIn wsX8_addHouse wsX10_isSide := goodIn_r _ [6] (by decide +kernel) (by decide +kernel)
set_option maxRecDepth 20000 in
theorem gX8_addHouse_X10_isSide_n67 : GoodIn wsX8_addHouse (wsX10_isSide) := ggX8_addHouse_X10_isSide
theorem dX8_addHouse_0 : decode cX8_addHouse 0 = .ok (.iload_n 1, 1) := by decide +kernel
theorem dX8_addHouse_1 : decode cX8_addHouse 1 = .ok (.invokestatic 67, 3) := by decide +kernel
theorem dX8_addHouse_4 : decode cX8_addHouse 4 = .ok (.ifCond .eq 30, 3) := by decide +kernel
theorem dX8_addHouse_7 : decode cX8_addHouse 7 = .ok (.iload_n 2, 1) := by decide +kernel
theorem dX8_addHouse_8 : decode cX8_addHouse 8 = .ok (.ifCond .lt 26, 3) := by decide +kernel
theorem dX8_addHouse_11 : decode cX8_addHouse 11 = .ok (.iload_n 2, 1) := by decide +kernel
theorem dX8_addHouse_12 : decode cX8_addHouse 12 = .ok (.sipush 240, 3) := by decide +kernel
theorem dX8_addHouse_15 : decode cX8_addHouse 15 = .ok (.if_icmp .gt 19, 3) := by decide +kernel
theorem dX8_addHouse_18 : decode cX8_addHouse 18 = .ok (.aload_n 0, 1) := by decide +kernel
theorem dX8_addHouse_19 : decode cX8_addHouse 19 = .ok (.getfield 40, 3) := by decide +kernel
theorem dX8_addHouse_22 : decode cX8_addHouse 22 = .ok (.ifCond .lt 12, 3) := by decide +kernel
theorem dX8_addHouse_25 : decode cX8_addHouse 25 = .ok (.aload_n 0, 1) := by decide +kernel
theorem dX8_addHouse_26 : decode cX8_addHouse 26 = .ok (.getfield 40, 3) := by decide +kernel
theorem dX8_addHouse_29 : decode cX8_addHouse 29 = .ok (.bipush 6, 2) := by decide +kernel
theorem dX8_addHouse_31 : decode cX8_addHouse 31 = .ok (.if_icmp .lt 5, 3) := by decide +kernel
theorem dX8_addHouse_34 : decode cX8_addHouse 34 = .ok (.iconst 0, 1) := by decide +kernel
theorem dX8_addHouse_35 : decode cX8_addHouse 35 = .ok (.ireturn, 1) := by decide +kernel
theorem dX8_addHouse_36 : decode cX8_addHouse 36 = .ok (.aload_n 0, 1) := by decide +kernel
theorem dX8_addHouse_37 : decode cX8_addHouse 37 = .ok (.getfield 27, 3) := by decide +kernel
theorem dX8_addHouse_40 : decode cX8_addHouse 40 = .ok (.aload_n 0, 1) := by decide +kernel
theorem dX8_addHouse_41 : decode cX8_addHouse 41 = .ok (.getfield 40, 3) := by decide +kernel
theorem dX8_addHouse_44 : decode cX8_addHouse 44 = .ok (.iload_n 1, 1) := by decide +kernel
theorem dX8_addHouse_45 : decode cX8_addHouse 45 = .ok (.iastore, 1) := by decide +kernel
theorem dX8_addHouse_46 : decode cX8_addHouse 46 = .ok (.aload_n 0, 1) := by decide +kernel
theorem dX8_addHouse_47 : decode cX8_addHouse 47 = .ok (.getfield 30, 3) := by decide +kernel
theorem dX8_addHouse_50 : decode cX8_addHouse 50 = .ok (.aload_n 0, 1) := by decide +kernel
theorem dX8_addHouse_51 : decode cX8_addHouse 51 = .ok (.getfield 40, 3) := by decide +kernel
theorem dX8_addHouse_54 : decode cX8_addHouse 54 = .ok (.iload_n 2, 1) := by decide +kernel
theorem dX8_addHouse_55 : decode cX8_addHouse 55 = .ok (.iastore, 1) := by decide +kernel
theorem dX8_addHouse_56 : decode cX8_addHouse 56 = .ok (.aload_n 0, 1) := by decide +kernel
theorem dX8_addHouse_57 : decode cX8_addHouse 57 = .ok (.dup, 1) := by decide +kernel
theorem dX8_addHouse_58 : decode cX8_addHouse 58 = .ok (.getfield 40, 3) := by decide +kernel
theorem dX8_addHouse_61 : decode cX8_addHouse 61 = .ok (.iconst 1, 1) := by decide +kernel
theorem dX8_addHouse_62 : decode cX8_addHouse 62 = .ok (.iadd, 1) := by decide +kernel
theorem dX8_addHouse_63 : decode cX8_addHouse 63 = .ok (.putfield 40, 3) := by decide +kernel
theorem dX8_addHouse_66 : decode cX8_addHouse 66 = .ok (.iconst 1, 1) := by decide +kernel
theorem dX8_addHouse_67 : decode cX8_addHouse 67 = .ok (.ireturn, 1) := by decide +kernel
/-! X8 addHouse -/
def X8_addHouse (st : MS) (v1 : Int32) (v2 : Int32) : Option (Int32 × MS) :=
    bd1 (X10_isSide v1) fun y_1 =>
    if y_1 = 0 then
      (gz (0 : Int32) <|
      some ((0 : Int32), st))
    else
    if v2 < 0 then
      (gz (0 : Int32) <|
      some ((0 : Int32), st))
    else
    if (240 : Int32) < v2 then
      (gz (0 : Int32) <|
      some ((0 : Int32), st))
    else
    if (gF st 6) < 0 then
      (gz (0 : Int32) <|
      some ((0 : Int32), st))
    else
    if (gF st 6) < (6 : Int32) then
      (inr (gF st 6) 6 <|
      nm (sA st 4 (gF st 6).toNatClampNeg v1) fun st_13 =>
      inr (gF st_13 6) 6 <|
      nm (sA st_13 5 (gF st_13 6).toNatClampNeg v2) fun st_15 =>
      nm (sF st_15 6 ((gF st_15 6) + (1 : Int32))) fun st_16 =>
      gz (1 : Int32) <|
      some ((1 : Int32), st_16))
    else
    gz (0 : Int32) <|
    some ((0 : Int32), st)
abbrev rmX8_addHouse : Room := { frames := 1, cells := 0, slots := 0, locals := 20 }
theorem hdX8_addHouse : yX8_addHouse.cls = RX8 ∧ yX8_addHouse.cls ≠ "java/lang/invoke/MethodHandle" ∧ yX8_addHouse.cls ≠ "java/lang/invoke/VarHandle" ∧ (parseMethodDescriptor yX8_addHouse.desc).map (fun d => d.parameters.length) = some 2 := by decide +kernel
set_option maxRecDepth 100000 in
set_option maxHeartbeats 4000000 in
theorem okX8_addHouse (z : Nat → Nat) (l : Launch) (D : va_G) (a : Nat → Nat) (T : mT3) (fo : Nat → Option Nat) {st : MS} {v1 : Int32} {v2 : Int32} {r : Int32} {st' : MS} (heq : X8_addHouse st v1 v2 = some (r, st')) : hCi z l D (cT T) yX8_addHouse wsX8_addHouse rmX8_addHouse [.ref (a 0), .int v1, .int v2] (tW a T fo st) r (tW a T fo st') := by
  refine h_body_i (plainFor_of_name (by decide)) rfl (Nat.le_of_ble_eq_true rfl) (fun p e s m args below meth c A Q hx hb hml hown hts hK hA hX hret ls hP hD hS hl => ?_)
  have hl : lv_has ls 3 [(0, .ref (a 0)), (1, .int v1), (2, .int v2)] := hl
  have hin : ∀ w ∈ wsX80, w ∈ wsX8_addHouse := fun w h => List.mem_cons_of_mem _ (List.mem_append_right _ h)
  have f27 : (Cond.fieldLink RX8 27 RX8 (TX8 4).2.1 (TX8 4).2.2.1).before args s = true := hts (.fieldLink RX8 27 RX8 "houseSide" "[I") (by decide +kernel)
  have f30 : (Cond.fieldLink RX8 30 RX8 (TX8 5).2.1 (TX8 5).2.2.1).before args s = true := hts (.fieldLink RX8 30 RX8 "houseFar" "[I") (by decide +kernel)
  have f40 : (Cond.fieldLink RX8 40 RX8 (TX8 6).2.1 (TX8 6).2.2.1).before args s = true := hts (.fieldLink RX8 40 RX8 "houses" "I") (by decide +kernel)
  have wi_X10 : (Cond.initialized RX10).before args s = true := hts (.initialized RX10) (by decide +kernel)
  have ws_X10_isSide := hts (.static yX10_isSide) (by decide +kernel)
  obtain ⟨H, hH⟩ : ∃ H, H = s.heap := ⟨_, rfl⟩
  obtain ⟨locs, hlocs⟩ : ∃ z : List Loc, z = [] := ⟨_, rfl⟩
  have hS : va_S A s.heap H locs := by rw [hH, hlocs]; exact hS
  have hP : va_P D vwCl (tW a T fo st) H := by rw [hH]; exact hP
  suffices h9 : W p l e rmX8_addHouse s m args below meth c H locs 0 0 Q (F0 m 0 ls []) by rw [hH, hlocs] at h9; exact h9
  clear hH hlocs
  unfold X8_addHouse at heq
  refine lv_iload_n hx hb dX8_addHouse_0 rfl (lv_at hl 1 rfl) ?_
  obtain ⟨y_1, h_2, heq⟩ := bd1_h heq
  refine h_sni (own := RX8) (As := [.int v1]) (rest := []) (w0 := []) (w1 := []) (wr := (tW a T fo st)) hx hb hml hown hts (okX10_isSide z l D h_2) ⟨va_cnB 1 hts gX8_addHouse_X10_isSide_n67 rfl rfl rfl (hX.nest 0 rfl) wi_X10 (hdX10_isSide).2 ⟨Nat.le_of_ble_eq_true rfl, Nat.le_of_ble_eq_true rfl⟩, ws_X10_isSide, trivial⟩ (hK.sub [] rfl) hA hX hP hD hS (List.Perm.refl _) (List.Perm.refl _) rfl hl.1 rfl (Nat.le_of_ble_eq_true rfl) dX8_addHouse_1 ⟨Nat.le_of_ble_eq_true rfl, Nat.le_of_ble_eq_true rfl⟩ (fun H locs hP hD hS => ?_)
  refine lv_if_eq (tgt := 34) hx hb dX8_addHouse_4 (by decide) (fun c_3 => ?_) (fun c_3 => ?_)
  · have heq := it_t c_3 heq
    refine lv_iconst (v := (0 : Int32)) hx hb dX8_addHouse_34 (by decide) ?_
    obtain ⟨n_4, _, heq⟩ := gz_h heq
    obtain ⟨heq, heq2⟩ := ret_h heq
    subst heq
    subst heq2
    exact hret 35 H locs ls hP hD hS n_4 dX8_addHouse_35
  have heq := it_f c_3 heq
  refine lv_iload_n hx hb dX8_addHouse_7 rfl (lv_at hl 2 rfl) ?_
  refine lv_if_lt (tgt := 34) hx hb dX8_addHouse_8 (by decide) (fun c_5 => ?_) (fun c_5 => ?_)
  · have heq := it_t c_5 heq
    refine lv_iconst (v := (0 : Int32)) hx hb dX8_addHouse_34 (by decide) ?_
    obtain ⟨n_6, _, heq⟩ := gz_h heq
    obtain ⟨heq, heq2⟩ := ret_h heq
    subst heq
    subst heq2
    exact hret 35 H locs ls hP hD hS n_6 dX8_addHouse_35
  have heq := it_f c_5 heq
  refine lv_iload_n hx hb dX8_addHouse_11 rfl (lv_at hl 2 rfl) ?_
  refine lv_sipush (v := (240 : Int32)) hx hb dX8_addHouse_12 (by decide) ?_
  refine lv_icmp_gt (tgt := 34) hx hb dX8_addHouse_15 (by decide) (fun c_7 => ?_) (fun c_7 => ?_)
  · have heq := it_t c_7 heq
    refine lv_iconst (v := (0 : Int32)) hx hb dX8_addHouse_34 (by decide) ?_
    obtain ⟨n_8, _, heq⟩ := gz_h heq
    obtain ⟨heq, heq2⟩ := ret_h heq
    subst heq
    subst heq2
    exact hret 35 H locs ls hP hD hS n_8 dX8_addHouse_35
  have heq := it_f c_7 heq
  refine lv_aload_n hx hb dX8_addHouse_18 rfl (lv_at hl 0 rfl) ?_
  refine tg (k := 6) (v := .int (gF st 6)) hx hb hts hin hown hK hP (by decide) f40 rfl dX8_addHouse_19 rfl ?_
  refine lv_if_lt (tgt := 34) hx hb dX8_addHouse_22 (by decide) (fun c_9 => ?_) (fun c_9 => ?_)
  · have heq := it_t c_9 heq
    refine lv_iconst (v := (0 : Int32)) hx hb dX8_addHouse_34 (by decide) ?_
    obtain ⟨n_10, _, heq⟩ := gz_h heq
    obtain ⟨heq, heq2⟩ := ret_h heq
    subst heq
    subst heq2
    exact hret 35 H locs ls hP hD hS n_10 dX8_addHouse_35
  have heq := it_f c_9 heq
  refine lv_aload_n hx hb dX8_addHouse_25 rfl (lv_at hl 0 rfl) ?_
  refine tg (k := 6) (v := .int (gF st 6)) hx hb hts hin hown hK hP (by decide) f40 rfl dX8_addHouse_26 rfl ?_
  refine lv_bipush (v := (6 : Int32)) hx hb dX8_addHouse_29 (by decide) ?_
  refine lv_icmp_lt (tgt := 36) hx hb dX8_addHouse_31 (by decide) (fun c_11 => ?_) (fun c_11 => ?_)
  · have heq := it_t c_11 heq
    refine lv_aload_n hx hb dX8_addHouse_36 rfl (lv_at hl 0 rfl) ?_
    refine tg (k := 4) (v := .ref (a 5)) hx hb hts hin hown hK hP (by decide) f27 rfl dX8_addHouse_37 rfl ?_
    refine lv_aload_n hx hb dX8_addHouse_40 rfl (lv_at hl 0 rfl) ?_
    refine tg (k := 6) (v := .int (gF st 6)) hx hb hts hin hown hK hP (by decide) f40 rfl dX8_addHouse_41 rfl ?_
    refine lv_iload_n hx hb dX8_addHouse_44 rfl (lv_at hl 1 rfl) ?_
    obtain ⟨n_12, heq⟩ := inr_h heq
    refine tas (k := 4) (q := 5) (n := 6) hx hb hK hP hD hS rfl (taset_4 ..) n_12 dX8_addHouse_45 (fun H locs hP hD hS => ?_)
    obtain ⟨st_13, est_13⟩ : ∃ z, z = sA st 4 (gF st 6).toNatClampNeg v1 := ⟨_, rfl⟩
    rw [← est_13] at hP hD
    have heq := nm_h est_13 heq
    refine lv_aload_n hx hb dX8_addHouse_46 rfl (lv_at hl 0 rfl) ?_
    refine tg (k := 5) (v := .ref (a 6)) hx hb hts hin hown hK hP (by decide) f30 rfl dX8_addHouse_47 rfl ?_
    refine lv_aload_n hx hb dX8_addHouse_50 rfl (lv_at hl 0 rfl) ?_
    refine tg (k := 6) (v := .int (gF st_13 6)) hx hb hts hin hown hK hP (by decide) f40 rfl dX8_addHouse_51 rfl ?_
    refine lv_iload_n hx hb dX8_addHouse_54 rfl (lv_at hl 2 rfl) ?_
    obtain ⟨n_14, heq⟩ := inr_h heq
    refine tas (k := 5) (q := 6) (n := 6) hx hb hK hP hD hS rfl (taset_5 ..) n_14 dX8_addHouse_55 (fun H locs hP hD hS => ?_)
    obtain ⟨st_15, est_15⟩ : ∃ z, z = sA st_13 5 (gF st_13 6).toNatClampNeg v2 := ⟨_, rfl⟩
    rw [← est_15] at hP hD
    have heq := nm_h est_15 heq
    refine lv_aload_n hx hb dX8_addHouse_56 rfl (lv_at hl 0 rfl) ?_
    refine lv_dup hx hb dX8_addHouse_57 rfl ?_
    refine tg (k := 6) (v := .int (gF st_15 6)) hx hb hts hin hown hK hP (by decide) f40 rfl dX8_addHouse_58 rfl ?_
    refine lv_iconst (v := (1 : Int32)) hx hb dX8_addHouse_61 (by decide) ?_
    refine lv_iadd hx hb dX8_addHouse_62 ?_
    refine tp (k := 6) hx hb hts hin hown hK hP hD hS (by decide) f40 dX8_addHouse_63 rfl rfl rfl rfl (tset_6 ..) (fun H locs hP hD hS => ?_)
    obtain ⟨st_16, est_16⟩ : ∃ z, z = sF st_15 6 ((gF st_15 6) + (1 : Int32)) := ⟨_, rfl⟩
    rw [← est_16] at hP hD
    have heq := nm_h est_16 heq
    refine lv_iconst (v := (1 : Int32)) hx hb dX8_addHouse_66 (by decide) ?_
    obtain ⟨n_17, _, heq⟩ := gz_h heq
    obtain ⟨heq, heq2⟩ := ret_h heq
    subst heq
    subst heq2
    exact hret 67 H locs ls hP hD hS n_17 dX8_addHouse_67
  have heq := it_f c_11 heq
  refine lv_iconst (v := (0 : Int32)) hx hb dX8_addHouse_34 (by decide) ?_
  obtain ⟨n_18, _, heq⟩ := gz_h heq
  obtain ⟨heq, heq2⟩ := ret_h heq
  subst heq
  subst heq2
  exact hret 35 H locs ls hP hD hS n_18 dX8_addHouse_35
set_option maxRecDepth 20000 in
theorem ggX8_kindle_X8_isDown : GoodIn wsX8_kindle wsX8_isDown := goodIn_r _ [6, 7, 8, 9, 10, 11, 12, 13, 14, 15, 16, 17] (by decide +kernel) (by decide +kernel)
set_option maxRecDepth 20000 in
theorem gX8_kindle_X8_isDown : GoodIn wsX8_kindle (wsV RX8 50 RX8 yX8_isDown wsX8_isDown) := goodIn_app (goodIn_of _ (by decide +kernel)) ggX8_kindle_X8_isDown
theorem dX8_kindle_0 : decode cX8_kindle 0 = .ok (.aload_n 0, 1) := by decide +kernel
theorem dX8_kindle_1 : decode cX8_kindle 1 = .ok (.getfield 43, 3) := by decide +kernel
theorem dX8_kindle_4 : decode cX8_kindle 4 = .ok (.ifCond .ne 10, 3) := by decide +kernel
theorem dX8_kindle_7 : decode cX8_kindle 7 = .ok (.aload_n 0, 1) := by decide +kernel
theorem dX8_kindle_8 : decode cX8_kindle 8 = .ok (.invokevirtual 50, 3) := by decide +kernel
theorem dX8_kindle_11 : decode cX8_kindle 11 = .ok (.ifCond .eq 5, 3) := by decide +kernel
theorem dX8_kindle_14 : decode cX8_kindle 14 = .ok (.iconst 0, 1) := by decide +kernel
theorem dX8_kindle_15 : decode cX8_kindle 15 = .ok (.ireturn, 1) := by decide +kernel
theorem dX8_kindle_16 : decode cX8_kindle 16 = .ok (.aload_n 0, 1) := by decide +kernel
theorem dX8_kindle_17 : decode cX8_kindle 17 = .ok (.iconst 1, 1) := by decide +kernel
theorem dX8_kindle_18 : decode cX8_kindle 18 = .ok (.putfield 43, 3) := by decide +kernel
theorem dX8_kindle_21 : decode cX8_kindle 21 = .ok (.iconst 1, 1) := by decide +kernel
theorem dX8_kindle_22 : decode cX8_kindle 22 = .ok (.ireturn, 1) := by decide +kernel
/-! X8 kindle -/
def X8_kindle (st : MS) : Option (Int32 × MS) :=
    if (gF st 7) = 0 then
      (bnd (X8_isDown st) fun y_4 st_3 =>
      if y_4 = 0 then
        (gz (1 : Int32) <|
        nm (sF st_3 7 (1 : Int32)) fun st_7 =>
        gz (1 : Int32) <|
        some ((1 : Int32), st_7))
      else
      gz (0 : Int32) <|
      some ((0 : Int32), st_3))
    else
    gz (0 : Int32) <|
    some ((0 : Int32), st)
abbrev rmX8_kindle : Room := { frames := 1, cells := 0, slots := 0, locals := 20 }
theorem hdX8_kindle : yX8_kindle.cls = RX8 ∧ yX8_kindle.cls ≠ "java/lang/invoke/MethodHandle" ∧ yX8_kindle.cls ≠ "java/lang/invoke/VarHandle" ∧ (parseMethodDescriptor yX8_kindle.desc).map (fun d => d.parameters.length) = some 0 := by decide +kernel
set_option maxRecDepth 100000 in
set_option maxHeartbeats 4000000 in
theorem okX8_kindle (z : Nat → Nat) (l : Launch) (D : va_G) (a : Nat → Nat) (T : mT3) (fo : Nat → Option Nat) {st : MS} {r : Int32} {st' : MS} (heq : X8_kindle st = some (r, st')) : hCi z l D (cT T) yX8_kindle wsX8_kindle rmX8_kindle [.ref (a 0)] (tW a T fo st) r (tW a T fo st') := by
  refine h_body_i (plainFor_of_name (by decide)) rfl (Nat.le_of_ble_eq_true rfl) (fun p e s m args below meth c A Q hx hb hml hown hts hK hA hX hret ls hP hD hS hl => ?_)
  have hl : lv_has ls 1 [(0, .ref (a 0))] := hl
  have hin : ∀ w ∈ wsX80, w ∈ wsX8_kindle := fun w h => List.mem_cons_of_mem _ (List.mem_append_right _ h)
  have f43 : (Cond.fieldLink RX8 43 RX8 (TX8 7).2.1 (TX8 7).2.2.1).before args s = true := hts (.fieldLink RX8 43 RX8 "lit" "Z") (by decide +kernel)
  obtain ⟨H, hH⟩ : ∃ H, H = s.heap := ⟨_, rfl⟩
  obtain ⟨locs, hlocs⟩ : ∃ z : List Loc, z = [] := ⟨_, rfl⟩
  have hS : va_S A s.heap H locs := by rw [hH, hlocs]; exact hS
  have hP : va_P D vwCl (tW a T fo st) H := by rw [hH]; exact hP
  suffices h9 : W p l e rmX8_kindle s m args below meth c H locs 0 0 Q (F0 m 0 ls []) by rw [hH, hlocs] at h9; exact h9
  clear hH hlocs
  unfold X8_kindle at heq
  refine lv_aload_n hx hb dX8_kindle_0 rfl (lv_at hl 0 rfl) ?_
  refine tg (k := 7) (v := .int (gF st 7)) hx hb hts hin hown hK hP (by decide) f43 rfl dX8_kindle_1 rfl ?_
  refine lv_if_ne (tgt := 14) hx hb dX8_kindle_4 (by decide) (fun c_1 => ?_) (fun c_1 => ?_)
  · have heq := it_f c_1 heq
    refine lv_iconst (v := (0 : Int32)) hx hb dX8_kindle_14 (by decide) ?_
    obtain ⟨n_2, _, heq⟩ := gz_h heq
    obtain ⟨heq, heq2⟩ := ret_h heq
    subst heq
    subst heq2
    exact hret 15 H locs ls hP hD hS n_2 dX8_kindle_15
  have heq := it_t c_1 heq
  refine lv_aload_n hx hb dX8_kindle_7 rfl (lv_at hl 0 rfl) ?_
  obtain ⟨y_4, st_3, h_5, heq⟩ := bnd_h heq
  refine h_vi (own := RX8) (As := []) (rest := []) (wr := []) hx hb hml hown hts (okX8_isDown z l D a T fo h_5) (cwV 0 hts gX8_kindle_X8_isDown rfl rfl rfl hdX8_isDown ⟨Nat.le_of_ble_eq_true rfl, Nat.le_of_ble_eq_true rfl⟩) hK hA hX hP hD hS (perm_nil _) (perm_nil2 _) (ci := 8) (q0 := 0) rfl rfl rfl hl.1 rfl (Nat.le_of_ble_eq_true rfl) dX8_kindle_8 ⟨Nat.le_of_ble_eq_true rfl, Nat.le_of_ble_eq_true rfl⟩ (fun H locs hP hD hS => ?_)
  refine lv_if_eq (tgt := 16) hx hb dX8_kindle_11 (by decide) (fun c_6 => ?_) (fun c_6 => ?_)
  · have heq := it_t c_6 heq
    refine lv_aload_n hx hb dX8_kindle_16 rfl (lv_at hl 0 rfl) ?_
    refine lv_iconst (v := (1 : Int32)) hx hb dX8_kindle_17 (by decide) ?_
    obtain ⟨n_8, n_8f, heq⟩ := gz_h heq
    refine tp (k := 7) hx hb hts hin hown hK hP hD hS (by decide) f43 dX8_kindle_18 rfl rfl n_8 n_8f (tset_7 ..) (fun H locs hP hD hS => ?_)
    obtain ⟨st_7, est_7⟩ : ∃ z, z = sF st_3 7 (1 : Int32) := ⟨_, rfl⟩
    rw [← est_7] at hP hD
    have heq := nm_h est_7 heq
    refine lv_iconst (v := (1 : Int32)) hx hb dX8_kindle_21 (by decide) ?_
    obtain ⟨n_9, _, heq⟩ := gz_h heq
    obtain ⟨heq, heq2⟩ := ret_h heq
    subst heq
    subst heq2
    exact hret 22 H locs ls hP hD hS n_9 dX8_kindle_22
  have heq := it_f c_6 heq
  refine lv_iconst (v := (0 : Int32)) hx hb dX8_kindle_14 (by decide) ?_
  obtain ⟨n_10, _, heq⟩ := gz_h heq
  obtain ⟨heq, heq2⟩ := ret_h heq
  subst heq
  subst heq2
  exact hret 15 H locs ls hP hD hS n_10 dX8_kindle_15
set_option maxRecDepth 20000 in
theorem ggX8_passes_X8_isDown : GoodIn wsX8_passes wsX8_isDown := goodIn_r _ [8, 3, 35, 36, 37, 38, 39, 40, 41, 42, 43, 44] (by decide +kernel) (by decide +kernel)
set_option maxRecDepth 20000 in
theorem gX8_passes_X8_isDown : GoodIn wsX8_passes (wsV RX8 50 RX8 yX8_isDown wsX8_isDown) := goodIn_app (goodIn_of _ (by decide +kernel)) ggX8_passes_X8_isDown
set_option maxRecDepth 20000 in
theorem ggX8_passes_X8_fallSideAt : GoodIn wsX8_passes wsX8_fallSideAt := goodIn_r _ [12, 13, 14, 15, 7, 16, 17, 18, 19, 20, 21, 22, 23, 24, 25, 26, 27, 28, 29, 30, 31, 32, 33, 34, 35, 36, 37, 38, 39, 40, 41, 42, 43, 44] (by decide +kernel) (by decide +kernel)
set_option maxRecDepth 20000 in
theorem gX8_passes_X8_fallSideAt : GoodIn wsX8_passes (wsV RX8 54 RX8 yX8_fallSideAt wsX8_fallSideAt) := goodIn_app (goodIn_of _ (by decide +kernel)) ggX8_passes_X8_fallSideAt
theorem dX8_passes_0 : decode cX8_passes 0 = .ok (.iload_n 1, 1) := by decide +kernel
theorem dX8_passes_1 : decode cX8_passes 1 = .ok (.iconst 1, 1) := by decide +kernel
theorem dX8_passes_2 : decode cX8_passes 2 = .ok (.if_icmp .lt 29, 3) := by decide +kernel
theorem dX8_passes_5 : decode cX8_passes 5 = .ok (.aload_n 0, 1) := by decide +kernel
theorem dX8_passes_6 : decode cX8_passes 6 = .ok (.getfield 43, 3) := by decide +kernel
theorem dX8_passes_9 : decode cX8_passes 9 = .ok (.ifCond .eq 22, 3) := by decide +kernel
theorem dX8_passes_12 : decode cX8_passes 12 = .ok (.aload_n 0, 1) := by decide +kernel
theorem dX8_passes_13 : decode cX8_passes 13 = .ok (.invokevirtual 50, 3) := by decide +kernel
theorem dX8_passes_16 : decode cX8_passes 16 = .ok (.ifCond .ne 15, 3) := by decide +kernel
theorem dX8_passes_19 : decode cX8_passes 19 = .ok (.aload_n 0, 1) := by decide +kernel
theorem dX8_passes_20 : decode cX8_passes 20 = .ok (.getfield 47, 3) := by decide +kernel
theorem dX8_passes_23 : decode cX8_passes 23 = .ok (.iload_n 1, 1) := by decide +kernel
theorem dX8_passes_24 : decode cX8_passes 24 = .ok (.iadd, 1) := by decide +kernel
theorem dX8_passes_25 : decode cX8_passes 25 = .ok (.sipush 999, 3) := by decide +kernel
theorem dX8_passes_28 : decode cX8_passes 28 = .ok (.if_icmp .le 5, 3) := by decide +kernel
theorem dX8_passes_31 : decode cX8_passes 31 = .ok (.iconst 0, 1) := by decide +kernel
theorem dX8_passes_32 : decode cX8_passes 32 = .ok (.ireturn, 1) := by decide +kernel
theorem dX8_passes_33 : decode cX8_passes 33 = .ok (.iconst 0, 1) := by decide +kernel
theorem dX8_passes_34 : decode cX8_passes 34 = .ok (.istore_n 2, 1) := by decide +kernel
theorem dX8_passes_35 : decode cX8_passes 35 = .ok (.iload_n 2, 1) := by decide +kernel
theorem dX8_passes_36 : decode cX8_passes 36 = .ok (.iload_n 1, 1) := by decide +kernel
theorem dX8_passes_37 : decode cX8_passes 37 = .ok (.if_icmp .ge 38, 3) := by decide +kernel
theorem dX8_passes_40 : decode cX8_passes 40 = .ok (.aload_n 0, 1) := by decide +kernel
theorem dX8_passes_41 : decode cX8_passes 41 = .ok (.invokevirtual 50, 3) := by decide +kernel
theorem dX8_passes_44 : decode cX8_passes 44 = .ok (.ifCond .ne 31, 3) := by decide +kernel
theorem dX8_passes_47 : decode cX8_passes 47 = .ok (.aload_n 0, 1) := by decide +kernel
theorem dX8_passes_48 : decode cX8_passes 48 = .ok (.dup, 1) := by decide +kernel
theorem dX8_passes_49 : decode cX8_passes 49 = .ok (.getfield 47, 3) := by decide +kernel
theorem dX8_passes_52 : decode cX8_passes 52 = .ok (.iconst 1, 1) := by decide +kernel
theorem dX8_passes_53 : decode cX8_passes 53 = .ok (.iadd, 1) := by decide +kernel
theorem dX8_passes_54 : decode cX8_passes 54 = .ok (.putfield 47, 3) := by decide +kernel
theorem dX8_passes_57 : decode cX8_passes 57 = .ok (.aload_n 0, 1) := by decide +kernel
theorem dX8_passes_58 : decode cX8_passes 58 = .ok (.aload_n 0, 1) := by decide +kernel
theorem dX8_passes_59 : decode cX8_passes 59 = .ok (.aload_n 0, 1) := by decide +kernel
theorem dX8_passes_60 : decode cX8_passes 60 = .ok (.getfield 47, 3) := by decide +kernel
theorem dX8_passes_63 : decode cX8_passes 63 = .ok (.invokevirtual 54, 3) := by decide +kernel
theorem dX8_passes_66 : decode cX8_passes 66 = .ok (.putfield 36, 3) := by decide +kernel
theorem dX8_passes_69 : decode cX8_passes 69 = .ok (.iinc 2 1, 3) := by decide +kernel
theorem dX8_passes_72 : decode cX8_passes 72 = .ok (.goto (-37), 3) := by decide +kernel
theorem dX8_passes_75 : decode cX8_passes 75 = .ok (.iconst 1, 1) := by decide +kernel
theorem dX8_passes_76 : decode cX8_passes 76 = .ok (.ireturn, 1) := by decide +kernel
/-! X8 passes -/
def X8_passes_p35 : Nat → MS → Int32 → Int32 → Option (Int32 × MS)
  | 0, _, _, _ => none
  | n + 1, st, v1, v2 =>
    if v1 ≤ v2 then
      (gz (1 : Int32) <|
      some ((1 : Int32), st))
    else
    bnd (X8_isDown st) fun y_4 st_3 =>
    if y_4 = 0 then
      (nm (sF st_3 8 ((gF st_3 8) + (1 : Int32))) fun st_8 =>
      bnd (X8_fallSideAt st_8 (gF st_8 8)) fun y_10 st_9 =>
      nm (sF st_9 9 y_10) fun st_12 =>
      nm (v2 + (1 : Int32)) fun x_13 =>
      X8_passes_p35  n st_12 v1 x_13)
    else
    gz (1 : Int32) <|
    some ((1 : Int32), st_3)
theorem X8_passes_p35_s (n : Nat) (st : MS) (v1 : Int32) (v2 : Int32) : X8_passes_p35  (n + 1) st v1 v2 =
    (if v1 ≤ v2 then
      (gz (1 : Int32) <|
      some ((1 : Int32), st))
    else
    bnd (X8_isDown st) fun y_4 st_3 =>
    if y_4 = 0 then
      (nm (sF st_3 8 ((gF st_3 8) + (1 : Int32))) fun st_8 =>
      bnd (X8_fallSideAt st_8 (gF st_8 8)) fun y_10 st_9 =>
      nm (sF st_9 9 y_10) fun st_12 =>
      nm (v2 + (1 : Int32)) fun x_13 =>
      X8_passes_p35  n st_12 v1 x_13)
    else
    gz (1 : Int32) <|
    some ((1 : Int32), st_3)) := rfl
def X8_passes (st : MS) (v1 : Int32) : Option (Int32 × MS) :=
    if v1 < (1 : Int32) then
      (gz (0 : Int32) <|
      some ((0 : Int32), st))
    else
    if (gF st 7) = 0 then
      (gz (0 : Int32) <|
      some ((0 : Int32), st))
    else
    bnd (X8_isDown st) fun y_19 st_18 =>
    if y_19 = 0 then
      (if ((gF st_18 8) + v1) ≤ (999 : Int32) then
        (X8_passes_p35 5000 st_18 v1 (0 : Int32))
      else
      gz (0 : Int32) <|
      some ((0 : Int32), st_18))
    else
    gz (0 : Int32) <|
    some ((0 : Int32), st_18)
abbrev rmX8_passes : Room := { frames := 4, cells := 0, slots := 0, locals := 94 }
theorem hdX8_passes : yX8_passes.cls = RX8 ∧ yX8_passes.cls ≠ "java/lang/invoke/MethodHandle" ∧ yX8_passes.cls ≠ "java/lang/invoke/VarHandle" ∧ (parseMethodDescriptor yX8_passes.desc).map (fun d => d.parameters.length) = some 1 := by decide +kernel
set_option maxRecDepth 100000 in
set_option maxHeartbeats 4000000 in
theorem okX8_passes (z : Nat → Nat) (l : Launch) (D : va_G) (a : Nat → Nat) (T : mT3) (fo : Nat → Option Nat) {st : MS} {v1 : Int32} {r : Int32} {st' : MS} (heq : X8_passes st v1 = some (r, st')) : hCi z l D (cT T) yX8_passes wsX8_passes rmX8_passes [.ref (a 0), .int v1] (tW a T fo st) r (tW a T fo st') := by
  refine h_body_i (plainFor_of_name (by decide)) rfl (Nat.le_of_ble_eq_true rfl) (fun p e s m args below meth c A Q hx hb hml hown hts hK hA hX hret ls hP hD hS hl => ?_)
  have hl : lv_has ls 3 [(0, .ref (a 0)), (1, .int v1)] := hl
  have hin : ∀ w ∈ wsX80, w ∈ wsX8_passes := fun w h => List.mem_cons_of_mem _ (List.mem_append_right _ h)
  have f36 : (Cond.fieldLink RX8 36 RX8 (TX8 9).2.1 (TX8 9).2.2.1).before args s = true := hts (.fieldLink RX8 36 RX8 "fallenTo" "I") (by decide +kernel)
  have f43 : (Cond.fieldLink RX8 43 RX8 (TX8 7).2.1 (TX8 7).2.2.1).before args s = true := hts (.fieldLink RX8 43 RX8 "lit" "Z") (by decide +kernel)
  have f47 : (Cond.fieldLink RX8 47 RX8 (TX8 8).2.1 (TX8 8).2.2.1).before args s = true := hts (.fieldLink RX8 47 RX8 "minute" "I") (by decide +kernel)
  have b35 : ∀ (n : Nat), ∀ (st : MS) (v1 : Int32) (v2 : Int32) (H : Heap) (locs : List Loc) (ls : Array Slot), va_P D vwCl (tW a T fo st) H → va_D A (tW a T fo st) → va_S A s.heap H locs → lv_has ls 3 [(0, .ref (a 0)), (1, .int v1), (2, .int v2)] → X8_passes_p35  n st v1 v2 = some (r, st') → W p l e rmX8_passes s m args below meth c H locs 0 0 Q (F0 m 35 ls []) := by
    intro n
    induction n with
    | zero => intro st v1 v2 H locs ls hP hD hS hl heq; cases heq
    | succ n ih =>
      intro st v1 v2 H locs ls hP hD hS hl heq
      rw [X8_passes_p35_s] at heq
      refine lv_iload_n hx hb dX8_passes_35 rfl (lv_at hl 2 rfl) ?_
      refine lv_iload_n hx hb dX8_passes_36 rfl (lv_at hl 1 rfl) ?_
      refine lv_icmp_ge (tgt := 75) hx hb dX8_passes_37 (by decide) (fun c_1 => ?_) (fun c_1 => ?_)
      · have heq := it_t c_1 heq
        refine lv_iconst (v := (1 : Int32)) hx hb dX8_passes_75 (by decide) ?_
        obtain ⟨n_2, _, heq⟩ := gz_h heq
        obtain ⟨heq, heq2⟩ := ret_h heq
        subst heq
        subst heq2
        exact hret 76 H locs ls hP hD hS n_2 dX8_passes_76
      have heq := it_f c_1 heq
      refine lv_aload_n hx hb dX8_passes_40 rfl (lv_at hl 0 rfl) ?_
      obtain ⟨y_4, st_3, h_5, heq⟩ := bnd_h heq
      refine h_vi (own := RX8) (As := []) (rest := []) (wr := []) hx hb hml hown hts (okX8_isDown z l D a T fo h_5) (cwV 0 hts gX8_passes_X8_isDown rfl rfl rfl hdX8_isDown ⟨Nat.le_of_ble_eq_true rfl, Nat.le_of_ble_eq_true rfl⟩) hK hA hX hP hD hS (perm_nil _) (perm_nil2 _) (ci := 8) (q0 := 0) rfl rfl rfl hl.1 rfl (Nat.le_of_ble_eq_true rfl) dX8_passes_41 ⟨Nat.le_of_ble_eq_true rfl, Nat.le_of_ble_eq_true rfl⟩ (fun H locs hP hD hS => ?_)
      refine lv_if_ne (tgt := 75) hx hb dX8_passes_44 (by decide) (fun c_6 => ?_) (fun c_6 => ?_)
      · have heq := it_f c_6 heq
        refine lv_iconst (v := (1 : Int32)) hx hb dX8_passes_75 (by decide) ?_
        obtain ⟨n_7, _, heq⟩ := gz_h heq
        obtain ⟨heq, heq2⟩ := ret_h heq
        subst heq
        subst heq2
        exact hret 76 H locs ls hP hD hS n_7 dX8_passes_76
      have heq := it_t c_6 heq
      refine lv_aload_n hx hb dX8_passes_47 rfl (lv_at hl 0 rfl) ?_
      refine lv_dup hx hb dX8_passes_48 rfl ?_
      refine tg (k := 8) (v := .int (gF st_3 8)) hx hb hts hin hown hK hP (by decide) f47 rfl dX8_passes_49 rfl ?_
      refine lv_iconst (v := (1 : Int32)) hx hb dX8_passes_52 (by decide) ?_
      refine lv_iadd hx hb dX8_passes_53 ?_
      refine tp (k := 8) hx hb hts hin hown hK hP hD hS (by decide) f47 dX8_passes_54 rfl rfl rfl rfl (tset_8 ..) (fun H locs hP hD hS => ?_)
      obtain ⟨st_8, est_8⟩ : ∃ z, z = sF st_3 8 ((gF st_3 8) + (1 : Int32)) := ⟨_, rfl⟩
      rw [← est_8] at hP hD
      have heq := nm_h est_8 heq
      refine lv_aload_n hx hb dX8_passes_57 rfl (lv_at hl 0 rfl) ?_
      refine lv_aload_n hx hb dX8_passes_58 rfl (lv_at hl 0 rfl) ?_
      refine lv_aload_n hx hb dX8_passes_59 rfl (lv_at hl 0 rfl) ?_
      refine tg (k := 8) (v := .int (gF st_8 8)) hx hb hts hin hown hK hP (by decide) f47 rfl dX8_passes_60 rfl ?_
      obtain ⟨y_10, st_9, h_11, heq⟩ := bnd_h heq
      refine h_vi (own := RX8) (As := [.int (gF st_8 8)]) (rest := [.ref (a 0)]) (wr := []) hx hb hml hown hts (okX8_fallSideAt z l D a T fo h_11) (cwV 1 hts gX8_passes_X8_fallSideAt rfl rfl rfl hdX8_fallSideAt ⟨Nat.le_of_ble_eq_true rfl, Nat.le_of_ble_eq_true rfl⟩) hK hA hX hP hD hS (perm_nil _) (perm_nil2 _) (ci := 8) (q0 := 0) rfl rfl rfl hl.1 rfl (Nat.le_of_ble_eq_true rfl) dX8_passes_63 ⟨Nat.le_of_ble_eq_true rfl, Nat.le_of_ble_eq_true rfl⟩ (fun H locs hP hD hS => ?_)
      refine tp (k := 9) hx hb hts hin hown hK hP hD hS (by decide) f36 dX8_passes_66 rfl rfl rfl rfl (tset_9 ..) (fun H locs hP hD hS => ?_)
      obtain ⟨st_12, est_12⟩ : ∃ z, z = sF st_9 9 y_10 := ⟨_, rfl⟩
      rw [← est_12] at hP hD
      have heq := nm_h est_12 heq
      obtain ⟨x_13, ex_13⟩ : ∃ y : Int32, y = v2 + (1 : Int32) := ⟨_, rfl⟩
      have heq := nm_h ex_13 heq
      refine lv_iinc (v := x_13) (lv' := [(2, .int x_13), (0, .ref (a 0)), (1, .int v1)]) hx hb dX8_passes_69 hl (k := 2) rfl (by rw [ex_13]; rfl) (by decide) rfl (fun ls hl => ?_)
      refine lv_goto (tgt := 35) hx hb dX8_passes_72 (by decide) ?_
      exact ih st_12 v1 x_13 H locs ls hP hD hS (lv_sub hl [1, 2, 0] rfl) heq
  obtain ⟨H, hH⟩ : ∃ H, H = s.heap := ⟨_, rfl⟩
  obtain ⟨locs, hlocs⟩ : ∃ z : List Loc, z = [] := ⟨_, rfl⟩
  have hS : va_S A s.heap H locs := by rw [hH, hlocs]; exact hS
  have hP : va_P D vwCl (tW a T fo st) H := by rw [hH]; exact hP
  suffices h9 : W p l e rmX8_passes s m args below meth c H locs 0 0 Q (F0 m 0 ls []) by rw [hH, hlocs] at h9; exact h9
  clear hH hlocs
  unfold X8_passes at heq
  refine lv_iload_n hx hb dX8_passes_0 rfl (lv_at hl 1 rfl) ?_
  refine lv_iconst (v := (1 : Int32)) hx hb dX8_passes_1 (by decide) ?_
  refine lv_icmp_lt (tgt := 31) hx hb dX8_passes_2 (by decide) (fun c_14 => ?_) (fun c_14 => ?_)
  · have heq := it_t c_14 heq
    refine lv_iconst (v := (0 : Int32)) hx hb dX8_passes_31 (by decide) ?_
    obtain ⟨n_15, _, heq⟩ := gz_h heq
    obtain ⟨heq, heq2⟩ := ret_h heq
    subst heq
    subst heq2
    exact hret 32 H locs ls hP hD hS n_15 dX8_passes_32
  have heq := it_f c_14 heq
  refine lv_aload_n hx hb dX8_passes_5 rfl (lv_at hl 0 rfl) ?_
  refine tg (k := 7) (v := .int (gF st 7)) hx hb hts hin hown hK hP (by decide) f43 rfl dX8_passes_6 rfl ?_
  refine lv_if_eq (tgt := 31) hx hb dX8_passes_9 (by decide) (fun c_16 => ?_) (fun c_16 => ?_)
  · have heq := it_t c_16 heq
    refine lv_iconst (v := (0 : Int32)) hx hb dX8_passes_31 (by decide) ?_
    obtain ⟨n_17, _, heq⟩ := gz_h heq
    obtain ⟨heq, heq2⟩ := ret_h heq
    subst heq
    subst heq2
    exact hret 32 H locs ls hP hD hS n_17 dX8_passes_32
  have heq := it_f c_16 heq
  refine lv_aload_n hx hb dX8_passes_12 rfl (lv_at hl 0 rfl) ?_
  obtain ⟨y_19, st_18, h_20, heq⟩ := bnd_h heq
  refine h_vi (own := RX8) (As := []) (rest := []) (wr := []) hx hb hml hown hts (okX8_isDown z l D a T fo h_20) (cwV 0 hts gX8_passes_X8_isDown rfl rfl rfl hdX8_isDown ⟨Nat.le_of_ble_eq_true rfl, Nat.le_of_ble_eq_true rfl⟩) hK hA hX hP hD hS (perm_nil _) (perm_nil2 _) (ci := 8) (q0 := 0) rfl rfl rfl hl.1 rfl (Nat.le_of_ble_eq_true rfl) dX8_passes_13 ⟨Nat.le_of_ble_eq_true rfl, Nat.le_of_ble_eq_true rfl⟩ (fun H locs hP hD hS => ?_)
  refine lv_if_ne (tgt := 31) hx hb dX8_passes_16 (by decide) (fun c_21 => ?_) (fun c_21 => ?_)
  · have heq := it_f c_21 heq
    refine lv_iconst (v := (0 : Int32)) hx hb dX8_passes_31 (by decide) ?_
    obtain ⟨n_22, _, heq⟩ := gz_h heq
    obtain ⟨heq, heq2⟩ := ret_h heq
    subst heq
    subst heq2
    exact hret 32 H locs ls hP hD hS n_22 dX8_passes_32
  have heq := it_t c_21 heq
  refine lv_aload_n hx hb dX8_passes_19 rfl (lv_at hl 0 rfl) ?_
  refine tg (k := 8) (v := .int (gF st_18 8)) hx hb hts hin hown hK hP (by decide) f47 rfl dX8_passes_20 rfl ?_
  refine lv_iload_n hx hb dX8_passes_23 rfl (lv_at hl 1 rfl) ?_
  refine lv_iadd hx hb dX8_passes_24 ?_
  refine lv_sipush (v := (999 : Int32)) hx hb dX8_passes_25 (by decide) ?_
  refine lv_icmp_le (tgt := 33) hx hb dX8_passes_28 (by decide) (fun c_23 => ?_) (fun c_23 => ?_)
  · have heq := it_t c_23 heq
    refine lv_iconst (v := (0 : Int32)) hx hb dX8_passes_33 (by decide) ?_
    refine lv_istore_n (lv' := [(2, .int (0 : Int32)), (0, .ref (a 0)), (1, .int v1)]) hx hb dX8_passes_34 rfl hl (by decide) rfl (fun ls hl => ?_)
    exact b35 5000 st_18 v1 (0 : Int32) H locs ls hP hD hS (lv_sub hl [1, 2, 0] rfl) heq
  have heq := it_f c_23 heq
  refine lv_iconst (v := (0 : Int32)) hx hb dX8_passes_31 (by decide) ?_
  obtain ⟨n_24, _, heq⟩ := gz_h heq
  obtain ⟨heq, heq2⟩ := ret_h heq
  subst heq
  subst heq2
  exact hret 32 H locs ls hP hD hS n_24 dX8_passes_32
set_option maxRecDepth 20000 in
theorem ggX8_weakestSide_X8_lackOn : GoodIn wsX8_weakestSide wsX8_lackOn := goodIn_r _ [6, 7, 8, 9, 5, 10, 11, 12, 13, 14, 15, 16, 17, 18, 19, 20, 21, 22, 23, 24, 25, 26, 27, 28, 29, 30, 31, 32, 33, 34] (by decide +kernel) (by decide +kernel)
set_option maxRecDepth 20000 in
theorem gX8_weakestSide_X8_lackOn : GoodIn wsX8_weakestSide (wsV RX8 94 RX8 yX8_lackOn wsX8_lackOn) := goodIn_app (goodIn_of _ (by decide +kernel)) ggX8_weakestSide_X8_lackOn
theorem dX8_weakestSide_0 : decode cX8_weakestSide 0 = .ok (.iconst 0, 1) := by decide +kernel
theorem dX8_weakestSide_1 : decode cX8_weakestSide 1 = .ok (.istore_n 1, 1) := by decide +kernel
theorem dX8_weakestSide_2 : decode cX8_weakestSide 2 = .ok (.aload_n 0, 1) := by decide +kernel
theorem dX8_weakestSide_3 : decode cX8_weakestSide 3 = .ok (.iconst 0, 1) := by decide +kernel
theorem dX8_weakestSide_4 : decode cX8_weakestSide 4 = .ok (.aload_n 0, 1) := by decide +kernel
theorem dX8_weakestSide_5 : decode cX8_weakestSide 5 = .ok (.getfield 47, 3) := by decide +kernel
theorem dX8_weakestSide_8 : decode cX8_weakestSide 8 = .ok (.invokevirtual 94, 3) := by decide +kernel
theorem dX8_weakestSide_11 : decode cX8_weakestSide 11 = .ok (.istore_n 2, 1) := by decide +kernel
theorem dX8_weakestSide_12 : decode cX8_weakestSide 12 = .ok (.iconst 1, 1) := by decide +kernel
theorem dX8_weakestSide_13 : decode cX8_weakestSide 13 = .ok (.istore_n 3, 1) := by decide +kernel
theorem dX8_weakestSide_14 : decode cX8_weakestSide 14 = .ok (.iload_n 3, 1) := by decide +kernel
theorem dX8_weakestSide_15 : decode cX8_weakestSide 15 = .ok (.bipush 12, 2) := by decide +kernel
theorem dX8_weakestSide_17 : decode cX8_weakestSide 17 = .ok (.if_icmp .ge 31, 3) := by decide +kernel
theorem dX8_weakestSide_20 : decode cX8_weakestSide 20 = .ok (.aload_n 0, 1) := by decide +kernel
theorem dX8_weakestSide_21 : decode cX8_weakestSide 21 = .ok (.iload_n 3, 1) := by decide +kernel
theorem dX8_weakestSide_22 : decode cX8_weakestSide 22 = .ok (.aload_n 0, 1) := by decide +kernel
theorem dX8_weakestSide_23 : decode cX8_weakestSide 23 = .ok (.getfield 47, 3) := by decide +kernel
theorem dX8_weakestSide_26 : decode cX8_weakestSide 26 = .ok (.invokevirtual 94, 3) := by decide +kernel
theorem dX8_weakestSide_29 : decode cX8_weakestSide 29 = .ok (.istore 4, 2) := by decide +kernel
theorem dX8_weakestSide_31 : decode cX8_weakestSide 31 = .ok (.iload 4, 2) := by decide +kernel
theorem dX8_weakestSide_33 : decode cX8_weakestSide 33 = .ok (.iload_n 2, 1) := by decide +kernel
theorem dX8_weakestSide_34 : decode cX8_weakestSide 34 = .ok (.if_icmp .le 8, 3) := by decide +kernel
theorem dX8_weakestSide_37 : decode cX8_weakestSide 37 = .ok (.iload 4, 2) := by decide +kernel
theorem dX8_weakestSide_39 : decode cX8_weakestSide 39 = .ok (.istore_n 2, 1) := by decide +kernel
theorem dX8_weakestSide_40 : decode cX8_weakestSide 40 = .ok (.iload_n 3, 1) := by decide +kernel
theorem dX8_weakestSide_41 : decode cX8_weakestSide 41 = .ok (.istore_n 1, 1) := by decide +kernel
theorem dX8_weakestSide_42 : decode cX8_weakestSide 42 = .ok (.iinc 3 1, 3) := by decide +kernel
theorem dX8_weakestSide_45 : decode cX8_weakestSide 45 = .ok (.goto (-31), 3) := by decide +kernel
theorem dX8_weakestSide_48 : decode cX8_weakestSide 48 = .ok (.iload_n 1, 1) := by decide +kernel
theorem dX8_weakestSide_49 : decode cX8_weakestSide 49 = .ok (.ireturn, 1) := by decide +kernel
/-! X8 weakestSide -/
def X8_weakestSide_p42 (k14 : MS → Int32 → Int32 → Int32 → Option (Int32 × MS)) (st : MS) (v1 : Int32) (v2 : Int32) (v3 : Int32) : Option (Int32 × MS) :=
    nm (v3 + (1 : Int32)) fun x_1 =>
    k14 st v1 v2 x_1
def X8_weakestSide_p48 (st : MS) (v1 : Int32) : Option (Int32 × MS) :=
    some (v1, st)
def X8_weakestSide_p14 : Nat → MS → Int32 → Int32 → Int32 → Option (Int32 × MS)
  | 0, _, _, _, _ => none
  | n + 1, st, v1, v2, v3 =>
    if (12 : Int32) ≤ v3 then
      (X8_weakestSide_p48 st v1)
    else
    bnd (X8_lackOn st v3 (gF st 8)) fun y_4 st_3 =>
    if y_4 ≤ v2 then
      (X8_weakestSide_p42 (fun st v1 v2 v3 => X8_weakestSide_p14  n st v1 v2 v3) st_3 v1 v2 v3)
    else
    X8_weakestSide_p42 (fun st v1 v2 v3 => X8_weakestSide_p14  n st v1 v2 v3) st_3 v3 y_4 v3
theorem X8_weakestSide_p14_s (n : Nat) (st : MS) (v1 : Int32) (v2 : Int32) (v3 : Int32) : X8_weakestSide_p14  (n + 1) st v1 v2 v3 =
    (if (12 : Int32) ≤ v3 then
      (X8_weakestSide_p48 st v1)
    else
    bnd (X8_lackOn st v3 (gF st 8)) fun y_4 st_3 =>
    if y_4 ≤ v2 then
      (X8_weakestSide_p42 (fun st v1 v2 v3 => X8_weakestSide_p14  n st v1 v2 v3) st_3 v1 v2 v3)
    else
    X8_weakestSide_p42 (fun st v1 v2 v3 => X8_weakestSide_p14  n st v1 v2 v3) st_3 v3 y_4 v3) := rfl
def X8_weakestSide (st : MS) : Option (Int32 × MS) :=
    bnd (X8_lackOn st (0 : Int32) (gF st 8)) fun y_8 st_7 =>
    X8_weakestSide_p14 13 st_7 (0 : Int32) y_8 (1 : Int32)
abbrev rmX8_weakestSide : Room := { frames := 3, cells := 0, slots := 0, locals := 69 }
theorem hdX8_weakestSide : yX8_weakestSide.cls = RX8 ∧ yX8_weakestSide.cls ≠ "java/lang/invoke/MethodHandle" ∧ yX8_weakestSide.cls ≠ "java/lang/invoke/VarHandle" ∧ (parseMethodDescriptor yX8_weakestSide.desc).map (fun d => d.parameters.length) = some 0 := by decide +kernel
set_option maxRecDepth 100000 in
set_option maxHeartbeats 4000000 in
theorem okX8_weakestSide (z : Nat → Nat) (l : Launch) (D : va_G) (a : Nat → Nat) (T : mT3) (fo : Nat → Option Nat) {st : MS} {r : Int32} {st' : MS} (heq : X8_weakestSide st = some (r, st')) : hCi z l D (cT T) yX8_weakestSide wsX8_weakestSide rmX8_weakestSide [.ref (a 0)] (tW a T fo st) r (tW a T fo st') := by
  refine h_body_i (plainFor_of_name (by decide)) rfl (Nat.le_of_ble_eq_true rfl) (fun p e s m args below meth c A Q hx hb hml hown hts hK hA hX hret ls hP hD hS hl => ?_)
  have hl : lv_has ls 5 [(0, .ref (a 0))] := hl
  have hin : ∀ w ∈ wsX80, w ∈ wsX8_weakestSide := fun w h => List.mem_cons_of_mem _ (List.mem_append_right _ h)
  have f47 : (Cond.fieldLink RX8 47 RX8 (TX8 8).2.1 (TX8 8).2.2.1).before args s = true := hts (.fieldLink RX8 47 RX8 "minute" "I") (by decide +kernel)
  have b42 : ∀ (k14 : MS → Int32 → Int32 → Int32 → Option (Int32 × MS)) (hk14 : ∀ (st : MS) (v1 : Int32) (v2 : Int32) (v3 : Int32) (H : Heap) (locs : List Loc) (ls : Array Slot), va_P D vwCl (tW a T fo st) H → va_D A (tW a T fo st) → va_S A s.heap H locs → lv_has ls 5 [(0, .ref (a 0)), (1, .int v1), (2, .int v2), (3, .int v3)] → k14 st v1 v2 v3 = some (r, st') → W p l e rmX8_weakestSide s m args below meth c H locs 0 0 Q (F0 m 14 ls [])), ∀ (st : MS) (v1 : Int32) (v2 : Int32) (v3 : Int32) (H : Heap) (locs : List Loc) (ls : Array Slot), va_P D vwCl (tW a T fo st) H → va_D A (tW a T fo st) → va_S A s.heap H locs → lv_has ls 5 [(0, .ref (a 0)), (1, .int v1), (2, .int v2), (3, .int v3)] → X8_weakestSide_p42 k14 st v1 v2 v3 = some (r, st') → W p l e rmX8_weakestSide s m args below meth c H locs 0 0 Q (F0 m 42 ls []) := by
    intro k14 hk14 st v1 v2 v3 H locs ls hP hD hS hl heq
    unfold X8_weakestSide_p42 at heq
    obtain ⟨x_1, ex_1⟩ : ∃ y : Int32, y = v3 + (1 : Int32) := ⟨_, rfl⟩
    have heq := nm_h ex_1 heq
    refine lv_iinc (v := x_1) (lv' := [(3, .int x_1), (0, .ref (a 0)), (1, .int v1), (2, .int v2)]) hx hb dX8_weakestSide_42 hl (k := 3) rfl (by rw [ex_1]; rfl) (by decide) rfl (fun ls hl => ?_)
    refine lv_goto (tgt := 14) hx hb dX8_weakestSide_45 (by decide) ?_
    exact hk14 st v1 v2 x_1 H locs ls hP hD hS (lv_sub hl [1, 2, 3, 0] rfl) heq
  have b48 : ∀ (st : MS) (v1 : Int32) (H : Heap) (locs : List Loc) (ls : Array Slot), va_P D vwCl (tW a T fo st) H → va_D A (tW a T fo st) → va_S A s.heap H locs → lv_has ls 5 [(1, .int v1)] → X8_weakestSide_p48  st v1 = some (r, st') → W p l e rmX8_weakestSide s m args below meth c H locs 0 0 Q (F0 m 48 ls []) := by
    intro st v1 H locs ls hP hD hS hl heq
    unfold X8_weakestSide_p48 at heq
    refine lv_iload_n hx hb dX8_weakestSide_48 rfl (lv_at hl 0 rfl) ?_
    obtain ⟨heq, heq2⟩ := ret_h heq
    subst heq
    subst heq2
    exact hret 49 H locs ls hP hD hS rfl dX8_weakestSide_49
  have b14 : ∀ (n : Nat), ∀ (st : MS) (v1 : Int32) (v2 : Int32) (v3 : Int32) (H : Heap) (locs : List Loc) (ls : Array Slot), va_P D vwCl (tW a T fo st) H → va_D A (tW a T fo st) → va_S A s.heap H locs → lv_has ls 5 [(0, .ref (a 0)), (1, .int v1), (2, .int v2), (3, .int v3)] → X8_weakestSide_p14  n st v1 v2 v3 = some (r, st') → W p l e rmX8_weakestSide s m args below meth c H locs 0 0 Q (F0 m 14 ls []) := by
    intro n
    induction n with
    | zero => intro st v1 v2 v3 H locs ls hP hD hS hl heq; cases heq
    | succ n ih =>
      intro st v1 v2 v3 H locs ls hP hD hS hl heq
      rw [X8_weakestSide_p14_s] at heq
      refine lv_iload_n hx hb dX8_weakestSide_14 rfl (lv_at hl 3 rfl) ?_
      refine lv_bipush (v := (12 : Int32)) hx hb dX8_weakestSide_15 (by decide) ?_
      refine lv_icmp_ge (tgt := 48) hx hb dX8_weakestSide_17 (by decide) (fun c_2 => ?_) (fun c_2 => ?_)
      · have heq := it_t c_2 heq
        exact b48 st v1 H locs ls hP hD hS (lv_sub hl [1] rfl) heq
      have heq := it_f c_2 heq
      refine lv_aload_n hx hb dX8_weakestSide_20 rfl (lv_at hl 0 rfl) ?_
      refine lv_iload_n hx hb dX8_weakestSide_21 rfl (lv_at hl 3 rfl) ?_
      refine lv_aload_n hx hb dX8_weakestSide_22 rfl (lv_at hl 0 rfl) ?_
      refine tg (k := 8) (v := .int (gF st 8)) hx hb hts hin hown hK hP (by decide) f47 rfl dX8_weakestSide_23 rfl ?_
      obtain ⟨y_4, st_3, h_5, heq⟩ := bnd_h heq
      refine h_vi (own := RX8) (As := [.int v3, .int (gF st 8)]) (rest := []) (wr := []) hx hb hml hown hts (okX8_lackOn z l D a T fo h_5) (cwV 2 hts gX8_weakestSide_X8_lackOn rfl rfl rfl hdX8_lackOn ⟨Nat.le_of_ble_eq_true rfl, Nat.le_of_ble_eq_true rfl⟩) hK hA hX hP hD hS (perm_nil _) (perm_nil2 _) (ci := 8) (q0 := 0) rfl rfl rfl hl.1 rfl (Nat.le_of_ble_eq_true rfl) dX8_weakestSide_26 ⟨Nat.le_of_ble_eq_true rfl, Nat.le_of_ble_eq_true rfl⟩ (fun H locs hP hD hS => ?_)
      refine lv_istore (lv' := [(4, .int y_4), (0, .ref (a 0)), (1, .int v1), (2, .int v2), (3, .int v3)]) hx hb dX8_weakestSide_29 hl (by decide) rfl (fun ls hl => ?_)
      refine lv_iload hx hb dX8_weakestSide_31 (lv_at hl 0 rfl) ?_
      refine lv_iload_n hx hb dX8_weakestSide_33 rfl (lv_at hl 3 rfl) ?_
      refine lv_icmp_le (tgt := 42) hx hb dX8_weakestSide_34 (by decide) (fun c_6 => ?_) (fun c_6 => ?_)
      · have heq := it_t c_6 heq
        exact b42 (fun st v1 v2 v3 => X8_weakestSide_p14  n st v1 v2 v3) ih st_3 v1 v2 v3 H locs ls hP hD hS (lv_sub hl [1, 2, 3, 4] rfl) heq
      have heq := it_f c_6 heq
      refine lv_iload hx hb dX8_weakestSide_37 (lv_at hl 0 rfl) ?_
      refine lv_istore_n (lv' := [(2, .int y_4), (4, .int y_4), (0, .ref (a 0)), (1, .int v1), (3, .int v3)]) hx hb dX8_weakestSide_39 rfl hl (by decide) rfl (fun ls hl => ?_)
      refine lv_iload_n hx hb dX8_weakestSide_40 rfl (lv_at hl 4 rfl) ?_
      refine lv_istore_n (lv' := [(1, .int v3), (2, .int y_4), (4, .int y_4), (0, .ref (a 0)), (3, .int v3)]) hx hb dX8_weakestSide_41 rfl hl (by decide) rfl (fun ls hl => ?_)
      exact b42 (fun st v1 v2 v3 => X8_weakestSide_p14  n st v1 v2 v3) ih st_3 v3 y_4 v3 H locs ls hP hD hS (lv_sub hl [3, 0, 1, 4] rfl) heq
  obtain ⟨H, hH⟩ : ∃ H, H = s.heap := ⟨_, rfl⟩
  obtain ⟨locs, hlocs⟩ : ∃ z : List Loc, z = [] := ⟨_, rfl⟩
  have hS : va_S A s.heap H locs := by rw [hH, hlocs]; exact hS
  have hP : va_P D vwCl (tW a T fo st) H := by rw [hH]; exact hP
  suffices h9 : W p l e rmX8_weakestSide s m args below meth c H locs 0 0 Q (F0 m 0 ls []) by rw [hH, hlocs] at h9; exact h9
  clear hH hlocs
  unfold X8_weakestSide at heq
  refine lv_iconst (v := (0 : Int32)) hx hb dX8_weakestSide_0 (by decide) ?_
  refine lv_istore_n (lv' := [(1, .int (0 : Int32)), (0, .ref (a 0))]) hx hb dX8_weakestSide_1 rfl hl (by decide) rfl (fun ls hl => ?_)
  refine lv_aload_n hx hb dX8_weakestSide_2 rfl (lv_at hl 1 rfl) ?_
  refine lv_iconst (v := (0 : Int32)) hx hb dX8_weakestSide_3 (by decide) ?_
  refine lv_aload_n hx hb dX8_weakestSide_4 rfl (lv_at hl 1 rfl) ?_
  refine tg (k := 8) (v := .int (gF st 8)) hx hb hts hin hown hK hP (by decide) f47 rfl dX8_weakestSide_5 rfl ?_
  obtain ⟨y_8, st_7, h_9, heq⟩ := bnd_h heq
  refine h_vi (own := RX8) (As := [.int (0 : Int32), .int (gF st 8)]) (rest := []) (wr := []) hx hb hml hown hts (okX8_lackOn z l D a T fo h_9) (cwV 2 hts gX8_weakestSide_X8_lackOn rfl rfl rfl hdX8_lackOn ⟨Nat.le_of_ble_eq_true rfl, Nat.le_of_ble_eq_true rfl⟩) hK hA hX hP hD hS (perm_nil _) (perm_nil2 _) (ci := 8) (q0 := 0) rfl rfl rfl hl.1 rfl (Nat.le_of_ble_eq_true rfl) dX8_weakestSide_8 ⟨Nat.le_of_ble_eq_true rfl, Nat.le_of_ble_eq_true rfl⟩ (fun H locs hP hD hS => ?_)
  refine lv_istore_n (lv' := [(2, .int y_8), (1, .int (0 : Int32)), (0, .ref (a 0))]) hx hb dX8_weakestSide_11 rfl hl (by decide) rfl (fun ls hl => ?_)
  refine lv_iconst (v := (1 : Int32)) hx hb dX8_weakestSide_12 (by decide) ?_
  refine lv_istore_n (lv' := [(3, .int (1 : Int32)), (2, .int y_8), (1, .int (0 : Int32)), (0, .ref (a 0))]) hx hb dX8_weakestSide_13 rfl hl (by decide) rfl (fun ls hl => ?_)
  exact b14 13 st_7 (0 : Int32) y_8 (1 : Int32) H locs ls hP hD hS (lv_sub hl [3, 2, 1, 0] rfl) heq
