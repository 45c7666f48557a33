theorem dX11_breaks_0 : decode cX11_breaks 0 = .ok (.aload_n 0, 1) := by decide +kernel
theorem dX11_breaks_1 : decode cX11_breaks 1 = .ok (.getfield 93, 3) := by decide +kernel
theorem dX11_breaks_4 : decode cX11_breaks 4 = .ok (.bipush 10, 2) := by decide +kernel
theorem dX11_breaks_6 : decode cX11_breaks 6 = .ok (.if_icmp .ge 14, 3) := by decide +kernel
theorem dX11_breaks_9 : decode cX11_breaks 9 = .ok (.aload_n 0, 1) := by decide +kernel
theorem dX11_breaks_10 : decode cX11_breaks 10 = .ok (.getfield 22, 3) := by decide +kernel
theorem dX11_breaks_13 : decode cX11_breaks 13 = .ok (.iconst 3, 1) := by decide +kernel
theorem dX11_breaks_14 : decode cX11_breaks 14 = .ok (.iaload, 1) := by decide +kernel
theorem dX11_breaks_15 : decode cX11_breaks 15 = .ok (.bipush 10, 2) := by decide +kernel
theorem dX11_breaks_17 : decode cX11_breaks 17 = .ok (.if_icmp .lt 7, 3) := by decide +kernel
theorem dX11_breaks_20 : decode cX11_breaks 20 = .ok (.iconst 1, 1) := by decide +kernel
theorem dX11_breaks_21 : decode cX11_breaks 21 = .ok (.goto 4, 3) := by decide +kernel
theorem dX11_breaks_24 : decode cX11_breaks 24 = .ok (.iconst 0, 1) := by decide +kernel
theorem dX11_breaks_25 : decode cX11_breaks 25 = .ok (.ireturn, 1) := by decide +kernel
/-! breaks -/
def X11_breaks_p25 (st : MS) (t0 : Int32) : Option (Int32 × MS) :=
    gz t0 <|
    some (t0, st)
def X11_breaks_p20 (st : MS) : Option (Int32 × MS) :=
    X11_breaks_p25 st (1 : Int32)
def X11_breaks (st : MS) : Option (Int32 × MS) :=
    if (10 : Int32) ≤ (gF st 6) then
      (X11_breaks_p20 st)
    else
    inr (3 : Int32) 7 <|
    if (gA st 4 (3 : Int32).toNatClampNeg) < (10 : Int32) then
      (X11_breaks_p25 st (0 : Int32))
    else
    X11_breaks_p20 st
abbrev rmX11_breaks : Room := { frames := 0, cells := 0, slots := 0, locals := 0 }
theorem hdX11_breaks : yX11_breaks.cls = RX11 ∧ yX11_breaks.cls ≠ "java/lang/invoke/MethodHandle" ∧ yX11_breaks.cls ≠ "java/lang/invoke/VarHandle" ∧ (parseMethodDescriptor yX11_breaks.desc).map (fun d => d.parameters.length) = some 0 := by decide +kernel
set_option maxRecDepth 100000 in
set_option maxHeartbeats 4000000 in
theorem okX11_breaks (l : Launch) (D : va_G) (a : Nat → Nat) (T : mT3) {st : MS} {r : Int32} {st' : MS} (heq : X11_breaks st = some (r, st')) : gCi l D (mT T) yX11_breaks wsX11_breaks rmX11_breaks [.ref (a 0)] (mW a T st) r (mW a T st') := by
  refine g_body_i (by decide) rfl (Nat.le_of_ble_eq_true rfl) (fun p e s m args below meth c A Q hx hb hml hown hts hK hA hret ls hP hD hS hl => ?_)
  have hl : lv_has ls 1 [(0, .ref (a 0))] := hl
  have hin : ∀ w ∈ wsX110, w ∈ wsX11_breaks := fun w h => List.mem_cons_of_mem _ (List.mem_append_right _ h)
  have f22 : (Cond.fieldLink RX11 22 RX11 (TX11 4).2.1 (TX11 4).2.2.1).before args s = true := hts (.fieldLink RX11 22 "LaidDownTheLaneModel" "settings" "[I") (by decide +kernel)
  have f93 : (Cond.fieldLink RX11 93 RX11 (TX11 6).2.1 (TX11 6).2.2.1).before args s = true := hts (.fieldLink RX11 93 "LaidDownTheLaneModel" "minute" "I") (by decide +kernel)
  have b25 : ∀ (st : MS) (t0 : Int32) (H : Heap) (locs : List Loc) (ls : Array Slot), va_P D vwCl (mW a T st) H → va_D A (mW a T st) → va_S A s.heap H locs → lv_has ls 1 [] → X11_breaks_p25  st t0 = some (r, st') → W p l e rmX11_breaks s m args below meth c H locs 0 0 Q (F0 m 25 ls [.int t0]) := by
    intro st t0 H locs ls hP hD hS hl heq
    unfold X11_breaks_p25 at heq
    obtain ⟨n_1, _, heq⟩ := gz_h heq
    obtain ⟨heq, heq2⟩ := ret_h heq
    subst heq
    subst heq2
    exact hret 25 H locs ls hP hD hS n_1 dX11_breaks_25
  have b20 : ∀ (st : MS) (H : Heap) (locs : List Loc) (ls : Array Slot), va_P D vwCl (mW a T st) H → va_D A (mW a T st) → va_S A s.heap H locs → lv_has ls 1 [] → X11_breaks_p20  st = some (r, st') → W p l e rmX11_breaks s m args below meth c H locs 0 0 Q (F0 m 20 ls []) := by
    intro st H locs ls hP hD hS hl heq
    unfold X11_breaks_p20 at heq
    refine lv_iconst (v := (1 : Int32)) hx hb dX11_breaks_20 (by decide) ?_
    refine lv_goto (tgt := 25) hx hb dX11_breaks_21 (by decide) ?_
    exact b25 st (1 : Int32) H locs ls hP hD hS (lv_sub hl [] rfl) heq
  obtain ⟨H, hH⟩ : ∃ H, H = s.heap := ⟨_, rfl⟩
  obtain ⟨locs, hlocs⟩ : ∃ z : List Loc, z = [] := ⟨_, rfl⟩
  have hS : va_S A s.heap H locs := by rw [hH, hlocs]; exact hS
  have hP : va_P D vwCl (mW a T st) H := by rw [hH]; exact hP
  suffices h9 : W p l e rmX11_breaks s m args below meth c H locs 0 0 Q (F0 m 0 ls []) by rw [hH, hlocs] at h9; exact h9
  clear hH hlocs
  unfold X11_breaks at heq
  refine lv_aload_n hx hb dX11_breaks_0 rfl (lv_at hl 0 rfl) ?_
  refine mg (k := 6) (v := .int (gF st 6)) hx hb hts hin hown hK hP (by decide) f93 rfl dX11_breaks_1 rfl ?_
  refine lv_bipush (v := (10 : Int32)) hx hb dX11_breaks_4 (by decide) ?_
  refine lv_icmp_ge (tgt := 20) hx hb dX11_breaks_6 (by decide) (fun c_2 => ?_) (fun c_2 => ?_)
  · have heq := it_t c_2 heq
    exact b20 st H locs ls hP hD hS (lv_sub hl [] rfl) heq
  have heq := it_f c_2 heq
  refine lv_aload_n hx hb dX11_breaks_9 rfl (lv_at hl 0 rfl) ?_
  refine mg (k := 4) (v := .ref (a 5)) hx hb hts hin hown hK hP (by decide) f22 rfl dX11_breaks_10 rfl ?_
  refine lv_iconst (v := (3 : Int32)) hx hb dX11_breaks_13 (by decide) ?_
  obtain ⟨n_3, heq⟩ := inr_h heq
  refine mal (k := 4) (q := 5) (n := 7) hx hb hK hP rfl n_3 dX11_breaks_14 ?_
  refine lv_bipush (v := (10 : Int32)) hx hb dX11_breaks_15 (by decide) ?_
  refine lv_icmp_lt (tgt := 24) hx hb dX11_breaks_17 (by decide) (fun c_4 => ?_) (fun c_4 => ?_)
  · have heq := it_t c_4 heq
    refine lv_iconst (v := (0 : Int32)) hx hb dX11_breaks_24 (by decide) ?_
    exact b25 st (0 : Int32) H locs ls hP hD hS (lv_sub hl [] rfl) heq
  have heq := it_f c_4 heq
  exact b20 st H locs ls hP hD hS (lv_sub hl [] rfl) heq
theorem dX11_topSide_0 : decode cX11_topSide 0 = .ok (.aload_n 0, 1) := by decide +kernel
theorem dX11_topSide_1 : decode cX11_topSide 1 = .ok (.getfield 22, 3) := by decide +kernel
theorem dX11_topSide_4 : decode cX11_topSide 4 = .ok (.iconst 2, 1) := by decide +kernel
theorem dX11_topSide_5 : decode cX11_topSide 5 = .ok (.iaload, 1) := by decide +kernel
theorem dX11_topSide_6 : decode cX11_topSide 6 = .ok (.iload_n 1, 1) := by decide +kernel
theorem dX11_topSide_7 : decode cX11_topSide 7 = .ok (.isub, 1) := by decide +kernel
theorem dX11_topSide_8 : decode cX11_topSide 8 = .ok (.bipush 12, 2) := by decide +kernel
theorem dX11_topSide_10 : decode cX11_topSide 10 = .ok (.iadd, 1) := by decide +kernel
theorem dX11_topSide_11 : decode cX11_topSide 11 = .ok (.bipush 12, 2) := by decide +kernel
theorem dX11_topSide_13 : decode cX11_topSide 13 = .ok (.irem, 1) := by decide +kernel
theorem dX11_topSide_14 : decode cX11_topSide 14 = .ok (.istore_n 2, 1) := by decide +kernel
theorem dX11_topSide_15 : decode cX11_topSide 15 = .ok (.iload_n 2, 1) := by decide +kernel
theorem dX11_topSide_16 : decode cX11_topSide 16 = .ok (.ifCond .ne 7, 3) := by decide +kernel
theorem dX11_topSide_19 : decode cX11_topSide 19 = .ok (.iload_n 1, 1) := by decide +kernel
theorem dX11_topSide_20 : decode cX11_topSide 20 = .ok (.goto 25, 3) := by decide +kernel
theorem dX11_topSide_23 : decode cX11_topSide 23 = .ok (.iload_n 2, 1) := by decide +kernel
theorem dX11_topSide_24 : decode cX11_topSide 24 = .ok (.bipush 6, 2) := by decide +kernel
theorem dX11_topSide_26 : decode cX11_topSide 26 = .ok (.if_icmp .gt 12, 3) := by decide +kernel
theorem dX11_topSide_29 : decode cX11_topSide 29 = .ok (.iload_n 1, 1) := by decide +kernel
theorem dX11_topSide_30 : decode cX11_topSide 30 = .ok (.iconst 1, 1) := by decide +kernel
theorem dX11_topSide_31 : decode cX11_topSide 31 = .ok (.iadd, 1) := by decide +kernel
theorem dX11_topSide_32 : decode cX11_topSide 32 = .ok (.bipush 12, 2) := by decide +kernel
theorem dX11_topSide_34 : decode cX11_topSide 34 = .ok (.irem, 1) := by decide +kernel
theorem dX11_topSide_35 : decode cX11_topSide 35 = .ok (.goto 10, 3) := by decide +kernel
theorem dX11_topSide_38 : decode cX11_topSide 38 = .ok (.iload_n 1, 1) := by decide +kernel
theorem dX11_topSide_39 : decode cX11_topSide 39 = .ok (.bipush 11, 2) := by decide +kernel
theorem dX11_topSide_41 : decode cX11_topSide 41 = .ok (.iadd, 1) := by decide +kernel
theorem dX11_topSide_42 : decode cX11_topSide 42 = .ok (.bipush 12, 2) := by decide +kernel
theorem dX11_topSide_44 : decode cX11_topSide 44 = .ok (.irem, 1) := by decide +kernel
theorem dX11_topSide_45 : decode cX11_topSide 45 = .ok (.ireturn, 1) := by decide +kernel
/-! topSide -/
def X11_topSide_p45 (st : MS) (t0 : Int32) : Option (Int32 × MS) :=
    some (t0, st)
def X11_topSide (st : MS) (v1 : Int32) : Option (Int32 × MS) :=
    inr (2 : Int32) 7 <|
    dvi (12 : Int32) <|
    nm (((((gA st 4 (2 : Int32).toNatClampNeg) - v1) + (12 : Int32)) - (((gA st 4 (2 : Int32).toNatClampNeg) - v1) + (12 : Int32)) / (12 : Int32) * (12 : Int32))) fun x_3 =>
    if x_3 = 0 then
      (X11_topSide_p45 st v1)
    else
    if (6 : Int32) < x_3 then
      (dvi (12 : Int32) <|
      X11_topSide_p45 st ((v1 + (11 : Int32)) - (v1 + (11 : Int32)) / (12 : Int32) * (12 : Int32)))
    else
    dvi (12 : Int32) <|
    X11_topSide_p45 st ((v1 + (1 : Int32)) - (v1 + (1 : Int32)) / (12 : Int32) * (12 : Int32))
abbrev rmX11_topSide : Room := { frames := 0, cells := 0, slots := 0, locals := 0 }
theorem hdX11_topSide : yX11_topSide.cls = RX11 ∧ yX11_topSide.cls ≠ "java/lang/invoke/MethodHandle" ∧ yX11_topSide.cls ≠ "java/lang/invoke/VarHandle" ∧ (parseMethodDescriptor yX11_topSide.desc).map (fun d => d.parameters.length) = some 1 := by decide +kernel
set_option maxRecDepth 100000 in
set_option maxHeartbeats 4000000 in
theorem okX11_topSide (l : Launch) (D : va_G) (a : Nat → Nat) (T : mT3) {st : MS} {v1 : Int32} {r : Int32} {st' : MS} (heq : X11_topSide st v1 = some (r, st')) : gCi l D (mT T) yX11_topSide wsX11_topSide rmX11_topSide [.ref (a 0), .int v1] (mW a T st) r (mW a T st') := by
  refine g_body_i (by decide) rfl (Nat.le_of_ble_eq_true rfl) (fun p e s m args below meth c A Q hx hb hml hown hts hK hA hret ls hP hD hS hl => ?_)
  have hl : lv_has ls 3 [(0, .ref (a 0)), (1, .int v1)] := hl
  have hin : ∀ w ∈ wsX110, w ∈ wsX11_topSide := fun w h => List.mem_cons_of_mem _ (List.mem_append_right _ h)
  have f22 : (Cond.fieldLink RX11 22 RX11 (TX11 4).2.1 (TX11 4).2.2.1).before args s = true := hts (.fieldLink RX11 22 "LaidDownTheLaneModel" "settings" "[I") (by decide +kernel)
  have b45 : ∀ (st : MS) (t0 : Int32) (H : Heap) (locs : List Loc) (ls : Array Slot), va_P D vwCl (mW a T st) H → va_D A (mW a T st) → va_S A s.heap H locs → lv_has ls 3 [] → X11_topSide_p45  st t0 = some (r, st') → W p l e rmX11_topSide s m args below meth c H locs 0 0 Q (F0 m 45 ls [.int t0]) := by
    intro st t0 H locs ls hP hD hS hl heq
    unfold X11_topSide_p45 at heq
    obtain ⟨heq, heq2⟩ := ret_h heq
    subst heq
    subst heq2
    exact hret 45 H locs ls hP hD hS rfl dX11_topSide_45
  obtain ⟨H, hH⟩ : ∃ H, H = s.heap := ⟨_, rfl⟩
  obtain ⟨locs, hlocs⟩ : ∃ z : List Loc, z = [] := ⟨_, rfl⟩
  have hS : va_S A s.heap H locs := by rw [hH, hlocs]; exact hS
  have hP : va_P D vwCl (mW a T st) H := by rw [hH]; exact hP
  suffices h9 : W p l e rmX11_topSide s m args below meth c H locs 0 0 Q (F0 m 0 ls []) by rw [hH, hlocs] at h9; exact h9
  clear hH hlocs
  unfold X11_topSide at heq
  refine lv_aload_n hx hb dX11_topSide_0 rfl (lv_at hl 0 rfl) ?_
  refine mg (k := 4) (v := .ref (a 5)) hx hb hts hin hown hK hP (by decide) f22 rfl dX11_topSide_1 rfl ?_
  refine lv_iconst (v := (2 : Int32)) hx hb dX11_topSide_4 (by decide) ?_
  obtain ⟨n_1, heq⟩ := inr_h heq
  refine mal (k := 4) (q := 5) (n := 7) hx hb hK hP rfl n_1 dX11_topSide_5 ?_
  refine lv_iload_n hx hb dX11_topSide_6 rfl (lv_at hl 1 rfl) ?_
  refine lv_isub hx hb dX11_topSide_7 ?_
  refine lv_bipush (v := (12 : Int32)) hx hb dX11_topSide_8 (by decide) ?_
  refine lv_iadd hx hb dX11_topSide_10 ?_
  refine lv_bipush (v := (12 : Int32)) hx hb dX11_topSide_11 (by decide) ?_
  obtain ⟨n_2, heq⟩ := dvi_h heq
  refine lv_irem hx hb dX11_topSide_13 n_2 ?_
  refine lv_topi (fun x_3 ex_3 => ?_)
  have heq := nm_h ex_3 heq
  refine lv_istore_n (lv' := [(2, .int x_3), (0, .ref (a 0)), (1, .int v1)]) hx hb dX11_topSide_14 rfl hl (by decide) rfl (fun ls hl => ?_)
  refine lv_iload_n hx hb dX11_topSide_15 rfl (lv_at hl 0 rfl) ?_
  refine lv_if_ne (tgt := 23) hx hb dX11_topSide_16 (by decide) (fun c_4 => ?_) (fun c_4 => ?_)
  · have heq := it_f c_4 heq
    refine lv_iload_n hx hb dX11_topSide_23 rfl (lv_at hl 0 rfl) ?_
    refine lv_bipush (v := (6 : Int32)) hx hb dX11_topSide_24 (by decide) ?_
    refine lv_icmp_gt (tgt := 38) hx hb dX11_topSide_26 (by decide) (fun c_5 => ?_) (fun c_5 => ?_)
    · have heq := it_t c_5 heq
      refine lv_iload_n hx hb dX11_topSide_38 rfl (lv_at hl 2 rfl) ?_
      refine lv_bipush (v := (11 : Int32)) hx hb dX11_topSide_39 (by decide) ?_
      refine lv_iadd hx hb dX11_topSide_41 ?_
      refine lv_bipush (v := (12 : Int32)) hx hb dX11_topSide_42 (by decide) ?_
      obtain ⟨n_6, heq⟩ := dvi_h heq
      refine lv_irem hx hb dX11_topSide_44 n_6 ?_
      exact b45 st ((v1 + (11 : Int32)) - (v1 + (11 : Int32)) / (12 : Int32) * (12 : Int32)) H locs ls hP hD hS (lv_sub hl [] rfl) heq
    have heq := it_f c_5 heq
    refine lv_iload_n hx hb dX11_topSide_29 rfl (lv_at hl 2 rfl) ?_
    refine lv_iconst (v := (1 : Int32)) hx hb dX11_topSide_30 (by decide) ?_
    refine lv_iadd hx hb dX11_topSide_31 ?_
    refine lv_bipush (v := (12 : Int32)) hx hb dX11_topSide_32 (by decide) ?_
    obtain ⟨n_7, heq⟩ := dvi_h heq
    refine lv_irem hx hb dX11_topSide_34 n_7 ?_
    refine lv_goto (tgt := 45) hx hb dX11_topSide_35 (by decide) ?_
    exact b45 st ((v1 + (1 : Int32)) - (v1 + (1 : Int32)) / (12 : Int32) * (12 : Int32)) H locs ls hP hD hS (lv_sub hl [] rfl) heq
  have heq := it_t c_4 heq
  refine lv_iload_n hx hb dX11_topSide_19 rfl (lv_at hl 2 rfl) ?_
  refine lv_goto (tgt := 45) hx hb dX11_topSide_20 (by decide) ?_
  exact b45 st v1 H locs ls hP hD hS (lv_sub hl [] rfl) heq
theorem dX11_topFar_0 : decode cX11_topFar 0 = .ok (.aload_n 0, 1) := by decide +kernel
theorem dX11_topFar_1 : decode cX11_topFar 1 = .ok (.getfield 22, 3) := by decide +kernel
theorem dX11_topFar_4 : decode cX11_topFar 4 = .ok (.iconst 5, 1) := by decide +kernel
theorem dX11_topFar_5 : decode cX11_topFar 5 = .ok (.iaload, 1) := by decide +kernel
theorem dX11_topFar_6 : decode cX11_topFar 6 = .ok (.aload_n 0, 1) := by decide +kernel
theorem dX11_topFar_7 : decode cX11_topFar 7 = .ok (.getfield 22, 3) := by decide +kernel
theorem dX11_topFar_10 : decode cX11_topFar 10 = .ok (.iconst 5, 1) := by decide +kernel
theorem dX11_topFar_11 : decode cX11_topFar 11 = .ok (.iaload, 1) := by decide +kernel
theorem dX11_topFar_12 : decode cX11_topFar 12 = .ok (.iconst 3, 1) := by decide +kernel
theorem dX11_topFar_13 : decode cX11_topFar 13 = .ok (.idiv, 1) := by decide +kernel
theorem dX11_topFar_14 : decode cX11_topFar 14 = .ok (.iconst 2, 1) := by decide +kernel
theorem dX11_topFar_15 : decode cX11_topFar 15 = .ok (.idiv, 1) := by decide +kernel
theorem dX11_topFar_16 : decode cX11_topFar 16 = .ok (.iadd, 1) := by decide +kernel
theorem dX11_topFar_17 : decode cX11_topFar 17 = .ok (.ireturn, 1) := by decide +kernel
/-! topFar -/
def X11_topFar (st : MS) : Option (Int32 × MS) :=
    inr (5 : Int32) 7 <|
    inr (5 : Int32) 7 <|
    dvi (3 : Int32) <|
    dvi (2 : Int32) <|
    some (((gA st 4 (5 : Int32).toNatClampNeg) + (((gA st 4 (5 : Int32).toNatClampNeg) / (3 : Int32)) / (2 : Int32))), st)
abbrev rmX11_topFar : Room := { frames := 0, cells := 0, slots := 0, locals := 0 }
theorem hdX11_topFar : yX11_topFar.cls = RX11 ∧ yX11_topFar.cls ≠ "java/lang/invoke/MethodHandle" ∧ yX11_topFar.cls ≠ "java/lang/invoke/VarHandle" ∧ (parseMethodDescriptor yX11_topFar.desc).map (fun d => d.parameters.length) = some 0 := by decide +kernel
set_option maxRecDepth 100000 in
set_option maxHeartbeats 4000000 in
theorem okX11_topFar (l : Launch) (D : va_G) (a : Nat → Nat) (T : mT3) {st : MS} {r : Int32} {st' : MS} (heq : X11_topFar st = some (r, st')) : gCi l D (mT T) yX11_topFar wsX11_topFar rmX11_topFar [.ref (a 0)] (mW a T st) r (mW a T st') := by
  refine g_body_i (by decide) rfl (Nat.le_of_ble_eq_true rfl) (fun p e s m args below meth c A Q hx hb hml hown hts hK hA hret ls hP hD hS hl => ?_)
  have hl : lv_has ls 1 [(0, .ref (a 0))] := hl
  have hin : ∀ w ∈ wsX110, w ∈ wsX11_topFar := fun w h => List.mem_cons_of_mem _ (List.mem_append_right _ h)
  have f22 : (Cond.fieldLink RX11 22 RX11 (TX11 4).2.1 (TX11 4).2.2.1).before args s = true := hts (.fieldLink RX11 22 "LaidDownTheLaneModel" "settings" "[I") (by decide +kernel)
  obtain ⟨H, hH⟩ : ∃ H, H = s.heap := ⟨_, rfl⟩
  obtain ⟨locs, hlocs⟩ : ∃ z : List Loc, z = [] := ⟨_, rfl⟩
  have hS : va_S A s.heap H locs := by rw [hH, hlocs]; exact hS
  have hP : va_P D vwCl (mW a T st) H := by rw [hH]; exact hP
  suffices h9 : W p l e rmX11_topFar s m args below meth c H locs 0 0 Q (F0 m 0 ls []) by rw [hH, hlocs] at h9; exact h9
  clear hH hlocs
  unfold X11_topFar at heq
  refine lv_aload_n hx hb dX11_topFar_0 rfl (lv_at hl 0 rfl) ?_
  refine mg (k := 4) (v := .ref (a 5)) hx hb hts hin hown hK hP (by decide) f22 rfl dX11_topFar_1 rfl ?_
  refine lv_iconst (v := (5 : Int32)) hx hb dX11_topFar_4 (by decide) ?_
  obtain ⟨n_1, heq⟩ := inr_h heq
  refine mal (k := 4) (q := 5) (n := 7) hx hb hK hP rfl n_1 dX11_topFar_5 ?_
  refine lv_aload_n hx hb dX11_topFar_6 rfl (lv_at hl 0 rfl) ?_
  refine mg (k := 4) (v := .ref (a 5)) hx hb hts hin hown hK hP (by decide) f22 rfl dX11_topFar_7 rfl ?_
  refine lv_iconst (v := (5 : Int32)) hx hb dX11_topFar_10 (by decide) ?_
  obtain ⟨n_2, heq⟩ := inr_h heq
  refine mal (k := 4) (q := 5) (n := 7) hx hb hK hP rfl n_2 dX11_topFar_11 ?_
  refine lv_iconst (v := (3 : Int32)) hx hb dX11_topFar_12 (by decide) ?_
  obtain ⟨n_3, heq⟩ := dvi_h heq
  refine lv_idiv hx hb dX11_topFar_13 n_3 ?_
  refine lv_iconst (v := (2 : Int32)) hx hb dX11_topFar_14 (by decide) ?_
  obtain ⟨n_4, heq⟩ := dvi_h heq
  refine lv_idiv hx hb dX11_topFar_15 n_4 ?_
  refine lv_iadd hx hb dX11_topFar_16 ?_
  obtain ⟨heq, heq2⟩ := ret_h heq
  subst heq
  subst heq2
  exact hret 17 H locs ls hP hD hS rfl dX11_topFar_17
set_option maxRecDepth 20000 in
theorem ggX11_hitBy_X11_breaks : GoodIn wsX11_hitBy wsX11_breaks := goodIn_r _ [9, 10, 4, 22, 23, 24, 25, 26, 27, 28, 29, 30, 31, 32, 33, 34, 35, 36, 37, 38, 39, 40, 41, 42, 43, 44, 45, 46, 47, 48, 49, 50, 51, 52, 53, 54, 55, 56, 57, 58] (by decide +kernel) (by decide +kernel)
set_option maxRecDepth 20000 in
theorem gX11_hitBy_X11_breaks : GoodIn wsX11_hitBy (wsV RX11 281 RX11 yX11_breaks wsX11_breaks) := goodIn_app (goodIn_of _ (by decide +kernel)) ggX11_hitBy_X11_breaks
set_option maxRecDepth 20000 in
theorem ggX11_hitBy_X11_topSide : GoodIn wsX11_hitBy wsX11_topSide := goodIn_r _ [14, 4, 22, 23, 24, 25, 26, 27, 28, 29, 30, 31, 32, 33, 34, 35, 36, 37, 38, 39, 40, 41, 42, 43, 44, 45, 46, 47, 48, 49, 50, 51, 52, 53, 54, 55, 56, 57, 58] (by decide +kernel) (by decide +kernel)
set_option maxRecDepth 20000 in
theorem gX11_hitBy_X11_topSide : GoodIn wsX11_hitBy (wsV RX11 284 RX11 yX11_topSide wsX11_topSide) := goodIn_app (goodIn_of _ (by decide +kernel)) ggX11_hitBy_X11_topSide
set_option maxRecDepth 20000 in
theorem ggX11_hitBy_X11_topFar : GoodIn wsX11_hitBy wsX11_topFar := goodIn_r _ [18, 4, 22, 23, 24, 25, 26, 27, 28, 29, 30, 31, 32, 33, 34, 35, 36, 37, 38, 39, 40, 41, 42, 43, 44, 45, 46, 47, 48, 49, 50, 51, 52, 53, 54, 55, 56, 57, 58] (by decide +kernel) (by decide +kernel)
set_option maxRecDepth 20000 in
theorem gX11_hitBy_X11_topFar : GoodIn wsX11_hitBy (wsV RX11 287 RX11 yX11_topFar wsX11_topFar) := goodIn_app (goodIn_of _ (by decide +kernel)) ggX11_hitBy_X11_topFar
set_option maxRecDepth 20000 in
theorem ggX11_hitBy_X11_plainly : GoodIn wsX11_hitBy wsX11_plainly := goodIn_r _ [21] (by decide +kernel) (by decide +kernel)
set_option maxRecDepth 20000 in
theorem gX11_hitBy_X11_plainly : GoodIn wsX11_hitBy (va_wsS RX11 290 yX11_plainly wsX11_plainly) := goodIn_app (goodIn_of _ (by decide +kernel)) ggX11_hitBy_X11_plainly
theorem dX11_hitBy_0 : decode cX11_hitBy 0 = .ok (.iconst 0, 1) := by decide +kernel
theorem dX11_hitBy_1 : decode cX11_hitBy 1 = .ok (.istore_n 2, 1) := by decide +kernel
theorem dX11_hitBy_2 : decode cX11_hitBy 2 = .ok (.iconst 0, 1) := by decide +kernel
theorem dX11_hitBy_3 : decode cX11_hitBy 3 = .ok (.istore_n 3, 1) := by decide +kernel
theorem dX11_hitBy_4 : decode cX11_hitBy 4 = .ok (.iload_n 3, 1) := by decide +kernel
theorem dX11_hitBy_5 : decode cX11_hitBy 5 = .ok (.aload_n 0, 1) := by decide +kernel
theorem dX11_hitBy_6 : decode cX11_hitBy 6 = .ok (.getfield 170, 3) := by decide +kernel
theorem dX11_hitBy_9 : decode cX11_hitBy 9 = .ok (.if_icmp .ge 108, 3) := by decide +kernel
theorem dX11_hitBy_12 : decode cX11_hitBy 12 = .ok (.aload_n 0, 1) := by decide +kernel
theorem dX11_hitBy_13 : decode cX11_hitBy 13 = .ok (.getfield 25, 3) := by decide +kernel
theorem dX11_hitBy_16 : decode cX11_hitBy 16 = .ok (.iload_n 3, 1) := by decide +kernel
theorem dX11_hitBy_17 : decode cX11_hitBy 17 = .ok (.iaload, 1) := by decide +kernel
theorem dX11_hitBy_18 : decode cX11_hitBy 18 = .ok (.iload_n 1, 1) := by decide +kernel
theorem dX11_hitBy_19 : decode cX11_hitBy 19 = .ok (.if_icmp .ne 22, 3) := by decide +kernel
theorem dX11_hitBy_22 : decode cX11_hitBy 22 = .ok (.aload_n 0, 1) := by decide +kernel
theorem dX11_hitBy_23 : decode cX11_hitBy 23 = .ok (.getfield 28, 3) := by decide +kernel
theorem dX11_hitBy_26 : decode cX11_hitBy 26 = .ok (.iload_n 3, 1) := by decide +kernel
theorem dX11_hitBy_27 : decode cX11_hitBy 27 = .ok (.iaload, 1) := by decide +kernel
theorem dX11_hitBy_28 : decode cX11_hitBy 28 = .ok (.aload_n 0, 1) := by decide +kernel
theorem dX11_hitBy_29 : decode cX11_hitBy 29 = .ok (.getfield 22, 3) := by decide +kernel
theorem dX11_hitBy_32 : decode cX11_hitBy 32 = .ok (.iconst 5, 1) := by decide +kernel
theorem dX11_hitBy_33 : decode cX11_hitBy 33 = .ok (.iaload, 1) := by decide +kernel
theorem dX11_hitBy_34 : decode cX11_hitBy 34 = .ok (.if_icmp .gt 7, 3) := by decide +kernel
theorem dX11_hitBy_37 : decode cX11_hitBy 37 = .ok (.iconst 1, 1) := by decide +kernel
theorem dX11_hitBy_38 : decode cX11_hitBy 38 = .ok (.goto 4, 3) := by decide +kernel
theorem dX11_hitBy_41 : decode cX11_hitBy 41 = .ok (.iconst 0, 1) := by decide +kernel
theorem dX11_hitBy_42 : decode cX11_hitBy 42 = .ok (.istore 4, 2) := by decide +kernel
theorem dX11_hitBy_44 : decode cX11_hitBy 44 = .ok (.iload 4, 2) := by decide +kernel
theorem dX11_hitBy_46 : decode cX11_hitBy 46 = .ok (.ifCond .ne 43, 3) := by decide +kernel
theorem dX11_hitBy_49 : decode cX11_hitBy 49 = .ok (.aload_n 0, 1) := by decide +kernel
theorem dX11_hitBy_50 : decode cX11_hitBy 50 = .ok (.invokevirtual 281, 3) := by decide +kernel
theorem dX11_hitBy_53 : decode cX11_hitBy 53 = .ok (.ifCond .eq 40, 3) := by decide +kernel
theorem dX11_hitBy_56 : decode cX11_hitBy 56 = .ok (.aload_n 0, 1) := by decide +kernel
theorem dX11_hitBy_57 : decode cX11_hitBy 57 = .ok (.getfield 25, 3) := by decide +kernel
theorem dX11_hitBy_60 : decode cX11_hitBy 60 = .ok (.iload_n 3, 1) := by decide +kernel
theorem dX11_hitBy_61 : decode cX11_hitBy 61 = .ok (.iaload, 1) := by decide +kernel
theorem dX11_hitBy_62 : decode cX11_hitBy 62 = .ok (.aload_n 0, 1) := by decide +kernel
theorem dX11_hitBy_63 : decode cX11_hitBy 63 = .ok (.iload_n 1, 1) := by decide +kernel
theorem dX11_hitBy_64 : decode cX11_hitBy 64 = .ok (.invokevirtual 284, 3) := by decide +kernel
theorem dX11_hitBy_67 : decode cX11_hitBy 67 = .ok (.if_icmp .ne 26, 3) := by decide +kernel
theorem dX11_hitBy_70 : decode cX11_hitBy 70 = .ok (.aload_n 0, 1) := by decide +kernel
theorem dX11_hitBy_71 : decode cX11_hitBy 71 = .ok (.getfield 28, 3) := by decide +kernel
theorem dX11_hitBy_74 : decode cX11_hitBy 74 = .ok (.iload_n 3, 1) := by decide +kernel
theorem dX11_hitBy_75 : decode cX11_hitBy 75 = .ok (.iaload, 1) := by decide +kernel
theorem dX11_hitBy_76 : decode cX11_hitBy 76 = .ok (.aload_n 0, 1) := by decide +kernel
theorem dX11_hitBy_77 : decode cX11_hitBy 77 = .ok (.invokevirtual 287, 3) := by decide +kernel
theorem dX11_hitBy_80 : decode cX11_hitBy 80 = .ok (.isub, 1) := by decide +kernel
theorem dX11_hitBy_81 : decode cX11_hitBy 81 = .ok (.invokestatic 290, 3) := by decide +kernel
theorem dX11_hitBy_84 : decode cX11_hitBy 84 = .ok (.bipush 10, 2) := by decide +kernel
theorem dX11_hitBy_86 : decode cX11_hitBy 86 = .ok (.if_icmp .gt 7, 3) := by decide +kernel
theorem dX11_hitBy_89 : decode cX11_hitBy 89 = .ok (.iconst 1, 1) := by decide +kernel
theorem dX11_hitBy_90 : decode cX11_hitBy 90 = .ok (.goto 4, 3) := by decide +kernel
theorem dX11_hitBy_93 : decode cX11_hitBy 93 = .ok (.iconst 0, 1) := by decide +kernel
theorem dX11_hitBy_94 : decode cX11_hitBy 94 = .ok (.istore 4, 2) := by decide +kernel
theorem dX11_hitBy_96 : decode cX11_hitBy 96 = .ok (.iload_n 2, 1) := by decide +kernel
theorem dX11_hitBy_97 : decode cX11_hitBy 97 = .ok (.iload 4, 2) := by decide +kernel
theorem dX11_hitBy_99 : decode cX11_hitBy 99 = .ok (.ifCond .eq 9, 3) := by decide +kernel
theorem dX11_hitBy_102 : decode cX11_hitBy 102 = .ok (.iconst 1, 1) := by decide +kernel
theorem dX11_hitBy_103 : decode cX11_hitBy 103 = .ok (.iload_n 3, 1) := by decide +kernel
theorem dX11_hitBy_104 : decode cX11_hitBy 104 = .ok (.ishl, 1) := by decide +kernel
theorem dX11_hitBy_105 : decode cX11_hitBy 105 = .ok (.goto 4, 3) := by decide +kernel
theorem dX11_hitBy_108 : decode cX11_hitBy 108 = .ok (.iconst 0, 1) := by decide +kernel
theorem dX11_hitBy_109 : decode cX11_hitBy 109 = .ok (.ior, 1) := by decide +kernel
theorem dX11_hitBy_110 : decode cX11_hitBy 110 = .ok (.istore_n 2, 1) := by decide +kernel
theorem dX11_hitBy_111 : decode cX11_hitBy 111 = .ok (.iinc 3 1, 3) := by decide +kernel
theorem dX11_hitBy_114 : decode cX11_hitBy 114 = .ok (.goto (-110), 3) := by decide +kernel
theorem dX11_hitBy_117 : decode cX11_hitBy 117 = .ok (.iload_n 2, 1) := by decide +kernel
theorem dX11_hitBy_118 : decode cX11_hitBy 118 = .ok (.ireturn, 1) := by decide +kernel
/-! hitBy -/
def X11_hitBy_p109 (k4 : MS → Int32 → Int32 → Int32 → Option (Int32 × MS)) (st : MS) (v1 : Int32) (v3 : Int32) (t0 : Int32) (t1 : Int32) : Option (Int32 × MS) :=
    nm ((t0 ||| t1)) fun x_1 =>
    nm (v3 + (1 : Int32)) fun x_2 =>
    k4 st v1 x_1 x_2
def X11_hitBy_p94 (k4 : MS → Int32 → Int32 → Int32 → Option (Int32 × MS)) (st : MS) (v1 : Int32) (v2 : Int32) (v3 : Int32) (t0 : Int32) : Option (Int32 × MS) :=
    if t0 = 0 then
      (X11_hitBy_p109 k4 st v1 v3 v2 (0 : Int32))
    else
    X11_hitBy_p109 k4 st v1 v3 v2 ((1 : Int32) <<< (v3 &&& 31))
def X11_hitBy_p89 (k4 : MS → Int32 → Int32 → Int32 → Option (Int32 × MS)) (st : MS) (v1 : Int32) (v2 : Int32) (v3 : Int32) : Option (Int32 × MS) :=
    X11_hitBy_p94 k4 st v1 v2 v3 (1 : Int32)
def X11_hitBy_p93 (k4 : MS → Int32 → Int32 → Int32 → Option (Int32 × MS)) (st : MS) (v1 : Int32) (v2 : Int32) (v3 : Int32) : Option (Int32 × MS) :=
    X11_hitBy_p94 k4 st v1 v2 v3 (0 : Int32)
def X11_hitBy_p42 (k4 : MS → Int32 → Int32 → Int32 → Option (Int32 × MS)) (st : MS) (v1 : Int32) (v2 : Int32) (v3 : Int32) (t0 : Int32) : Option (Int32 × MS) :=
    if t0 = 0 then
      (bnd (X11_breaks st) fun y_6 st_5 =>
      if y_6 = 0 then
        (X11_hitBy_p93 k4 st_5 v1 v2 v3)
      else
      inr v3 6 <|
      bnd (X11_topSide st_5 v1) fun y_11 st_10 =>
      if (gA st_5 9 v3.toNatClampNeg) = y_11 then
        (inr v3 6 <|
        bnd (X11_topFar st_10) fun y_16 st_15 =>
        bd1 (X11_plainly ((gA st_10 10 v3.toNatClampNeg) - y_16)) fun y_18 =>
        if (10 : Int32) < y_18 then
          (X11_hitBy_p93 k4 st_15 v1 v2 v3)
        else
        X11_hitBy_p89 k4 st_15 v1 v2 v3)
      else
      X11_hitBy_p93 k4 st_10 v1 v2 v3)
    else
    X11_hitBy_p89 k4 st v1 v2 v3
def X11_hitBy_p41 (k4 : MS → Int32 → Int32 → Int32 → Option (Int32 × MS)) (st : MS) (v1 : Int32) (v2 : Int32) (v3 : Int32) : Option (Int32 × MS) :=
    X11_hitBy_p42 k4 st v1 v2 v3 (0 : Int32)
def X11_hitBy_p117 (st : MS) (v2 : Int32) : Option (Int32 × MS) :=
    some (v2, st)
def X11_hitBy_p4 : Nat → MS → Int32 → Int32 → Int32 → Option (Int32 × MS)
  | 0, _, _, _, _ => none
  | n + 1, st, v1, v2, v3 =>
    if (gF st 8) ≤ v3 then
      (X11_hitBy_p117 st v2)
    else
    inr v3 6 <|
    if (gA st 9 v3.toNatClampNeg) = v1 then
      (inr v3 6 <|
      inr (5 : Int32) 7 <|
      if (gA st 4 (5 : Int32).toNatClampNeg) < (gA st 10 v3.toNatClampNeg) then
        (X11_hitBy_p41 (fun st v1 v2 v3 => X11_hitBy_p4  n st v1 v2 v3) st v1 v2 v3)
      else
      X11_hitBy_p42 (fun st v1 v2 v3 => X11_hitBy_p4  n st v1 v2 v3) st v1 v2 v3 (1 : Int32))
    else
    X11_hitBy_p41 (fun st v1 v2 v3 => X11_hitBy_p4  n st v1 v2 v3) st v1 v2 v3
theorem X11_hitBy_p4_s (n : Nat) (st : MS) (v1 : Int32) (v2 : Int32) (v3 : Int32) : X11_hitBy_p4  (n + 1) st v1 v2 v3 =
    (if (gF st 8) ≤ v3 then
      (X11_hitBy_p117 st v2)
    else
    inr v3 6 <|
    if (gA st 9 v3.toNatClampNeg) = v1 then
      (inr v3 6 <|
      inr (5 : Int32) 7 <|
      if (gA st 4 (5 : Int32).toNatClampNeg) < (gA st 10 v3.toNatClampNeg) then
        (X11_hitBy_p41 (fun st v1 v2 v3 => X11_hitBy_p4  n st v1 v2 v3) st v1 v2 v3)
      else
      X11_hitBy_p42 (fun st v1 v2 v3 => X11_hitBy_p4  n st v1 v2 v3) st v1 v2 v3 (1 : Int32))
    else
    X11_hitBy_p41 (fun st v1 v2 v3 => X11_hitBy_p4  n st v1 v2 v3) st v1 v2 v3) := rfl
def X11_hitBy (st : MS) (v1 : Int32) : Option (Int32 × MS) :=
    X11_hitBy_p4 5000 st v1 (0 : Int32) (0 : Int32)
abbrev rmX11_hitBy : Room := { frames := 1, cells := 0, slots := 0, locals := 22 }
theorem hdX11_hitBy : yX11_hitBy.cls = RX11 ∧ yX11_hitBy.cls ≠ "java/lang/invoke/MethodHandle" ∧ yX11_hitBy.cls ≠ "java/lang/invoke/VarHandle" ∧ (parseMethodDescriptor yX11_hitBy.desc).map (fun d => d.parameters.length) = some 1 := by decide +kernel
set_option maxRecDepth 100000 in
set_option maxHeartbeats 4000000 in
theorem okX11_hitBy (l : Launch) (D : va_G) (a : Nat → Nat) (T : mT3) {st : MS} {v1 : Int32} {r : Int32} {st' : MS} (heq : X11_hitBy st v1 = some (r, st')) : gCi l D (mT T) yX11_hitBy wsX11_hitBy rmX11_hitBy [.ref (a 0), .int v1] (mW a T st) r (mW a T st') := by
  refine g_body_i (by decide) rfl (Nat.le_of_ble_eq_true rfl) (fun p e s m args below meth c A Q hx hb hml hown hts hK hA hret ls hP hD hS hl => ?_)
  have hl : lv_has ls 5 [(0, .ref (a 0)), (1, .int v1)] := hl
  have hin : ∀ w ∈ wsX110, w ∈ wsX11_hitBy := fun w h => List.mem_cons_of_mem _ (List.mem_append_right _ h)
  have f22 : (Cond.fieldLink RX11 22 RX11 (TX11 4).2.1 (TX11 4).2.2.1).before args s = true := hts (.fieldLink RX11 22 "LaidDownTheLaneModel" "settings" "[I") (by decide +kernel)
  have f25 : (Cond.fieldLink RX11 25 RX11 (TX11 9).2.1 (TX11 9).2.2.1).before args s = true := hts (.fieldLink RX11 25 "LaidDownTheLaneModel" "sides" "[I") (by decide +kernel)
  have f28 : (Cond.fieldLink RX11 28 RX11 (TX11 10).2.1 (TX11 10).2.2.1).before args s = true := hts (.fieldLink RX11 28 "LaidDownTheLaneModel" "fars" "[I") (by decide +kernel)
  have f170 : (Cond.fieldLink RX11 170 RX11 (TX11 8).2.1 (TX11 8).2.2.1).before args s = true := hts (.fieldLink RX11 170 "LaidDownTheLaneModel" "houses" "I") (by decide +kernel)
  have b109 : ∀ (k4 : MS → Int32 → Int32 → Int32 → Option (Int32 × MS)) (hk4 : ∀ (st : MS) (v1 : Int32) (v2 : Int32) (v3 : Int32) (H : Heap) (locs : List Loc) (ls : Array Slot), va_P D vwCl (mW a T st) H → va_D A (mW a T st) → va_S A s.heap H locs → lv_has ls 5 [(0, .ref (a 0)), (1, .int v1), (2, .int v2), (3, .int v3)] → k4 st v1 v2 v3 = some (r, st') → W p l e rmX11_hitBy s m args below meth c H locs 0 0 Q (F0 m 4 ls [])), ∀ (st : MS) (v1 : Int32) (v3 : Int32) (t0 : Int32) (t1 : Int32) (H : Heap) (locs : List Loc) (ls : Array Slot), va_P D vwCl (mW a T st) H → va_D A (mW a T st) → va_S A s.heap H locs → lv_has ls 5 [(0, .ref (a 0)), (1, .int v1), (3, .int v3)] → X11_hitBy_p109 k4 st v1 v3 t0 t1 = some (r, st') → W p l e rmX11_hitBy s m args below meth c H locs 0 0 Q (F0 m 109 ls [.int t1, .int t0]) := by
    intro k4 hk4 st v1 v3 t0 t1 H locs ls hP hD hS hl heq
    unfold X11_hitBy_p109 at heq
    refine lv_ior hx hb dX11_hitBy_109 ?_
    refine lv_topi (fun x_1 ex_1 => ?_)
    have heq := nm_h ex_1 heq
    refine lv_istore_n (lv' := [(2, .int x_1), (0, .ref (a 0)), (1, .int v1), (3, .int v3)]) hx hb dX11_hitBy_110 rfl hl (by decide) rfl (fun ls hl => ?_)
    obtain ⟨x_2, ex_2⟩ : ∃ y : Int32, y = v3 + (1 : Int32) := ⟨_, rfl⟩
    have heq := nm_h ex_2 heq
    refine lv_iinc (v := x_2) (lv' := [(3, .int x_2), (2, .int x_1), (0, .ref (a 0)), (1, .int v1)]) hx hb dX11_hitBy_111 hl (k := 3) rfl (by rw [ex_2]; rfl) (by decide) rfl (fun ls hl => ?_)
    refine lv_goto (tgt := 4) hx hb dX11_hitBy_114 (by decide) ?_
    exact hk4 st v1 x_1 x_2 H locs ls hP hD hS (lv_sub hl [2, 3, 1, 0] rfl) heq
  have b94 : ∀ (k4 : MS → Int32 → Int32 → Int32 → Option (Int32 × MS)) (hk4 : ∀ (st : MS) (v1 : Int32) (v2 : Int32) (v3 : Int32) (H : Heap) (locs : List Loc) (ls : Array Slot), va_P D vwCl (mW a T st) H → va_D A (mW a T st) → va_S A s.heap H locs → lv_has ls 5 [(0, .ref (a 0)), (1, .int v1), (2, .int v2), (3, .int v3)] → k4 st v1 v2 v3 = some (r, st') → W p l e rmX11_hitBy s m args below meth c H locs 0 0 Q (F0 m 4 ls [])), ∀ (st : MS) (v1 : Int32) (v2 : Int32) (v3 : Int32) (t0 : Int32) (H : Heap) (locs : List Loc) (ls : Array Slot), va_P D vwCl (mW a T st) H → va_D A (mW a T st) → va_S A s.heap H locs → lv_has ls 5 [(0, .ref (a 0)), (1, .int v1), (2, .int v2), (3, .int v3)] → X11_hitBy_p94 k4 st v1 v2 v3 t0 = some (r, st') → W p l e rmX11_hitBy s m args below meth c H locs 0 0 Q (F0 m 94 ls [.int t0]) := by
    intro k4 hk4 st v1 v2 v3 t0 H locs ls hP hD hS hl heq
    unfold X11_hitBy_p94 at heq
    refine lv_istore (lv' := [(4, .int t0), (0, .ref (a 0)), (1, .int v1), (2, .int v2), (3, .int v3)]) hx hb dX11_hitBy_94 hl (by decide) rfl (fun ls hl => ?_)
    refine lv_iload_n hx hb dX11_hitBy_96 rfl (lv_at hl 3 rfl) ?_
    refine lv_iload hx hb dX11_hitBy_97 (lv_at hl 0 rfl) ?_
    refine lv_if_eq (tgt := 108) hx hb dX11_hitBy_99 (by decide) (fun c_3 => ?_) (fun c_3 => ?_)
    · have heq := it_t c_3 heq
      refine lv_iconst (v := (0 : Int32)) hx hb dX11_hitBy_108 (by decide) ?_
      exact b109 k4 hk4 st v1 v3 v2 (0 : Int32) H locs ls hP hD hS (lv_sub hl [1, 2, 4] rfl) heq
    have heq := it_f c_3 heq
    refine lv_iconst (v := (1 : Int32)) hx hb dX11_hitBy_102 (by decide) ?_
    refine lv_iload_n hx hb dX11_hitBy_103 rfl (lv_at hl 4 rfl) ?_
    refine lv_ishl hx hb dX11_hitBy_104 ?_
    refine lv_goto (tgt := 109) hx hb dX11_hitBy_105 (by decide) ?_
    exact b109 k4 hk4 st v1 v3 v2 ((1 : Int32) <<< (v3 &&& 31)) H locs ls hP hD hS (lv_sub hl [1, 2, 4] rfl) heq
  have b89 : ∀ (k4 : MS → Int32 → Int32 → Int32 → Option (Int32 × MS)) (hk4 : ∀ (st : MS) (v1 : Int32) (v2 : Int32) (v3 : Int32) (H : Heap) (locs : List Loc) (ls : Array Slot), va_P D vwCl (mW a T st) H → va_D A (mW a T st) → va_S A s.heap H locs → lv_has ls 5 [(0, .ref (a 0)), (1, .int v1), (2, .int v2), (3, .int v3)] → k4 st v1 v2 v3 = some (r, st') → W p l e rmX11_hitBy s m args below meth c H locs 0 0 Q (F0 m 4 ls [])), ∀ (st : MS) (v1 : Int32) (v2 : Int32) (v3 : Int32) (H : Heap) (locs : List Loc) (ls : Array Slot), va_P D vwCl (mW a T st) H → va_D A (mW a T st) → va_S A s.heap H locs → lv_has ls 5 [(0, .ref (a 0)), (1, .int v1), (2, .int v2), (3, .int v3)] → X11_hitBy_p89 k4 st v1 v2 v3 = some (r, st') → W p l e rmX11_hitBy s m args below meth c H locs 0 0 Q (F0 m 89 ls []) := by
    intro k4 hk4 st v1 v2 v3 H locs ls hP hD hS hl heq
    unfold X11_hitBy_p89 at heq
    refine lv_iconst (v := (1 : Int32)) hx hb dX11_hitBy_89 (by decide) ?_
    refine lv_goto (tgt := 94) hx hb dX11_hitBy_90 (by decide) ?_
    exact b94 k4 hk4 st v1 v2 v3 (1 : Int32) H locs ls hP hD hS (lv_sub hl [0, 1, 2, 3] rfl) heq
  have b93 : ∀ (k4 : MS → Int32 → Int32 → Int32 → Option (Int32 × MS)) (hk4 : ∀ (st : MS) (v1 : Int32) (v2 : Int32) (v3 : Int32) (H : Heap) (locs : List Loc) (ls : Array Slot), va_P D vwCl (mW a T st) H → va_D A (mW a T st) → va_S A s.heap H locs → lv_has ls 5 [(0, .ref (a 0)), (1, .int v1), (2, .int v2), (3, .int v3)] → k4 st v1 v2 v3 = some (r, st') → W p l e rmX11_hitBy s m args below meth c H locs 0 0 Q (F0 m 4 ls [])), ∀ (st : MS) (v1 : Int32) (v2 : Int32) (v3 : Int32) (H : Heap) (locs : List Loc) (ls : Array Slot), va_P D vwCl (mW a T st) H → va_D A (mW a T st) → va_S A s.heap H locs → lv_has ls 5 [(0, .ref (a 0)), (1, .int v1), (2, .int v2), (3, .int v3)] → X11_hitBy_p93 k4 st v1 v2 v3 = some (r, st') → W p l e rmX11_hitBy s m args below meth c H locs 0 0 Q (F0 m 93 ls []) := by
    intro k4 hk4 st v1 v2 v3 H locs ls hP hD hS hl heq
    unfold X11_hitBy_p93 at heq
    refine lv_iconst (v := (0 : Int32)) hx hb dX11_hitBy_93 (by decide) ?_
    exact b94 k4 hk4 st v1 v2 v3 (0 : Int32) H locs ls hP hD hS (lv_sub hl [0, 1, 2, 3] rfl) heq
  have b42 : ∀ (k4 : MS → Int32 → Int32 → Int32 → Option (Int32 × MS)) (hk4 : ∀ (st : MS) (v1 : Int32) (v2 : Int32) (v3 : Int32) (H : Heap) (locs : List Loc) (ls : Array Slot), va_P D vwCl (mW a T st) H → va_D A (mW a T st) → va_S A s.heap H locs → lv_has ls 5 [(0, .ref (a 0)), (1, .int v1), (2, .int v2), (3, .int v3)] → k4 st v1 v2 v3 = some (r, st') → W p l e rmX11_hitBy s m args below meth c H locs 0 0 Q (F0 m 4 ls [])), ∀ (st : MS) (v1 : Int32) (v2 : Int32) (v3 : Int32) (t0 : Int32) (H : Heap) (locs : List Loc) (ls : Array Slot), va_P D vwCl (mW a T st) H → va_D A (mW a T st) → va_S A s.heap H locs → lv_has ls 5 [(0, .ref (a 0)), (1, .int v1), (2, .int v2), (3, .int v3)] → X11_hitBy_p42 k4 st v1 v2 v3 t0 = some (r, st') → W p l e rmX11_hitBy s m args below meth c H locs 0 0 Q (F0 m 42 ls [.int t0]) := by
    intro k4 hk4 st v1 v2 v3 t0 H locs ls hP hD hS hl heq
    unfold X11_hitBy_p42 at heq
    refine lv_istore (lv' := [(4, .int t0), (0, .ref (a 0)), (1, .int v1), (2, .int v2), (3, .int v3)]) hx hb dX11_hitBy_42 hl (by decide) rfl (fun ls hl => ?_)
    refine lv_iload hx hb dX11_hitBy_44 (lv_at hl 0 rfl) ?_
    refine lv_if_ne (tgt := 89) hx hb dX11_hitBy_46 (by decide) (fun c_4 => ?_) (fun c_4 => ?_)
    · have heq := it_f c_4 heq
      exact b89 k4 hk4 st v1 v2 v3 H locs ls hP hD hS (lv_sub hl [1, 2, 3, 4] rfl) heq
    have heq := it_t c_4 heq
    refine lv_aload_n hx hb dX11_hitBy_49 rfl (lv_at hl 1 rfl) ?_
    obtain ⟨y_6, st_5, h_7, heq⟩ := bnd_h heq
    refine g_vi (own := RX11) (As := []) (rest := []) hx hb hml hown hts (okX11_breaks l D a T h_7) (cwV 0 hts gX11_hitBy_X11_breaks rfl rfl rfl hdX11_breaks ⟨Nat.le_of_ble_eq_true rfl, Nat.le_of_ble_eq_true rfl⟩) hK hA hP hD hS (ci := 11) (q0 := 0) rfl rfl rfl hl.1 rfl (Nat.le_of_ble_eq_true rfl) dX11_hitBy_50 ⟨Nat.le_of_ble_eq_true rfl, Nat.le_of_ble_eq_true rfl⟩ (fun H locs hP hD hS => ?_)
    refine lv_if_eq (tgt := 93) hx hb dX11_hitBy_53 (by decide) (fun c_8 => ?_) (fun c_8 => ?_)
    · have heq := it_t c_8 heq
      exact b93 k4 hk4 st_5 v1 v2 v3 H locs ls hP hD hS (lv_sub hl [1, 2, 3, 4] rfl) heq
    have heq := it_f c_8 heq
    refine lv_aload_n hx hb dX11_hitBy_56 rfl (lv_at hl 1 rfl) ?_
    refine mg (k := 9) (v := .ref (a 6)) hx hb hts hin hown hK hP (by decide) f25 rfl dX11_hitBy_57 rfl ?_
    refine lv_iload_n hx hb dX11_hitBy_60 rfl (lv_at hl 4 rfl) ?_
    obtain ⟨n_9, heq⟩ := inr_h heq
    refine mal (k := 9) (q := 6) (n := 6) hx hb hK hP rfl n_9 dX11_hitBy_61 ?_
    refine lv_aload_n hx hb dX11_hitBy_62 rfl (lv_at hl 1 rfl) ?_
    refine lv_iload_n hx hb dX11_hitBy_63 rfl (lv_at hl 2 rfl) ?_
    obtain ⟨y_11, st_10, h_12, heq⟩ := bnd_h heq
    refine g_vi (own := RX11) (As := [.int v1]) (rest := [.int (gA st_5 9 v3.toNatClampNeg)]) hx hb hml hown hts (okX11_topSide l D a T h_12) (cwV 1 hts gX11_hitBy_X11_topSide rfl rfl rfl hdX11_topSide ⟨Nat.le_of_ble_eq_true rfl, Nat.le_of_ble_eq_true rfl⟩) hK hA hP hD hS (ci := 11) (q0 := 0) rfl rfl rfl hl.1 rfl (Nat.le_of_ble_eq_true rfl) dX11_hitBy_64 ⟨Nat.le_of_ble_eq_true rfl, Nat.le_of_ble_eq_true rfl⟩ (fun H locs hP hD hS => ?_)
    refine lv_icmp_ne (tgt := 93) hx hb dX11_hitBy_67 (by decide) (fun c_13 => ?_) (fun c_13 => ?_)
    · have heq := it_f c_13 heq
      exact b93 k4 hk4 st_10 v1 v2 v3 H locs ls hP hD hS (lv_sub hl [1, 2, 3, 4] rfl) heq
    have heq := it_t c_13 heq
    refine lv_aload_n hx hb dX11_hitBy_70 rfl (lv_at hl 1 rfl) ?_
    refine mg (k := 10) (v := .ref (a 7)) hx hb hts hin hown hK hP (by decide) f28 rfl dX11_hitBy_71 rfl ?_
    refine lv_iload_n hx hb dX11_hitBy_74 rfl (lv_at hl 4 rfl) ?_
    obtain ⟨n_14, heq⟩ := inr_h heq
    refine mal (k := 10) (q := 7) (n := 6) hx hb hK hP rfl n_14 dX11_hitBy_75 ?_
    refine lv_aload_n hx hb dX11_hitBy_76 rfl (lv_at hl 1 rfl) ?_
    obtain ⟨y_16, st_15, h_17, heq⟩ := bnd_h heq
    refine g_vi (own := RX11) (As := []) (rest := [.int (gA st_10 10 v3.toNatClampNeg)]) hx hb hml hown hts (okX11_topFar l D a T h_17) (cwV 0 hts gX11_hitBy_X11_topFar rfl rfl rfl hdX11_topFar ⟨Nat.le_of_ble_eq_true rfl, Nat.le_of_ble_eq_true rfl⟩) hK hA hP hD hS (ci := 11) (q0 := 0) rfl rfl rfl hl.1 rfl (Nat.le_of_ble_eq_true rfl) dX11_hitBy_77 ⟨Nat.le_of_ble_eq_true rfl, Nat.le_of_ble_eq_true rfl⟩ (fun H locs hP hD hS => ?_)
    refine lv_isub hx hb dX11_hitBy_80 ?_
    obtain ⟨y_18, h_19, heq⟩ := bd1_h heq
    refine g_si (own := RX11) (D := D) (As := [.int ((gA st_10 10 v3.toNatClampNeg) - y_16)]) (rest := []) hx hb hml hown hts (okX11_plainly l D h_19) (cwS 1 hts gX11_hitBy_X11_plainly rfl rfl rfl hdX11_plainly ⟨Nat.le_of_ble_eq_true rfl, Nat.le_of_ble_eq_true rfl⟩) hK hA hP hS rfl hl.1 rfl (Nat.le_of_ble_eq_true rfl) dX11_hitBy_81 ⟨Nat.le_of_ble_eq_true rfl, Nat.le_of_ble_eq_true rfl⟩ (fun H locs hP hS => ?_)
    refine lv_bipush (v := (10 : Int32)) hx hb dX11_hitBy_84 (by decide) ?_
    refine lv_icmp_gt (tgt := 93) hx hb dX11_hitBy_86 (by decide) (fun c_20 => ?_) (fun c_20 => ?_)
    · have heq := it_t c_20 heq
      exact b93 k4 hk4 st_15 v1 v2 v3 H locs ls hP hD hS (lv_sub hl [1, 2, 3, 4] rfl) heq
    have heq := it_f c_20 heq
    exact b89 k4 hk4 st_15 v1 v2 v3 H locs ls hP hD hS (lv_sub hl [1, 2, 3, 4] rfl) heq
  have b41 : ∀ (k4 : MS → Int32 → Int32 → Int32 → Option (Int32 × MS)) (hk4 : ∀ (st : MS) (v1 : Int32) (v2 : Int32) (v3 : Int32) (H : Heap) (locs : List Loc) (ls : Array Slot), va_P D vwCl (mW a T st) H → va_D A (mW a T st) → va_S A s.heap H locs → lv_has ls 5 [(0, .ref (a 0)), (1, .int v1), (2, .int v2), (3, .int v3)] → k4 st v1 v2 v3 = some (r, st') → W p l e rmX11_hitBy s m args below meth c H locs 0 0 Q (F0 m 4 ls [])), ∀ (st : MS) (v1 : Int32) (v2 : Int32) (v3 : Int32) (H : Heap) (locs : List Loc) (ls : Array Slot), va_P D vwCl (mW a T st) H → va_D A (mW a T st) → va_S A s.heap H locs → lv_has ls 5 [(0, .ref (a 0)), (1, .int v1), (2, .int v2), (3, .int v3)] → X11_hitBy_p41 k4 st v1 v2 v3 = some (r, st') → W p l e rmX11_hitBy s m args below meth c H locs 0 0 Q (F0 m 41 ls []) := by
    intro k4 hk4 st v1 v2 v3 H locs ls hP hD hS hl heq
    unfold X11_hitBy_p41 at heq
    refine lv_iconst (v := (0 : Int32)) hx hb dX11_hitBy_41 (by decide) ?_
    exact b42 k4 hk4 st v1 v2 v3 (0 : Int32) H locs ls hP hD hS (lv_sub hl [0, 1, 2, 3] rfl) heq
  have b117 : ∀ (st : MS) (v2 : Int32) (H : Heap) (locs : List Loc) (ls : Array Slot), va_P D vwCl (mW a T st) H → va_D A (mW a T st) → va_S A s.heap H locs → lv_has ls 5 [(2, .int v2)] → X11_hitBy_p117  st v2 = some (r, st') → W p l e rmX11_hitBy s m args below meth c H locs 0 0 Q (F0 m 117 ls []) := by
    intro st v2 H locs ls hP hD hS hl heq
    unfold X11_hitBy_p117 at heq
    refine lv_iload_n hx hb dX11_hitBy_117 rfl (lv_at hl 0 rfl) ?_
    obtain ⟨heq, heq2⟩ := ret_h heq
    subst heq
    subst heq2
    exact hret 118 H locs ls hP hD hS rfl dX11_hitBy_118
  have b4 : ∀ (n : Nat), ∀ (st : MS) (v1 : Int32) (v2 : Int32) (v3 : Int32) (H : Heap) (locs : List Loc) (ls : Array Slot), va_P D vwCl (mW a T st) H → va_D A (mW a T st) → va_S A s.heap H locs → lv_has ls 5 [(0, .ref (a 0)), (1, .int v1), (2, .int v2), (3, .int v3)] → X11_hitBy_p4  n st v1 v2 v3 = some (r, st') → W p l e rmX11_hitBy s m args below meth c H locs 0 0 Q (F0 m 4 ls []) := by
    intro n
    induction n with
    | zero => intro st v1 v2 v3 H locs ls hP hD hS hl heq; cases heq
    | succ n ih =>
      intro st v1 v2 v3 H locs ls hP hD hS hl heq
      rw [X11_hitBy_p4_s] at heq
      refine lv_iload_n hx hb dX11_hitBy_4 rfl (lv_at hl 3 rfl) ?_
      refine lv_aload_n hx hb dX11_hitBy_5 rfl (lv_at hl 0 rfl) ?_
      refine mg (k := 8) (v := .int (gF st 8)) hx hb hts hin hown hK hP (by decide) f170 rfl dX11_hitBy_6 rfl ?_
      refine lv_icmp_ge (tgt := 117) hx hb dX11_hitBy_9 (by decide) (fun c_21 => ?_) (fun c_21 => ?_)
      · have heq := it_t c_21 heq
        exact b117 st v2 H locs ls hP hD hS (lv_sub hl [2] rfl) heq
      have heq := it_f c_21 heq
      refine lv_aload_n hx hb dX11_hitBy_12 rfl (lv_at hl 0 rfl) ?_
      refine mg (k := 9) (v := .ref (a 6)) hx hb hts hin hown hK hP (by decide) f25 rfl dX11_hitBy_13 rfl ?_
      refine lv_iload_n hx hb dX11_hitBy_16 rfl (lv_at hl 3 rfl) ?_
      obtain ⟨n_22, heq⟩ := inr_h heq
      refine mal (k := 9) (q := 6) (n := 6) hx hb hK hP rfl n_22 dX11_hitBy_17 ?_
      refine lv_iload_n hx hb dX11_hitBy_18 rfl (lv_at hl 1 rfl) ?_
      refine lv_icmp_ne (tgt := 41) hx hb dX11_hitBy_19 (by decide) (fun c_23 => ?_) (fun c_23 => ?_)
      · have heq := it_f c_23 heq
        exact b41 (fun st v1 v2 v3 => X11_hitBy_p4  n st v1 v2 v3) ih st v1 v2 v3 H locs ls hP hD hS (lv_sub hl [0, 1, 2, 3] rfl) heq
      have heq := it_t c_23 heq
      refine lv_aload_n hx hb dX11_hitBy_22 rfl (lv_at hl 0 rfl) ?_
      refine mg (k := 10) (v := .ref (a 7)) hx hb hts hin hown hK hP (by decide) f28 rfl dX11_hitBy_23 rfl ?_
      refine lv_iload_n hx hb dX11_hitBy_26 rfl (lv_at hl 3 rfl) ?_
      obtain ⟨n_24, heq⟩ := inr_h heq
      refine mal (k := 10) (q := 7) (n := 6) hx hb hK hP rfl n_24 dX11_hitBy_27 ?_
      refine lv_aload_n hx hb dX11_hitBy_28 rfl (lv_at hl 0 rfl) ?_
      refine mg (k := 4) (v := .ref (a 5)) hx hb hts hin hown hK hP (by decide) f22 rfl dX11_hitBy_29 rfl ?_
      refine lv_iconst (v := (5 : Int32)) hx hb dX11_hitBy_32 (by decide) ?_
      obtain ⟨n_25, heq⟩ := inr_h heq
      refine mal (k := 4) (q := 5) (n := 7) hx hb hK hP rfl n_25 dX11_hitBy_33 ?_
      refine lv_icmp_gt (tgt := 41) hx hb dX11_hitBy_34 (by decide) (fun c_26 => ?_) (fun c_26 => ?_)
      · have heq := it_t c_26 heq
        exact b41 (fun st v1 v2 v3 => X11_hitBy_p4  n st v1 v2 v3) ih st v1 v2 v3 H locs ls hP hD hS (lv_sub hl [0, 1, 2, 3] rfl) heq
      have heq := it_f c_26 heq
      refine lv_iconst (v := (1 : Int32)) hx hb dX11_hitBy_37 (by decide) ?_
      refine lv_goto (tgt := 42) hx hb dX11_hitBy_38 (by decide) ?_
      exact b42 (fun st v1 v2 v3 => X11_hitBy_p4  n st v1 v2 v3) ih st v1 v2 v3 (1 : Int32) H locs ls hP hD hS (lv_sub hl [0, 1, 2, 3] rfl) heq
  obtain ⟨H, hH⟩ : ∃ H, H = s.heap := ⟨_, rfl⟩
  obtain ⟨locs, hlocs⟩ : ∃ z : List Loc, z = [] := ⟨_, rfl⟩
  have hS : va_S A s.heap H locs := by rw [hH, hlocs]; exact hS
  have hP : va_P D vwCl (mW a T st) H := by rw [hH]; exact hP
  suffices h9 : W p l e rmX11_hitBy s m args below meth c H locs 0 0 Q (F0 m 0 ls []) by rw [hH, hlocs] at h9; exact h9
  clear hH hlocs
  unfold X11_hitBy at heq
  refine lv_iconst (v := (0 : Int32)) hx hb dX11_hitBy_0 (by decide) ?_
  refine lv_istore_n (lv' := [(2, .int (0 : Int32)), (0, .ref (a 0)), (1, .int v1)]) hx hb dX11_hitBy_1 rfl hl (by decide) rfl (fun ls hl => ?_)
  refine lv_iconst (v := (0 : Int32)) hx hb dX11_hitBy_2 (by decide) ?_
  refine lv_istore_n (lv' := [(3, .int (0 : Int32)), (2, .int (0 : Int32)), (0, .ref (a 0)), (1, .int v1)]) hx hb dX11_hitBy_3 rfl hl (by decide) rfl (fun ls hl => ?_)
  exact b4 5000 st v1 (0 : Int32) (0 : Int32) H locs ls hP hD hS (lv_sub hl [2, 3, 1, 0] rfl) heq
theorem dX11_kickedBy_0 : decode cX11_kickedBy 0 = .ok (.iconst 0, 1) := by decide +kernel
theorem dX11_kickedBy_1 : decode cX11_kickedBy 1 = .ok (.istore_n 2, 1) := by decide +kernel
theorem dX11_kickedBy_2 : decode cX11_kickedBy 2 = .ok (.iconst 0, 1) := by decide +kernel
theorem dX11_kickedBy_3 : decode cX11_kickedBy 3 = .ok (.istore_n 3, 1) := by decide +kernel
theorem dX11_kickedBy_4 : decode cX11_kickedBy 4 = .ok (.iload_n 3, 1) := by decide +kernel
theorem dX11_kickedBy_5 : decode cX11_kickedBy 5 = .ok (.aload_n 0, 1) := by decide +kernel
theorem dX11_kickedBy_6 : decode cX11_kickedBy 6 = .ok (.getfield 170, 3) := by decide +kernel
theorem dX11_kickedBy_9 : decode cX11_kickedBy 9 = .ok (.if_icmp .ge 53, 3) := by decide +kernel
theorem dX11_kickedBy_12 : decode cX11_kickedBy 12 = .ok (.iload_n 2, 1) := by decide +kernel
theorem dX11_kickedBy_13 : decode cX11_kickedBy 13 = .ok (.aload_n 0, 1) := by decide +kernel
theorem dX11_kickedBy_14 : decode cX11_kickedBy 14 = .ok (.getfield 25, 3) := by decide +kernel
theorem dX11_kickedBy_17 : decode cX11_kickedBy 17 = .ok (.iload_n 3, 1) := by decide +kernel
theorem dX11_kickedBy_18 : decode cX11_kickedBy 18 = .ok (.iaload, 1) := by decide +kernel
theorem dX11_kickedBy_19 : decode cX11_kickedBy 19 = .ok (.iload_n 1, 1) := by decide +kernel
theorem dX11_kickedBy_20 : decode cX11_kickedBy 20 = .ok (.bipush 6, 2) := by decide +kernel
theorem dX11_kickedBy_22 : decode cX11_kickedBy 22 = .ok (.iadd, 1) := by decide +kernel
theorem dX11_kickedBy_23 : decode cX11_kickedBy 23 = .ok (.bipush 12, 2) := by decide +kernel
theorem dX11_kickedBy_25 : decode cX11_kickedBy 25 = .ok (.irem, 1) := by decide +kernel
theorem dX11_kickedBy_26 : decode cX11_kickedBy 26 = .ok (.if_icmp .ne 27, 3) := by decide +kernel
theorem dX11_kickedBy_29 : decode cX11_kickedBy 29 = .ok (.aload_n 0, 1) := by decide +kernel
theorem dX11_kickedBy_30 : decode cX11_kickedBy 30 = .ok (.getfield 28, 3) := by decide +kernel
theorem dX11_kickedBy_33 : decode cX11_kickedBy 33 = .ok (.iload_n 3, 1) := by decide +kernel
theorem dX11_kickedBy_34 : decode cX11_kickedBy 34 = .ok (.iaload, 1) := by decide +kernel
theorem dX11_kickedBy_35 : decode cX11_kickedBy 35 = .ok (.aload_n 0, 1) := by decide +kernel
theorem dX11_kickedBy_36 : decode cX11_kickedBy 36 = .ok (.getfield 22, 3) := by decide +kernel
theorem dX11_kickedBy_39 : decode cX11_kickedBy 39 = .ok (.iconst 5, 1) := by decide +kernel
theorem dX11_kickedBy_40 : decode cX11_kickedBy 40 = .ok (.iaload, 1) := by decide +kernel
theorem dX11_kickedBy_41 : decode cX11_kickedBy 41 = .ok (.bipush 6, 2) := by decide +kernel
theorem dX11_kickedBy_43 : decode cX11_kickedBy 43 = .ok (.idiv, 1) := by decide +kernel
theorem dX11_kickedBy_44 : decode cX11_kickedBy 44 = .ok (.if_icmp .gt 9, 3) := by decide +kernel
theorem dX11_kickedBy_47 : decode cX11_kickedBy 47 = .ok (.iconst 1, 1) := by decide +kernel
theorem dX11_kickedBy_48 : decode cX11_kickedBy 48 = .ok (.iload_n 3, 1) := by decide +kernel
theorem dX11_kickedBy_49 : decode cX11_kickedBy 49 = .ok (.ishl, 1) := by decide +kernel
theorem dX11_kickedBy_50 : decode cX11_kickedBy 50 = .ok (.goto 4, 3) := by decide +kernel
theorem dX11_kickedBy_53 : decode cX11_kickedBy 53 = .ok (.iconst 0, 1) := by decide +kernel
theorem dX11_kickedBy_54 : decode cX11_kickedBy 54 = .ok (.ior, 1) := by decide +kernel
theorem dX11_kickedBy_55 : decode cX11_kickedBy 55 = .ok (.istore_n 2, 1) := by decide +kernel
theorem dX11_kickedBy_56 : decode cX11_kickedBy 56 = .ok (.iinc 3 1, 3) := by decide +kernel
theorem dX11_kickedBy_59 : decode cX11_kickedBy 59 = .ok (.goto (-55), 3) := by decide +kernel
theorem dX11_kickedBy_62 : decode cX11_kickedBy 62 = .ok (.iload_n 2, 1) := by decide +kernel
theorem dX11_kickedBy_63 : decode cX11_kickedBy 63 = .ok (.ireturn, 1) := by decide +kernel
/-! kickedBy -/
def X11_kickedBy_p54 (k4 : MS → Int32 → Int32 → Int32 → Option (Int32 × MS)) (st : MS) (v1 : Int32) (v3 : Int32) (t0 : Int32) (t1 : Int32) : Option (Int32 × MS) :=
    nm ((t0 ||| t1)) fun x_1 =>
    nm (v3 + (1 : Int32)) fun x_2 =>
    k4 st v1 x_1 x_2
def X11_kickedBy_p53 (k4 : MS → Int32 → Int32 → Int32 → Option (Int32 × MS)) (st : MS) (v1 : Int32) (v3 : Int32) (t0 : Int32) : Option (Int32 × MS) :=
    X11_kickedBy_p54 k4 st v1 v3 t0 (0 : Int32)
def X11_kickedBy_p62 (st : MS) (v2 : Int32) : Option (Int32 × MS) :=
    some (v2, st)
def X11_kickedBy_p4 : Nat → MS → Int32 → Int32 → Int32 → Option (Int32 × MS)
  | 0, _, _, _, _ => none
  | n + 1, st, v1, v2, v3 =>
    if (gF st 8) ≤ v3 then
      (X11_kickedBy_p62 st v2)
    else
    inr v3 6 <|
    dvi (12 : Int32) <|
    if (gA st 9 v3.toNatClampNeg) = ((v1 + (6 : Int32)) - (v1 + (6 : Int32)) / (12 : Int32) * (12 : Int32)) then
      (inr v3 6 <|
      inr (5 : Int32) 7 <|
      dvi (6 : Int32) <|
      if ((gA st 4 (5 : Int32).toNatClampNeg) / (6 : Int32)) < (gA st 10 v3.toNatClampNeg) then
        (X11_kickedBy_p53 (fun st v1 v2 v3 => X11_kickedBy_p4  n st v1 v2 v3) st v1 v3 v2)
      else
      X11_kickedBy_p54 (fun st v1 v2 v3 => X11_kickedBy_p4  n st v1 v2 v3) st v1 v3 v2 ((1 : Int32) <<< (v3 &&& 31)))
    else
    X11_kickedBy_p53 (fun st v1 v2 v3 => X11_kickedBy_p4  n st v1 v2 v3) st v1 v3 v2
theorem X11_kickedBy_p4_s (n : Nat) (st : MS) (v1 : Int32) (v2 : Int32) (v3 : Int32) : X11_kickedBy_p4  (n + 1) st v1 v2 v3 =
    (if (gF st 8) ≤ v3 then
      (X11_kickedBy_p62 st v2)
    else
    inr v3 6 <|
    dvi (12 : Int32) <|
    if (gA st 9 v3.toNatClampNeg) = ((v1 + (6 : Int32)) - (v1 + (6 : Int32)) / (12 : Int32) * (12 : Int32)) then
      (inr v3 6 <|
      inr (5 : Int32) 7 <|
      dvi (6 : Int32) <|
      if ((gA st 4 (5 : Int32).toNatClampNeg) / (6 : Int32)) < (gA st 10 v3.toNatClampNeg) then
        (X11_kickedBy_p53 (fun st v1 v2 v3 => X11_kickedBy_p4  n st v1 v2 v3) st v1 v3 v2)
      else
      X11_kickedBy_p54 (fun st v1 v2 v3 => X11_kickedBy_p4  n st v1 v2 v3) st v1 v3 v2 ((1 : Int32) <<< (v3 &&& 31)))
    else
    X11_kickedBy_p53 (fun st v1 v2 v3 => X11_kickedBy_p4  n st v1 v2 v3) st v1 v3 v2) := rfl
def X11_kickedBy (st : MS) (v1 : Int32) : Option (Int32 × MS) :=
    X11_kickedBy_p4 5000 st v1 (0 : Int32) (0 : Int32)
abbrev rmX11_kickedBy : Room := { frames := 0, cells := 0, slots := 0, locals := 0 }
theorem hdX11_kickedBy : yX11_kickedBy.cls = RX11 ∧ yX11_kickedBy.cls ≠ "java/lang/invoke/MethodHandle" ∧ yX11_kickedBy.cls ≠ "java/lang/invoke/VarHandle" ∧ (parseMethodDescriptor yX11_kickedBy.desc).map (fun d => d.parameters.length) = some 1 := by decide +kernel
set_option maxRecDepth 100000 in
set_option maxHeartbeats 4000000 in
theorem okX11_kickedBy (l : Launch) (D : va_G) (a : Nat → Nat) (T : mT3) {st : MS} {v1 : Int32} {r : Int32} {st' : MS} (heq : X11_kickedBy st v1 = some (r, st')) : gCi l D (mT T) yX11_kickedBy wsX11_kickedBy rmX11_kickedBy [.ref (a 0), .int v1] (mW a T st) r (mW a T st') := by
  refine g_body_i (by decide) rfl (Nat.le_of_ble_eq_true rfl) (fun p e s m args below meth c A Q hx hb hml hown hts hK hA hret ls hP hD hS hl => ?_)
  have hl : lv_has ls 4 [(0, .ref (a 0)), (1, .int v1)] := hl
  have hin : ∀ w ∈ wsX110, w ∈ wsX11_kickedBy := fun w h => List.mem_cons_of_mem _ (List.mem_append_right _ h)
  have f22 : (Cond.fieldLink RX11 22 RX11 (TX11 4).2.1 (TX11 4).2.2.1).before args s = true := hts (.fieldLink RX11 22 "LaidDownTheLaneModel" "settings" "[I") (by decide +kernel)
  have f25 : (Cond.fieldLink RX11 25 RX11 (TX11 9).2.1 (TX11 9).2.2.1).before args s = true := hts (.fieldLink RX11 25 "LaidDownTheLaneModel" "sides" "[I") (by decide +kernel)
  have f28 : (Cond.fieldLink RX11 28 RX11 (TX11 10).2.1 (TX11 10).2.2.1).before args s = true := hts (.fieldLink RX11 28 "LaidDownTheLaneModel" "fars" "[I") (by decide +kernel)
  have f170 : (Cond.fieldLink RX11 170 RX11 (TX11 8).2.1 (TX11 8).2.2.1).before args s = true := hts (.fieldLink RX11 170 "LaidDownTheLaneModel" "houses" "I") (by decide +kernel)
  have b54 : ∀ (k4 : MS → Int32 → Int32 → Int32 → Option (Int32 × MS)) (hk4 : ∀ (st : MS) (v1 : Int32) (v2 : Int32) (v3 : Int32) (H : Heap) (locs : List Loc) (ls : Array Slot), va_P D vwCl (mW a T st) H → va_D A (mW a T st) → va_S A s.heap H locs → lv_has ls 4 [(0, .ref (a 0)), (1, .int v1), (2, .int v2), (3, .int v3)] → k4 st v1 v2 v3 = some (r, st') → W p l e rmX11_kickedBy s m args below meth c H locs 0 0 Q (F0 m 4 ls [])), ∀ (st : MS) (v1 : Int32) (v3 : Int32) (t0 : Int32) (t1 : Int32) (H : Heap) (locs : List Loc) (ls : Array Slot), va_P D vwCl (mW a T st) H → va_D A (mW a T st) → va_S A s.heap H locs → lv_has ls 4 [(0, .ref (a 0)), (1, .int v1), (3, .int v3)] → X11_kickedBy_p54 k4 st v1 v3 t0 t1 = some (r, st') → W p l e rmX11_kickedBy s m args below meth c H locs 0 0 Q (F0 m 54 ls [.int t1, .int t0]) := by
    intro k4 hk4 st v1 v3 t0 t1 H locs ls hP hD hS hl heq
    unfold X11_kickedBy_p54 at heq
    refine lv_ior hx hb dX11_kickedBy_54 ?_
    refine lv_topi (fun x_1 ex_1 => ?_)
    have heq := nm_h ex_1 heq
    refine lv_istore_n (lv' := [(2, .int x_1), (0, .ref (a 0)), (1, .int v1), (3, .int v3)]) hx hb dX11_kickedBy_55 rfl hl (by decide) rfl (fun ls hl => ?_)
    obtain ⟨x_2, ex_2⟩ : ∃ y : Int32, y = v3 + (1 : Int32) := ⟨_, rfl⟩
    have heq := nm_h ex_2 heq
    refine lv_iinc (v := x_2) (lv' := [(3, .int x_2), (2, .int x_1), (0, .ref (a 0)), (1, .int v1)]) hx hb dX11_kickedBy_56 hl (k := 3) rfl (by rw [ex_2]; rfl) (by decide) rfl (fun ls hl => ?_)
    refine lv_goto (tgt := 4) hx hb dX11_kickedBy_59 (by decide) ?_
    exact hk4 st v1 x_1 x_2 H locs ls hP hD hS (lv_sub hl [2, 3, 1, 0] rfl) heq
  have b53 : ∀ (k4 : MS → Int32 → Int32 → Int32 → Option (Int32 × MS)) (hk4 : ∀ (st : MS) (v1 : Int32) (v2 : Int32) (v3 : Int32) (H : Heap) (locs : List Loc) (ls : Array Slot), va_P D vwCl (mW a T st) H → va_D A (mW a T st) → va_S A s.heap H locs → lv_has ls 4 [(0, .ref (a 0)), (1, .int v1), (2, .int v2), (3, .int v3)] → k4 st v1 v2 v3 = some (r, st') → W p l e rmX11_kickedBy s m args below meth c H locs 0 0 Q (F0 m 4 ls [])), ∀ (st : MS) (v1 : Int32) (v3 : Int32) (t0 : Int32) (H : Heap) (locs : List Loc) (ls : Array Slot), va_P D vwCl (mW a T st) H → va_D A (mW a T st) → va_S A s.heap H locs → lv_has ls 4 [(0, .ref (a 0)), (1, .int v1), (3, .int v3)] → X11_kickedBy_p53 k4 st v1 v3 t0 = some (r, st') → W p l e rmX11_kickedBy s m args below meth c H locs 0 0 Q (F0 m 53 ls [.int t0]) := by
    intro k4 hk4 st v1 v3 t0 H locs ls hP hD hS hl heq
    unfold X11_kickedBy_p53 at heq
    refine lv_iconst (v := (0 : Int32)) hx hb dX11_kickedBy_53 (by decide) ?_
    exact b54 k4 hk4 st v1 v3 t0 (0 : Int32) H locs ls hP hD hS (lv_sub hl [0, 1, 2] rfl) heq
  have b62 : ∀ (st : MS) (v2 : Int32) (H : Heap) (locs : List Loc) (ls : Array Slot), va_P D vwCl (mW a T st) H → va_D A (mW a T st) → va_S A s.heap H locs → lv_has ls 4 [(2, .int v2)] → X11_kickedBy_p62  st v2 = some (r, st') → W p l e rmX11_kickedBy s m args below meth c H locs 0 0 Q (F0 m 62 ls []) := by
    intro st v2 H locs ls hP hD hS hl heq
    unfold X11_kickedBy_p62 at heq
    refine lv_iload_n hx hb dX11_kickedBy_62 rfl (lv_at hl 0 rfl) ?_
    obtain ⟨heq, heq2⟩ := ret_h heq
    subst heq
    subst heq2
    exact hret 63 H locs ls hP hD hS rfl dX11_kickedBy_63
  have b4 : ∀ (n : Nat), ∀ (st : MS) (v1 : Int32) (v2 : Int32) (v3 : Int32) (H : Heap) (locs : List Loc) (ls : Array Slot), va_P D vwCl (mW a T st) H → va_D A (mW a T st) → va_S A s.heap H locs → lv_has ls 4 [(0, .ref (a 0)), (1, .int v1), (2, .int v2), (3, .int v3)] → X11_kickedBy_p4  n st v1 v2 v3 = some (r, st') → W p l e rmX11_kickedBy s m args below meth c H locs 0 0 Q (F0 m 4 ls []) := by
    intro n
    induction n with
    | zero => intro st v1 v2 v3 H locs ls hP hD hS hl heq; cases heq
    | succ n ih =>
      intro st v1 v2 v3 H locs ls hP hD hS hl heq
      rw [X11_kickedBy_p4_s] at heq
      refine lv_iload_n hx hb dX11_kickedBy_4 rfl (lv_at hl 3 rfl) ?_
      refine lv_aload_n hx hb dX11_kickedBy_5 rfl (lv_at hl 0 rfl) ?_
      refine mg (k := 8) (v := .int (gF st 8)) hx hb hts hin hown hK hP (by decide) f170 rfl dX11_kickedBy_6 rfl ?_
      refine lv_icmp_ge (tgt := 62) hx hb dX11_kickedBy_9 (by decide) (fun c_3 => ?_) (fun c_3 => ?_)
      · have heq := it_t c_3 heq
        exact b62 st v2 H locs ls hP hD hS (lv_sub hl [2] rfl) heq
      have heq := it_f c_3 heq
      refine lv_iload_n hx hb dX11_kickedBy_12 rfl (lv_at hl 2 rfl) ?_
      refine lv_aload_n hx hb dX11_kickedBy_13 rfl (lv_at hl 0 rfl) ?_
      refine mg (k := 9) (v := .ref (a 6)) hx hb hts hin hown hK hP (by decide) f25 rfl dX11_kickedBy_14 rfl ?_
      refine lv_iload_n hx hb dX11_kickedBy_17 rfl (lv_at hl 3 rfl) ?_
      obtain ⟨n_4, heq⟩ := inr_h heq
      refine mal (k := 9) (q := 6) (n := 6) hx hb hK hP rfl n_4 dX11_kickedBy_18 ?_
      refine lv_iload_n hx hb dX11_kickedBy_19 rfl (lv_at hl 1 rfl) ?_
      refine lv_bipush (v := (6 : Int32)) hx hb dX11_kickedBy_20 (by decide) ?_
      refine lv_iadd hx hb dX11_kickedBy_22 ?_
      refine lv_bipush (v := (12 : Int32)) hx hb dX11_kickedBy_23 (by decide) ?_
      obtain ⟨n_5, heq⟩ := dvi_h heq
      refine lv_irem hx hb dX11_kickedBy_25 n_5 ?_
      refine lv_icmp_ne (tgt := 53) hx hb dX11_kickedBy_26 (by decide) (fun c_6 => ?_) (fun c_6 => ?_)
      · have heq := it_f c_6 heq
        exact b53 (fun st v1 v2 v3 => X11_kickedBy_p4  n st v1 v2 v3) ih st v1 v3 v2 H locs ls hP hD hS (lv_sub hl [0, 1, 3] rfl) heq
      have heq := it_t c_6 heq
      refine lv_aload_n hx hb dX11_kickedBy_29 rfl (lv_at hl 0 rfl) ?_
      refine mg (k := 10) (v := .ref (a 7)) hx hb hts hin hown hK hP (by decide) f28 rfl dX11_kickedBy_30 rfl ?_
      refine lv_iload_n hx hb dX11_kickedBy_33 rfl (lv_at hl 3 rfl) ?_
      obtain ⟨n_7, heq⟩ := inr_h heq
      refine mal (k := 10) (q := 7) (n := 6) hx hb hK hP rfl n_7 dX11_kickedBy_34 ?_
      refine lv_aload_n hx hb dX11_kickedBy_35 rfl (lv_at hl 0 rfl) ?_
      refine mg (k := 4) (v := .ref (a 5)) hx hb hts hin hown hK hP (by decide) f22 rfl dX11_kickedBy_36 rfl ?_
      refine lv_iconst (v := (5 : Int32)) hx hb dX11_kickedBy_39 (by decide) ?_
      obtain ⟨n_8, heq⟩ := inr_h heq
      refine mal (k := 4) (q := 5) (n := 7) hx hb hK hP rfl n_8 dX11_kickedBy_40 ?_
      refine lv_bipush (v := (6 : Int32)) hx hb dX11_kickedBy_41 (by decide) ?_
      obtain ⟨n_9, heq⟩ := dvi_h heq
      refine lv_idiv hx hb dX11_kickedBy_43 n_9 ?_
      refine lv_icmp_gt (tgt := 53) hx hb dX11_kickedBy_44 (by decide) (fun c_10 => ?_) (fun c_10 => ?_)
      · have heq := it_t c_10 heq
        exact b53 (fun st v1 v2 v3 => X11_kickedBy_p4  n st v1 v2 v3) ih st v1 v3 v2 H locs ls hP hD hS (lv_sub hl [0, 1, 3] rfl) heq
      have heq := it_f c_10 heq
      refine lv_iconst (v := (1 : Int32)) hx hb dX11_kickedBy_47 (by decide) ?_
      refine lv_iload_n hx hb dX11_kickedBy_48 rfl (lv_at hl 3 rfl) ?_
      refine lv_ishl hx hb dX11_kickedBy_49 ?_
      refine lv_goto (tgt := 54) hx hb dX11_kickedBy_50 (by decide) ?_
      exact b54 (fun st v1 v2 v3 => X11_kickedBy_p4  n st v1 v2 v3) ih st v1 v3 v2 ((1 : Int32) <<< (v3 &&& 31)) H locs ls hP hD hS (lv_sub hl [0, 1, 3] rfl) heq
  obtain ⟨H, hH⟩ : ∃ H, H = s.heap := ⟨_, rfl⟩
  obtain ⟨locs, hlocs⟩ : ∃ z : List Loc, z = [] := ⟨_, rfl⟩
  have hS : va_S A s.heap H locs := by rw [hH, hlocs]; exact hS
  have hP : va_P D vwCl (mW a T st) H := by rw [hH]; exact hP
  suffices h9 : W p l e rmX11_kickedBy s m args below meth c H locs 0 0 Q (F0 m 0 ls []) by rw [hH, hlocs] at h9; exact h9
  clear hH hlocs
  unfold X11_kickedBy at heq
  refine lv_iconst (v := (0 : Int32)) hx hb dX11_kickedBy_0 (by decide) ?_
  refine lv_istore_n (lv' := [(2, .int (0 : Int32)), (0, .ref (a 0)), (1, .int v1)]) hx hb dX11_kickedBy_1 rfl hl (by decide) rfl (fun ls hl => ?_)
  refine lv_iconst (v := (0 : Int32)) hx hb dX11_kickedBy_2 (by decide) ?_
  refine lv_istore_n (lv' := [(3, .int (0 : Int32)), (2, .int (0 : Int32)), (0, .ref (a 0)), (1, .int v1)]) hx hb dX11_kickedBy_3 rfl hl (by decide) rfl (fun ls hl => ?_)
  exact b4 5000 st v1 (0 : Int32) (0 : Int32) H locs ls hP hD hS (lv_sub hl [2, 3, 1, 0] rfl) heq
set_option maxRecDepth 20000 in
theorem ggX11_struckBy_X11_hitBy : GoodIn wsX11_struckBy wsX11_hitBy := goodIn_r _ [5, 6, 7, 8, 9, 10, 11, 12, 4, 13, 14, 15, 16, 17, 18, 19, 20, 21, 22, 23, 24, 25, 30, 31, 32, 33, 34, 35, 36, 37, 38, 39, 40, 41, 42, 43, 44, 45, 46, 47, 48, 49, 50, 51, 52, 53, 54, 55, 56, 57, 58, 59, 60, 61, 62, 63, 64, 65, 66] (by decide +kernel) (by decide +kernel)
set_option maxRecDepth 20000 in
theorem gX11_struckBy_X11_hitBy : GoodIn wsX11_struckBy (wsV RX11 293 RX11 yX11_hitBy wsX11_hitBy) := goodIn_app (goodIn_of _ (by decide +kernel)) ggX11_struckBy_X11_hitBy
set_option maxRecDepth 20000 in
theorem ggX11_struckBy_X11_kickedBy : GoodIn wsX11_struckBy wsX11_kickedBy := goodIn_r _ [29, 6, 7, 8, 9, 30, 31, 32, 33, 34, 35, 36, 37, 38, 39, 40, 41, 42, 43, 44, 45, 46, 47, 48, 49, 50, 51, 52, 53, 54, 55, 56, 57, 58, 59, 60, 61, 62, 63, 64, 65, 66] (by decide +kernel) (by decide +kernel)
set_option maxRecDepth 20000 in
theorem gX11_struckBy_X11_kickedBy : GoodIn wsX11_struckBy (wsV RX11 296 RX11 yX11_kickedBy wsX11_kickedBy) := goodIn_app (goodIn_of _ (by decide +kernel)) ggX11_struckBy_X11_kickedBy
theorem dX11_struckBy_0 : decode cX11_struckBy 0 = .ok (.aload_n 0, 1) := by decide +kernel
theorem dX11_struckBy_1 : decode cX11_struckBy 1 = .ok (.iload_n 1, 1) := by decide +kernel
theorem dX11_struckBy_2 : decode cX11_struckBy 2 = .ok (.invokevirtual 293, 3) := by decide +kernel
theorem dX11_struckBy_5 : decode cX11_struckBy 5 = .ok (.aload_n 0, 1) := by decide +kernel
theorem dX11_struckBy_6 : decode cX11_struckBy 6 = .ok (.iload_n 1, 1) := by decide +kernel
theorem dX11_struckBy_7 : decode cX11_struckBy 7 = .ok (.invokevirtual 296, 3) := by decide +kernel
theorem dX11_struckBy_10 : decode cX11_struckBy 10 = .ok (.ior, 1) := by decide +kernel
theorem dX11_struckBy_11 : decode cX11_struckBy 11 = .ok (.ireturn, 1) := by decide +kernel
/-! struckBy -/
def X11_struckBy (st : MS) (v1 : Int32) : Option (Int32 × MS) :=
    bnd (X11_hitBy st v1) fun y_2 st_1 =>
    bnd (X11_kickedBy st_1 v1) fun y_5 st_4 =>
    some ((y_2 ||| y_5), st_4)
abbrev rmX11_struckBy : Room := { frames := 2, cells := 0, slots := 0, locals := 46 }
theorem hdX11_struckBy : yX11_struckBy.cls = RX11 ∧ yX11_struckBy.cls ≠ "java/lang/invoke/MethodHandle" ∧ yX11_struckBy.cls ≠ "java/lang/invoke/VarHandle" ∧ (parseMethodDescriptor yX11_struckBy.desc).map (fun d => d.parameters.length) = some 1 := by decide +kernel
set_option maxRecDepth 100000 in
set_option maxHeartbeats 4000000 in
theorem okX11_struckBy (l : Launch) (D : va_G) (a : Nat → Nat) (T : mT3) {st : MS} {v1 : Int32} {r : Int32} {st' : MS} (heq : X11_struckBy st v1 = some (r, st')) : gCi l D (mT T) yX11_struckBy wsX11_struckBy rmX11_struckBy [.ref (a 0), .int v1] (mW a T st) r (mW a T st') := by
  refine g_body_i (by decide) rfl (Nat.le_of_ble_eq_true rfl) (fun p e s m args below meth c A Q hx hb hml hown hts hK hA hret ls hP hD hS hl => ?_)
  have hl : lv_has ls 2 [(0, .ref (a 0)), (1, .int v1)] := hl
  obtain ⟨H, hH⟩ : ∃ H, H = s.heap := ⟨_, rfl⟩
  obtain ⟨locs, hlocs⟩ : ∃ z : List Loc, z = [] := ⟨_, rfl⟩
  have hS : va_S A s.heap H locs := by rw [hH, hlocs]; exact hS
  have hP : va_P D vwCl (mW a T st) H := by rw [hH]; exact hP
  suffices h9 : W p l e rmX11_struckBy s m args below meth c H locs 0 0 Q (F0 m 0 ls []) by rw [hH, hlocs] at h9; exact h9
  clear hH hlocs
  unfold X11_struckBy at heq
  refine lv_aload_n hx hb dX11_struckBy_0 rfl (lv_at hl 0 rfl) ?_
  refine lv_iload_n hx hb dX11_struckBy_1 rfl (lv_at hl 1 rfl) ?_
  obtain ⟨y_2, st_1, h_3, heq⟩ := bnd_h heq
  refine g_vi (own := RX11) (As := [.int v1]) (rest := []) hx hb hml hown hts (okX11_hitBy l D a T h_3) (cwV 1 hts gX11_struckBy_X11_hitBy rfl rfl rfl hdX11_hitBy ⟨Nat.le_of_ble_eq_true rfl, Nat.le_of_ble_eq_true rfl⟩) hK hA hP hD hS (ci := 11) (q0 := 0) rfl rfl rfl hl.1 rfl (Nat.le_of_ble_eq_true rfl) dX11_struckBy_2 ⟨Nat.le_of_ble_eq_true rfl, Nat.le_of_ble_eq_true rfl⟩ (fun H locs hP hD hS => ?_)
  refine lv_aload_n hx hb dX11_struckBy_5 rfl (lv_at hl 0 rfl) ?_
  refine lv_iload_n hx hb dX11_struckBy_6 rfl (lv_at hl 1 rfl) ?_
  obtain ⟨y_5, st_4, h_6, heq⟩ := bnd_h heq
  refine g_vi (own := RX11) (As := [.int v1]) (rest := [.int y_2]) hx hb hml hown hts (okX11_kickedBy l D a T h_6) (cwV 1 hts gX11_struckBy_X11_kickedBy rfl rfl rfl hdX11_kickedBy ⟨Nat.le_of_ble_eq_true rfl, Nat.le_of_ble_eq_true rfl⟩) hK hA hP hD hS (ci := 11) (q0 := 0) rfl rfl rfl hl.1 rfl (Nat.le_of_ble_eq_true rfl) dX11_struckBy_7 ⟨Nat.le_of_ble_eq_true rfl, Nat.le_of_ble_eq_true rfl⟩ (fun H locs hP hD hS => ?_)
  refine lv_ior hx hb dX11_struckBy_10 ?_
  obtain ⟨heq, heq2⟩ := ret_h heq
  subst heq
  subst heq2
  exact hret 11 H locs ls hP hD hS rfl dX11_struckBy_11
set_option maxRecDepth 20000 in
theorem ggX11_hits_X11_isSide : GoodIn wsX11_hits wsX11_isSide := goodIn_r _ [6, 7, 8, 9, 5, 10] (by decide +kernel) (by decide +kernel)
set_option maxRecDepth 20000 in
theorem gX11_hits_X11_isSide : GoodIn wsX11_hits (va_wsS RX11 165 yX11_isSide wsX11_isSide) := goodIn_app (goodIn_of _ (by decide +kernel)) ggX11_hits_X11_isSide
set_option maxRecDepth 20000 in
theorem ggX11_hits_X11_in : GoodIn wsX11_hits wsX11_in := goodIn_r _ [10] (by decide +kernel) (by decide +kernel)
set_option maxRecDepth 20000 in
theorem gX11_hits_X11_in : GoodIn wsX11_hits (va_wsS RX11 81 yX11_in wsX11_in) := goodIn_app (goodIn_of _ (by decide +kernel)) ggX11_hits_X11_in
set_option maxRecDepth 20000 in
theorem ggX11_hits_X11_hitBy : GoodIn wsX11_hits wsX11_hitBy := goodIn_r _ [14, 15, 16, 17, 18, 19, 20, 21, 5, 22, 23, 24, 25, 26, 27, 28, 29, 30, 31, 32, 33, 34, 39, 40, 41, 42, 43, 44, 45, 46, 47, 48, 49, 50, 51, 52, 53, 54, 55, 56, 57, 58, 59, 60, 61, 62, 63, 64, 65, 66, 67, 68, 69, 70, 71, 72, 73, 74, 75] (by decide +kernel) (by decide +kernel)
set_option maxRecDepth 20000 in
theorem gX11_hits_X11_hitBy : GoodIn wsX11_hits (wsV RX11 293 RX11 yX11_hitBy wsX11_hitBy) := goodIn_app (goodIn_of _ (by decide +kernel)) ggX11_hits_X11_hitBy
set_option maxRecDepth 20000 in
theorem ggX11_hits_X11_kickedBy : GoodIn wsX11_hits wsX11_kickedBy := goodIn_r _ [38, 15, 16, 17, 18, 39, 40, 41, 42, 43, 44, 45, 46, 47, 48, 49, 50, 51, 52, 53, 54, 55, 56, 57, 58, 59, 60, 61, 62, 63, 64, 65, 66, 67, 68, 69, 70, 71, 72, 73, 74, 75] (by decide +kernel) (by decide +kernel)
set_option maxRecDepth 20000 in
theorem gX11_hits_X11_kickedBy : GoodIn wsX11_hits (wsV RX11 296 RX11 yX11_kickedBy wsX11_kickedBy) := goodIn_app (goodIn_of _ (by decide +kernel)) ggX11_hits_X11_kickedBy
set_option maxRecDepth 20000 in
theorem ggX11_hits_X11_breaks : GoodIn wsX11_hits wsX11_breaks := goodIn_r _ [22, 23, 18, 39, 40, 41, 42, 43, 44, 45, 46, 47, 48, 49, 50, 51, 52, 53, 54, 55, 56, 57, 58, 59, 60, 61, 62, 63, 64, 65, 66, 67, 68, 69, 70, 71, 72, 73, 74, 75] (by decide +kernel) (by decide +kernel)
set_option maxRecDepth 20000 in
theorem gX11_hits_X11_breaks : GoodIn wsX11_hits (wsV RX11 281 RX11 yX11_breaks wsX11_breaks) := goodIn_app (goodIn_of _ (by decide +kernel)) ggX11_hits_X11_breaks
set_option maxRecDepth 20000 in
theorem ggX11_hits_X11_topSide : GoodIn wsX11_hits wsX11_topSide := goodIn_r _ [27, 18, 39, 40, 41, 42, 43, 44, 45, 46, 47, 48, 49, 50, 51, 52, 53, 54, 55, 56, 57, 58, 59, 60, 61, 62, 63, 64, 65, 66, 67, 68, 69, 70, 71, 72, 73, 74, 75] (by decide +kernel) (by decide +kernel)
set_option maxRecDepth 20000 in
theorem gX11_hits_X11_topSide : GoodIn wsX11_hits (wsV RX11 284 RX11 yX11_topSide wsX11_topSide) := goodIn_app (goodIn_of _ (by decide +kernel)) ggX11_hits_X11_topSide
set_option maxRecDepth 20000 in
theorem ggX11_hits_X11_topFar : GoodIn wsX11_hits wsX11_topFar := goodIn_r _ [31, 18, 39, 40, 41, 42, 43, 44, 45, 46, 47, 48, 49, 50, 51, 52, 53, 54, 55, 56, 57, 58, 59, 60, 61, 62, 63, 64, 65, 66, 67, 68, 69, 70, 71, 72, 73, 74, 75] (by decide +kernel) (by decide +kernel)
set_option maxRecDepth 20000 in
theorem gX11_hits_X11_topFar : GoodIn wsX11_hits (wsV RX11 287 RX11 yX11_topFar wsX11_topFar) := goodIn_app (goodIn_of _ (by decide +kernel)) ggX11_hits_X11_topFar
theorem dX11_hits_0 : decode cX11_hits 0 = .ok (.aload_n 0, 1) := by decide +kernel
theorem dX11_hits_1 : decode cX11_hits 1 = .ok (.iconst 0, 1) := by decide +kernel
theorem dX11_hits_2 : decode cX11_hits 2 = .ok (.putfield 75, 3) := by decide +kernel
theorem dX11_hits_5 : decode cX11_hits 5 = .ok (.iload_n 1, 1) := by decide +kernel
theorem dX11_hits_6 : decode cX11_hits 6 = .ok (.invokestatic 165, 3) := by decide +kernel
theorem dX11_hits_9 : decode cX11_hits 9 = .ok (.ifCond .eq 15, 3) := by decide +kernel
theorem dX11_hits_12 : decode cX11_hits 12 = .ok (.iload_n 2, 1) := by decide +kernel
theorem dX11_hits_13 : decode cX11_hits 13 = .ok (.i2l, 1) := by decide +kernel
theorem dX11_hits_14 : decode cX11_hits 14 = .ok (.lconst 0, 1) := by decide +kernel
theorem dX11_hits_15 : decode cX11_hits 15 = .ok (.ldc2_w 299, 3) := by decide +kernel
theorem dX11_hits_18 : decode cX11_hits 18 = .ok (.invokestatic 81, 3) := by decide +kernel
theorem dX11_hits_21 : decode cX11_hits 21 = .ok (.ifCond .ne 5, 3) := by decide +kernel
theorem dX11_hits_24 : decode cX11_hits 24 = .ok (.iconst (-1), 1) := by decide +kernel
theorem dX11_hits_25 : decode cX11_hits 25 = .ok (.ireturn, 1) := by decide +kernel
theorem dX11_hits_26 : decode cX11_hits 26 = .ok (.iload_n 2, 1) := by decide +kernel
theorem dX11_hits_27 : decode cX11_hits 27 = .ok (.ifCond .eq 8, 3) := by decide +kernel
theorem dX11_hits_30 : decode cX11_hits 30 = .ok (.iload_n 2, 1) := by decide +kernel
theorem dX11_hits_31 : decode cX11_hits 31 = .ok (.iconst 3, 1) := by decide +kernel
theorem dX11_hits_32 : decode cX11_hits 32 = .ok (.if_icmp .ne 21, 3) := by decide +kernel
theorem dX11_hits_35 : decode cX11_hits 35 = .ok (.iload_n 2, 1) := by decide +kernel
theorem dX11_hits_36 : decode cX11_hits 36 = .ok (.ifCond .ne 11, 3) := by decide +kernel
theorem dX11_hits_39 : decode cX11_hits 39 = .ok (.aload_n 0, 1) := by decide +kernel
theorem dX11_hits_40 : decode cX11_hits 40 = .ok (.iload_n 1, 1) := by decide +kernel
theorem dX11_hits_41 : decode cX11_hits 41 = .ok (.invokevirtual 293, 3) := by decide +kernel
theorem dX11_hits_44 : decode cX11_hits 44 = .ok (.goto 8, 3) := by decide +kernel
theorem dX11_hits_47 : decode cX11_hits 47 = .ok (.aload_n 0, 1) := by decide +kernel
theorem dX11_hits_48 : decode cX11_hits 48 = .ok (.iload_n 1, 1) := by decide +kernel
theorem dX11_hits_49 : decode cX11_hits 49 = .ok (.invokevirtual 296, 3) := by decide +kernel
theorem dX11_hits_52 : decode cX11_hits 52 = .ok (.ireturn, 1) := by decide +kernel
theorem dX11_hits_53 : decode cX11_hits 53 = .ok (.aload_n 0, 1) := by decide +kernel
theorem dX11_hits_54 : decode cX11_hits 54 = .ok (.invokevirtual 281, 3) := by decide +kernel
theorem dX11_hits_57 : decode cX11_hits 57 = .ok (.ifCond .ne 8, 3) := by decide +kernel
theorem dX11_hits_60 : decode cX11_hits 60 = .ok (.bipush (-4), 2) := by decide +kernel
theorem dX11_hits_62 : decode cX11_hits 62 = .ok (.goto 20, 3) := by decide +kernel
theorem dX11_hits_65 : decode cX11_hits 65 = .ok (.iload_n 2, 1) := by decide +kernel
theorem dX11_hits_66 : decode cX11_hits 66 = .ok (.iconst 1, 1) := by decide +kernel
theorem dX11_hits_67 : decode cX11_hits 67 = .ok (.if_icmp .ne 11, 3) := by decide +kernel
theorem dX11_hits_70 : decode cX11_hits 70 = .ok (.aload_n 0, 1) := by decide +kernel
theorem dX11_hits_71 : decode cX11_hits 71 = .ok (.iload_n 1, 1) := by decide +kernel
theorem dX11_hits_72 : decode cX11_hits 72 = .ok (.invokevirtual 284, 3) := by decide +kernel
theorem dX11_hits_75 : decode cX11_hits 75 = .ok (.goto 7, 3) := by decide +kernel
theorem dX11_hits_78 : decode cX11_hits 78 = .ok (.aload_n 0, 1) := by decide +kernel
theorem dX11_hits_79 : decode cX11_hits 79 = .ok (.invokevirtual 287, 3) := by decide +kernel
theorem dX11_hits_82 : decode cX11_hits 82 = .ok (.ireturn, 1) := by decide +kernel
/-! hits -/
def X11_hits_p52 (st : MS) (t0 : Int32) : Option (Int32 × MS) :=
    some (t0, st)
def X11_hits_p35 (st : MS) (v1 : Int32) (v2 : Int32) : Option (Int32 × MS) :=
    if v2 = 0 then
      (bnd (X11_hitBy st v1) fun y_6 st_5 =>
      X11_hits_p52 st_5 y_6)
    else
    bnd (X11_kickedBy st v1) fun y_3 st_2 =>
    X11_hits_p52 st_2 y_3
def X11_hits_p82 (st : MS) (t0 : Int32) : Option (Int32 × MS) :=
    some (t0, st)
def X11_hits (st : MS) (v1 : Int32) (v2 : Int32) : Option (Int32 × MS) :=
    nm (sF st 17 (0 : Int32)) fun st_8 =>
    bd1 (X11_isSide v1) fun y_9 =>
    if y_9 = 0 then
      (some ((-1 : Int32), st_8))
    else
    bd1 (X11_in (v2.toInt64) (0 : Int64) (3 : Int64)) fun y_12 =>
    if y_12 = 0 then
      (some ((-1 : Int32), st_8))
    else
    if v2 = 0 then
      (X11_hits_p35 st_8 v1 v2)
    else
    if v2 = (3 : Int32) then
      (X11_hits_p35 st_8 v1 v2)
    else
    bnd (X11_breaks st_8) fun y_18 st_17 =>
    if y_18 = 0 then
      (X11_hits_p82 st_17 (-4 : Int32))
    else
    if v2 = (1 : Int32) then
      (bnd (X11_topSide st_17 v1) fun y_26 st_25 =>
      X11_hits_p82 st_25 y_26)
    else
    bnd (X11_topFar st_17) fun y_23 st_22 =>
    X11_hits_p82 st_22 y_23
abbrev rmX11_hits : Room := { frames := 2, cells := 0, slots := 0, locals := 46 }
theorem hdX11_hits : yX11_hits.cls = RX11 ∧ yX11_hits.cls ≠ "java/lang/invoke/MethodHandle" ∧ yX11_hits.cls ≠ "java/lang/invoke/VarHandle" ∧ (parseMethodDescriptor yX11_hits.desc).map (fun d => d.parameters.length) = some 2 := by decide +kernel
set_option maxRecDepth 100000 in
set_option maxHeartbeats 4000000 in
theorem okX11_hits (l : Launch) (D : va_G) (a : Nat → Nat) (T : mT3) {st : MS} {v1 : Int32} {v2 : Int32} {r : Int32} {st' : MS} (heq : X11_hits st v1 v2 = some (r, st')) : gCi l D (mT T) yX11_hits wsX11_hits rmX11_hits [.ref (a 0), .int v1, .int v2] (mW a T st) r (mW a T st') := by
  refine g_body_i (by decide) rfl (Nat.le_of_ble_eq_true rfl) (fun p e s m args below meth c A Q hx hb hml hown hts hK hA hret ls hP hD hS hl => ?_)
  have hl : lv_has ls 3 [(0, .ref (a 0)), (1, .int v1), (2, .int v2)] := hl
  have hin : ∀ w ∈ wsX110, w ∈ wsX11_hits := fun w h => List.mem_cons_of_mem _ (List.mem_append_right _ h)
  have f75 : (Cond.fieldLink RX11 75 RX11 (TX11 17).2.1 (TX11 17).2.2.1).before args s = true := hts (.fieldLink RX11 75 "LaidDownTheLaneModel" "thrown" "I") (by decide +kernel)
  have c299 := hts (.constantLong RX11 299 (3)) (by decide +kernel)
  have b52 : ∀ (st : MS) (t0 : Int32) (H : Heap) (locs : List Loc) (ls : Array Slot), va_P D vwCl (mW a T st) H → va_D A (mW a T st) → va_S A s.heap H locs → lv_has ls 3 [] → X11_hits_p52  st t0 = some (r, st') → W p l e rmX11_hits s m args below meth c H locs 0 0 Q (F0 m 52 ls [.int t0]) := by
    intro st t0 H locs ls hP hD hS hl heq
    unfold X11_hits_p52 at heq
    obtain ⟨heq, heq2⟩ := ret_h heq
    subst heq
    subst heq2
    exact hret 52 H locs ls hP hD hS rfl dX11_hits_52
  have b35 : ∀ (st : MS) (v1 : Int32) (v2 : Int32) (H : Heap) (locs : List Loc) (ls : Array Slot), va_P D vwCl (mW a T st) H → va_D A (mW a T st) → va_S A s.heap H locs → lv_has ls 3 [(0, .ref (a 0)), (1, .int v1), (2, .int v2)] → X11_hits_p35  st v1 v2 = some (r, st') → W p l e rmX11_hits s m args below meth c H locs 0 0 Q (F0 m 35 ls []) := by
    intro st v1 v2 H locs ls hP hD hS hl heq
    unfold X11_hits_p35 at heq
    refine lv_iload_n hx hb dX11_hits_35 rfl (lv_at hl 2 rfl) ?_
    refine lv_if_ne (tgt := 47) hx hb dX11_hits_36 (by decide) (fun c_1 => ?_) (fun c_1 => ?_)
    · have heq := it_f c_1 heq
      refine lv_aload_n hx hb dX11_hits_47 rfl (lv_at hl 0 rfl) ?_
      refine lv_iload_n hx hb dX11_hits_48 rfl (lv_at hl 1 rfl) ?_
      obtain ⟨y_3, st_2, h_4, heq⟩ := bnd_h heq
      refine g_vi (own := RX11) (As := [.int v1]) (rest := []) hx hb hml hown hts (okX11_kickedBy l D a T h_4) (cwV 1 hts gX11_hits_X11_kickedBy rfl rfl rfl hdX11_kickedBy ⟨Nat.le_of_ble_eq_true rfl, Nat.le_of_ble_eq_true rfl⟩) hK hA hP hD hS (ci := 11) (q0 := 0) rfl rfl rfl hl.1 rfl (Nat.le_of_ble_eq_true rfl) dX11_hits_49 ⟨Nat.le_of_ble_eq_true rfl, Nat.le_of_ble_eq_true rfl⟩ (fun H locs hP hD hS => ?_)
      exact b52 st_2 y_3 H locs ls hP hD hS (lv_sub hl [] rfl) heq
    have heq := it_t c_1 heq
    refine lv_aload_n hx hb dX11_hits_39 rfl (lv_at hl 0 rfl) ?_
    refine lv_iload_n hx hb dX11_hits_40 rfl (lv_at hl 1 rfl) ?_
    obtain ⟨y_6, st_5, h_7, heq⟩ := bnd_h heq
    refine g_vi (own := RX11) (As := [.int v1]) (rest := []) hx hb hml hown hts (okX11_hitBy l D a T h_7) (cwV 1 hts gX11_hits_X11_hitBy rfl rfl rfl hdX11_hitBy ⟨Nat.le_of_ble_eq_true rfl, Nat.le_of_ble_eq_true rfl⟩) hK hA hP hD hS (ci := 11) (q0 := 0) rfl rfl rfl hl.1 rfl (Nat.le_of_ble_eq_true rfl) dX11_hits_41 ⟨Nat.le_of_ble_eq_true rfl, Nat.le_of_ble_eq_true rfl⟩ (fun H locs hP hD hS => ?_)
    refine lv_goto (tgt := 52) hx hb dX11_hits_44 (by decide) ?_
    exact b52 st_5 y_6 H locs ls hP hD hS (lv_sub hl [] rfl) heq
  have b82 : ∀ (st : MS) (t0 : Int32) (H : Heap) (locs : List Loc) (ls : Array Slot), va_P D vwCl (mW a T st) H → va_D A (mW a T st) → va_S A s.heap H locs → lv_has ls 3 [] → X11_hits_p82  st t0 = some (r, st') → W p l e rmX11_hits s m args below meth c H locs 0 0 Q (F0 m 82 ls [.int t0]) := by
    intro st t0 H locs ls hP hD hS hl heq
    unfold X11_hits_p82 at heq
    obtain ⟨heq, heq2⟩ := ret_h heq
    subst heq
    subst heq2
    exact hret 82 H locs ls hP hD hS rfl dX11_hits_82
  obtain ⟨H, hH⟩ : ∃ H, H = s.heap := ⟨_, rfl⟩
  obtain ⟨locs, hlocs⟩ : ∃ z : List Loc, z = [] := ⟨_, rfl⟩
  have hS : va_S A s.heap H locs := by rw [hH, hlocs]; exact hS
  have hP : va_P D vwCl (mW a T st) H := by rw [hH]; exact hP
  suffices h9 : W p l e rmX11_hits s m args below meth c H locs 0 0 Q (F0 m 0 ls []) by rw [hH, hlocs] at h9; exact h9
  clear hH hlocs
  unfold X11_hits at heq
  refine lv_aload_n hx hb dX11_hits_0 rfl (lv_at hl 0 rfl) ?_
  refine lv_iconst (v := (0 : Int32)) hx hb dX11_hits_1 (by decide) ?_
  refine mp (k := 17) hx hb hts hin hown hK hP hD hS (by decide) f75 dX11_hits_2 rfl rfl rfl rfl (mset_17 ..) (fun H locs hP hD hS => ?_)
  obtain ⟨st_8, est_8⟩ : ∃ z, z = sF st 17 (0 : Int32) := ⟨_, rfl⟩
  rw [← est_8] at hP hD
  have heq := nm_h est_8 heq
  refine lv_iload_n hx hb dX11_hits_5 rfl (lv_at hl 1 rfl) ?_
  obtain ⟨y_9, h_10, heq⟩ := bd1_h heq
  refine g_si (own := RX11) (D := D) (As := [.int v1]) (rest := []) hx hb hml hown hts (okX11_isSide l D h_10) (cwS 1 hts gX11_hits_X11_isSide rfl rfl rfl hdX11_isSide ⟨Nat.le_of_ble_eq_true rfl, Nat.le_of_ble_eq_true rfl⟩) hK hA hP hS rfl hl.1 rfl (Nat.le_of_ble_eq_true rfl) dX11_hits_6 ⟨Nat.le_of_ble_eq_true rfl, Nat.le_of_ble_eq_true rfl⟩ (fun H locs hP hS => ?_)
  refine lv_if_eq (tgt := 24) hx hb dX11_hits_9 (by decide) (fun c_11 => ?_) (fun c_11 => ?_)
  · have heq := it_t c_11 heq
    refine lv_iconst (v := (-1 : Int32)) hx hb dX11_hits_24 (by decide) ?_
    obtain ⟨heq, heq2⟩ := ret_h heq
    subst heq
    subst heq2
    exact hret 25 H locs ls hP hD hS rfl dX11_hits_25
  have heq := it_f c_11 heq
  refine lv_iload_n hx hb dX11_hits_12 rfl (lv_at hl 2 rfl) ?_
  refine lv_i2l hx hb dX11_hits_13 rfl ?_
  refine lv_lconst (v := (0 : Int64)) hx hb dX11_hits_14 (by decide) ?_
  refine lv_ldc2 (v := (3 : Int64)) hx hb hown c299 dX11_hits_15 ?_
  obtain ⟨y_12, h_13, heq⟩ := bd1_h heq
  refine g_si (own := RX11) (D := D) (As := [.long (v2.toInt64), .long (0 : Int64), .long (3 : Int64)]) (rest := []) hx hb hml hown hts (okX11_in l D h_13) (cwS 3 hts gX11_hits_X11_in rfl rfl rfl hdX11_in ⟨Nat.le_of_ble_eq_true rfl, Nat.le_of_ble_eq_true rfl⟩) hK hA hP hS rfl hl.1 rfl (Nat.le_of_ble_eq_true rfl) dX11_hits_18 ⟨Nat.le_of_ble_eq_true rfl, Nat.le_of_ble_eq_true rfl⟩ (fun H locs hP hS => ?_)
  refine lv_if_ne (tgt := 26) hx hb dX11_hits_21 (by decide) (fun c_14 => ?_) (fun c_14 => ?_)
  · have heq := it_f c_14 heq
    refine lv_iload_n hx hb dX11_hits_26 rfl (lv_at hl 2 rfl) ?_
    refine lv_if_eq (tgt := 35) hx hb dX11_hits_27 (by decide) (fun c_15 => ?_) (fun c_15 => ?_)
    · have heq := it_t c_15 heq
      exact b35 st_8 v1 v2 H locs ls hP hD hS (lv_sub hl [0, 1, 2] rfl) heq
    have heq := it_f c_15 heq
    refine lv_iload_n hx hb dX11_hits_30 rfl (lv_at hl 2 rfl) ?_
    refine lv_iconst (v := (3 : Int32)) hx hb dX11_hits_31 (by decide) ?_
    refine lv_icmp_ne (tgt := 53) hx hb dX11_hits_32 (by decide) (fun c_16 => ?_) (fun c_16 => ?_)
    · have heq := it_f c_16 heq
      refine lv_aload_n hx hb dX11_hits_53 rfl (lv_at hl 0 rfl) ?_
      obtain ⟨y_18, st_17, h_19, heq⟩ := bnd_h heq
      refine g_vi (own := RX11) (As := []) (rest := []) hx hb hml hown hts (okX11_breaks l D a T h_19) (cwV 0 hts gX11_hits_X11_breaks rfl rfl rfl hdX11_breaks ⟨Nat.le_of_ble_eq_true rfl, Nat.le_of_ble_eq_true rfl⟩) hK hA hP hD hS (ci := 11) (q0 := 0) rfl rfl rfl hl.1 rfl (Nat.le_of_ble_eq_true rfl) dX11_hits_54 ⟨Nat.le_of_ble_eq_true rfl, Nat.le_of_ble_eq_true rfl⟩ (fun H locs hP hD hS => ?_)
      refine lv_if_ne (tgt := 65) hx hb dX11_hits_57 (by decide) (fun c_20 => ?_) (fun c_20 => ?_)
      · have heq := it_f c_20 heq
        refine lv_iload_n hx hb dX11_hits_65 rfl (lv_at hl 2 rfl) ?_
        refine lv_iconst (v := (1 : Int32)) hx hb dX11_hits_66 (by decide) ?_
        refine lv_icmp_ne (tgt := 78) hx hb dX11_hits_67 (by decide) (fun c_21 => ?_) (fun c_21 => ?_)
        · have heq := it_f c_21 heq
          refine lv_aload_n hx hb dX11_hits_78 rfl (lv_at hl 0 rfl) ?_
          obtain ⟨y_23, st_22, h_24, heq⟩ := bnd_h heq
          refine g_vi (own := RX11) (As := []) (rest := []) hx hb hml hown hts (okX11_topFar l D a T h_24) (cwV 0 hts gX11_hits_X11_topFar rfl rfl rfl hdX11_topFar ⟨Nat.le_of_ble_eq_true rfl, Nat.le_of_ble_eq_true rfl⟩) hK hA hP hD hS (ci := 11) (q0 := 0) rfl rfl rfl hl.1 rfl (Nat.le_of_ble_eq_true rfl) dX11_hits_79 ⟨Nat.le_of_ble_eq_true rfl, Nat.le_of_ble_eq_true rfl⟩ (fun H locs hP hD hS => ?_)
          exact b82 st_22 y_23 H locs ls hP hD hS (lv_sub hl [] rfl) heq
        have heq := it_t c_21 heq
        refine lv_aload_n hx hb dX11_hits_70 rfl (lv_at hl 0 rfl) ?_
        refine lv_iload_n hx hb dX11_hits_71 rfl (lv_at hl 1 rfl) ?_
        obtain ⟨y_26, st_25, h_27, heq⟩ := bnd_h heq
        refine g_vi (own := RX11) (As := [.int v1]) (rest := []) hx hb hml hown hts (okX11_topSide l D a T h_27) (cwV 1 hts gX11_hits_X11_topSide rfl rfl rfl hdX11_topSide ⟨Nat.le_of_ble_eq_true rfl, Nat.le_of_ble_eq_true rfl⟩) hK hA hP hD hS (ci := 11) (q0 := 0) rfl rfl rfl hl.1 rfl (Nat.le_of_ble_eq_true rfl) dX11_hits_72 ⟨Nat.le_of_ble_eq_true rfl, Nat.le_of_ble_eq_true rfl⟩ (fun H locs hP hD hS => ?_)
        refine lv_goto (tgt := 82) hx hb dX11_hits_75 (by decide) ?_
        exact b82 st_25 y_26 H locs ls hP hD hS (lv_sub hl [] rfl) heq
      have heq := it_t c_20 heq
      refine lv_bipush (v := (-4 : Int32)) hx hb dX11_hits_60 (by decide) ?_
      refine lv_goto (tgt := 82) hx hb dX11_hits_62 (by decide) ?_
      exact b82 st_17 (-4 : Int32) H locs ls hP hD hS (lv_sub hl [] rfl) heq
    have heq := it_t c_16 heq
    exact b35 st_8 v1 v2 H locs ls hP hD hS (lv_sub hl [0, 1, 2] rfl) heq
  have heq := it_t c_14 heq
  refine lv_iconst (v := (-1 : Int32)) hx hb dX11_hits_24 (by decide) ?_
  obtain ⟨heq, heq2⟩ := ret_h heq
  subst heq
  subst heq2
  exact hret 25 H locs ls hP hD hS rfl dX11_hits_25
set_option maxRecDepth 20000 in
theorem ggX11_sendOut_X11_struckBy : GoodIn wsX11_sendOut wsX11_struckBy := goodIn_r _ [7, 8, 9, 10, 6, 11, 12, 13, 14, 2, 15, 16, 17, 18, 19, 20, 21, 22, 23, 24, 25, 26, 27, 28, 29, 30, 31, 32, 33, 34, 35, 36, 37, 38, 39, 40, 41, 42, 43, 44, 45, 46, 47, 48, 49, 50, 51, 52, 53, 54, 55, 56, 57, 58, 59, 60, 61, 62, 63, 64, 65, 66, 67, 68, 69, 70, 71] (by decide +kernel) (by decide +kernel)
set_option maxRecDepth 20000 in
theorem gX11_sendOut_X11_struckBy : GoodIn wsX11_sendOut (wsV RX11 301 RX11 yX11_struckBy wsX11_struckBy) := goodIn_app (goodIn_of _ (by decide +kernel)) ggX11_sendOut_X11_struckBy
theorem dX11_sendOut_0 : decode cX11_sendOut 0 = .ok (.aload_n 0, 1) := by decide +kernel
theorem dX11_sendOut_1 : decode cX11_sendOut 1 = .ok (.iconst 0, 1) := by decide +kernel
theorem dX11_sendOut_2 : decode cX11_sendOut 2 = .ok (.putfield 75, 3) := by decide +kernel
theorem dX11_sendOut_5 : decode cX11_sendOut 5 = .ok (.aload_n 0, 1) := by decide +kernel
theorem dX11_sendOut_6 : decode cX11_sendOut 6 = .ok (.getfield 22, 3) := by decide +kernel
theorem dX11_sendOut_9 : decode cX11_sendOut 9 = .ok (.bipush 6, 2) := by decide +kernel
theorem dX11_sendOut_11 : decode cX11_sendOut 11 = .ok (.iaload, 1) := by decide +kernel
theorem dX11_sendOut_12 : decode cX11_sendOut 12 = .ok (.istore_n 1, 1) := by decide +kernel
theorem dX11_sendOut_13 : decode cX11_sendOut 13 = .ok (.aload_n 0, 1) := by decide +kernel
theorem dX11_sendOut_14 : decode cX11_sendOut 14 = .ok (.iload_n 1, 1) := by decide +kernel
theorem dX11_sendOut_15 : decode cX11_sendOut 15 = .ok (.invokevirtual 301, 3) := by decide +kernel
theorem dX11_sendOut_18 : decode cX11_sendOut 18 = .ok (.aload_n 0, 1) := by decide +kernel
theorem dX11_sendOut_19 : decode cX11_sendOut 19 = .ok (.iload_n 1, 1) := by decide +kernel
theorem dX11_sendOut_20 : decode cX11_sendOut 20 = .ok (.iconst 1, 1) := by decide +kernel
theorem dX11_sendOut_21 : decode cX11_sendOut 21 = .ok (.iadd, 1) := by decide +kernel
theorem dX11_sendOut_22 : decode cX11_sendOut 22 = .ok (.bipush 12, 2) := by decide +kernel
theorem dX11_sendOut_24 : decode cX11_sendOut 24 = .ok (.irem, 1) := by decide +kernel
theorem dX11_sendOut_25 : decode cX11_sendOut 25 = .ok (.invokevirtual 301, 3) := by decide +kernel
theorem dX11_sendOut_28 : decode cX11_sendOut 28 = .ok (.ior, 1) := by decide +kernel
theorem dX11_sendOut_29 : decode cX11_sendOut 29 = .ok (.aload_n 0, 1) := by decide +kernel
theorem dX11_sendOut_30 : decode cX11_sendOut 30 = .ok (.iload_n 1, 1) := by decide +kernel
theorem dX11_sendOut_31 : decode cX11_sendOut 31 = .ok (.bipush 11, 2) := by decide +kernel
theorem dX11_sendOut_33 : decode cX11_sendOut 33 = .ok (.iadd, 1) := by decide +kernel
theorem dX11_sendOut_34 : decode cX11_sendOut 34 = .ok (.bipush 12, 2) := by decide +kernel
theorem dX11_sendOut_36 : decode cX11_sendOut 36 = .ok (.irem, 1) := by decide +kernel
theorem dX11_sendOut_37 : decode cX11_sendOut 37 = .ok (.invokevirtual 301, 3) := by decide +kernel
theorem dX11_sendOut_40 : decode cX11_sendOut 40 = .ok (.ior, 1) := by decide +kernel
theorem dX11_sendOut_41 : decode cX11_sendOut 41 = .ok (.ireturn, 1) := by decide +kernel
/-! sendOut -/
def X11_sendOut (st : MS) : Option (Int32 × MS) :=
    nm (sF st 17 (0 : Int32)) fun st_1 =>
    inr (6 : Int32) 7 <|
    nm ((gA st_1 4 (6 : Int32).toNatClampNeg)) fun x_3 =>
    bnd (X11_struckBy st_1 x_3) fun y_5 st_4 =>
    dvi (12 : Int32) <|
    bnd (X11_struckBy st_4 ((x_3 + (1 : Int32)) - (x_3 + (1 : Int32)) / (12 : Int32) * (12 : Int32))) fun y_9 st_8 =>
    dvi (12 : Int32) <|
    bnd (X11_struckBy st_8 ((x_3 + (11 : Int32)) - (x_3 + (11 : Int32)) / (12 : Int32) * (12 : Int32))) fun y_13 st_12 =>
    some (((y_5 ||| y_9) ||| y_13), st_12)
abbrev rmX11_sendOut : Room := { frames := 3, cells := 0, slots := 0, locals := 67 }
theorem hdX11_sendOut : yX11_sendOut.cls = RX11 ∧ yX11_sendOut.cls ≠ "java/lang/invoke/MethodHandle" ∧ yX11_sendOut.cls ≠ "java/lang/invoke/VarHandle" ∧ (parseMethodDescriptor yX11_sendOut.desc).map (fun d => d.parameters.length) = some 0 := by decide +kernel
set_option maxRecDepth 100000 in
set_option maxHeartbeats 4000000 in
theorem okX11_sendOut (l : Launch) (D : va_G) (a : Nat → Nat) (T : mT3) {st : MS} {r : Int32} {st' : MS} (heq : X11_sendOut st = some (r, st')) : gCi l D (mT T) yX11_sendOut wsX11_sendOut rmX11_sendOut [.ref (a 0)] (mW a T st) r (mW a T st') := by
  refine g_body_i (by decide) rfl (Nat.le_of_ble_eq_true rfl) (fun p e s m args below meth c A Q hx hb hml hown hts hK hA hret ls hP hD hS hl => ?_)
  have hl : lv_has ls 2 [(0, .ref (a 0))] := hl
  have hin : ∀ w ∈ wsX110, w ∈ wsX11_sendOut := fun w h => List.mem_cons_of_mem _ (List.mem_append_right _ h)
  have f22 : (Cond.fieldLink RX11 22 RX11 (TX11 4).2.1 (TX11 4).2.2.1).before args s = true := hts (.fieldLink RX11 22 "LaidDownTheLaneModel" "settings" "[I") (by decide +kernel)
  have f75 : (Cond.fieldLink RX11 75 RX11 (TX11 17).2.1 (TX11 17).2.2.1).before args s = true := hts (.fieldLink RX11 75 "LaidDownTheLaneModel" "thrown" "I") (by decide +kernel)
  obtain ⟨H, hH⟩ : ∃ H, H = s.heap := ⟨_, rfl⟩
  obtain ⟨locs, hlocs⟩ : ∃ z : List Loc, z = [] := ⟨_, rfl⟩
  have hS : va_S A s.heap H locs := by rw [hH, hlocs]; exact hS
  have hP : va_P D vwCl (mW a T st) H := by rw [hH]; exact hP
  suffices h9 : W p l e rmX11_sendOut s m args below meth c H locs 0 0 Q (F0 m 0 ls []) by rw [hH, hlocs] at h9; exact h9
  clear hH hlocs
  unfold X11_sendOut at heq
  refine lv_aload_n hx hb dX11_sendOut_0 rfl (lv_at hl 0 rfl) ?_
  refine lv_iconst (v := (0 : Int32)) hx hb dX11_sendOut_1 (by decide) ?_
  refine mp (k := 17) hx hb hts hin hown hK hP hD hS (by decide) f75 dX11_sendOut_2 rfl rfl rfl rfl (mset_17 ..) (fun H locs hP hD hS => ?_)
  obtain ⟨st_1, est_1⟩ : ∃ z, z = sF st 17 (0 : Int32) := ⟨_, rfl⟩
  rw [← est_1] at hP hD
  have heq := nm_h est_1 heq
  refine lv_aload_n hx hb dX11_sendOut_5 rfl (lv_at hl 0 rfl) ?_
  refine mg (k := 4) (v := .ref (a 5)) hx hb hts hin hown hK hP (by decide) f22 rfl dX11_sendOut_6 rfl ?_
  refine lv_bipush (v := (6 : Int32)) hx hb dX11_sendOut_9 (by decide) ?_
  obtain ⟨n_2, heq⟩ := inr_h heq
  refine mal (k := 4) (q := 5) (n := 7) hx hb hK hP rfl n_2 dX11_sendOut_11 ?_
  refine lv_topi (fun x_3 ex_3 => ?_)
  have heq := nm_h ex_3 heq
  refine lv_istore_n (lv' := [(1, .int x_3), (0, .ref (a 0))]) hx hb dX11_sendOut_12 rfl hl (by decide) rfl (fun ls hl => ?_)
  refine lv_aload_n hx hb dX11_sendOut_13 rfl (lv_at hl 1 rfl) ?_
  refine lv_iload_n hx hb dX11_sendOut_14 rfl (lv_at hl 0 rfl) ?_
  obtain ⟨y_5, st_4, h_6, heq⟩ := bnd_h heq
  refine g_vi (own := RX11) (As := [.int x_3]) (rest := []) hx hb hml hown hts (okX11_struckBy l D a T h_6) (cwV 1 hts gX11_sendOut_X11_struckBy rfl rfl rfl hdX11_struckBy ⟨Nat.le_of_ble_eq_true rfl, Nat.le_of_ble_eq_true rfl⟩) hK hA hP hD hS (ci := 11) (q0 := 0) rfl rfl rfl hl.1 rfl (Nat.le_of_ble_eq_true rfl) dX11_sendOut_15 ⟨Nat.le_of_ble_eq_true rfl, Nat.le_of_ble_eq_true rfl⟩ (fun H locs hP hD hS => ?_)
  refine lv_aload_n hx hb dX11_sendOut_18 rfl (lv_at hl 1 rfl) ?_
  refine lv_iload_n hx hb dX11_sendOut_19 rfl (lv_at hl 0 rfl) ?_
  refine lv_iconst (v := (1 : Int32)) hx hb dX11_sendOut_20 (by decide) ?_
  refine lv_iadd hx hb dX11_sendOut_21 ?_
  refine lv_bipush (v := (12 : Int32)) hx hb dX11_sendOut_22 (by decide) ?_
  obtain ⟨n_7, heq⟩ := dvi_h heq
  refine lv_irem hx hb dX11_sendOut_24 n_7 ?_
  obtain ⟨y_9, st_8, h_10, heq⟩ := bnd_h heq
  refine g_vi (own := RX11) (As := [.int ((x_3 + (1 : Int32)) - (x_3 + (1 : Int32)) / (12 : Int32) * (12 : Int32))]) (rest := [.int y_5]) hx hb hml hown hts (okX11_struckBy l D a T h_10) (cwV 1 hts gX11_sendOut_X11_struckBy rfl rfl rfl hdX11_struckBy ⟨Nat.le_of_ble_eq_true rfl, Nat.le_of_ble_eq_true rfl⟩) hK hA hP hD hS (ci := 11) (q0 := 0) rfl rfl rfl hl.1 rfl (Nat.le_of_ble_eq_true rfl) dX11_sendOut_25 ⟨Nat.le_of_ble_eq_true rfl, Nat.le_of_ble_eq_true rfl⟩ (fun H locs hP hD hS => ?_)
  refine lv_ior hx hb dX11_sendOut_28 ?_
  refine lv_aload_n hx hb dX11_sendOut_29 rfl (lv_at hl 1 rfl) ?_
  refine lv_iload_n hx hb dX11_sendOut_30 rfl (lv_at hl 0 rfl) ?_
  refine lv_bipush (v := (11 : Int32)) hx hb dX11_sendOut_31 (by decide) ?_
  refine lv_iadd hx hb dX11_sendOut_33 ?_
  refine lv_bipush (v := (12 : Int32)) hx hb dX11_sendOut_34 (by decide) ?_
  obtain ⟨n_11, heq⟩ := dvi_h heq
  refine lv_irem hx hb dX11_sendOut_36 n_11 ?_
  obtain ⟨y_13, st_12, h_14, heq⟩ := bnd_h heq
  refine g_vi (own := RX11) (As := [.int ((x_3 + (11 : Int32)) - (x_3 + (11 : Int32)) / (12 : Int32) * (12 : Int32))]) (rest := [.int (y_5 ||| y_9)]) hx hb hml hown hts (okX11_struckBy l D a T h_14) (cwV 1 hts gX11_sendOut_X11_struckBy rfl rfl rfl hdX11_struckBy ⟨Nat.le_of_ble_eq_true rfl, Nat.le_of_ble_eq_true rfl⟩) hK hA hP hD hS (ci := 11) (q0 := 0) rfl rfl rfl hl.1 rfl (Nat.le_of_ble_eq_true rfl) dX11_sendOut_37 ⟨Nat.le_of_ble_eq_true rfl, Nat.le_of_ble_eq_true rfl⟩ (fun H locs hP hD hS => ?_)
  refine lv_ior hx hb dX11_sendOut_40 ?_
  obtain ⟨heq, heq2⟩ := ret_h heq
  subst heq
  subst heq2
  exact hret 41 H locs ls hP hD hS rfl dX11_sendOut_41
set_option maxRecDepth 20000 in
theorem ggX11_crowd_X11_isSide : GoodIn wsX11_crowd wsX11_isSide := goodIn_r _ [6, 7, 8, 9, 5, 10] (by decide +kernel) (by decide +kernel)
set_option maxRecDepth 20000 in
theorem gX11_crowd_X11_isSide : GoodIn wsX11_crowd (va_wsS RX11 165 yX11_isSide wsX11_isSide) := goodIn_app (goodIn_of _ (by decide +kernel)) ggX11_crowd_X11_isSide
set_option maxRecDepth 20000 in
theorem ggX11_crowd_X11_breaks : GoodIn wsX11_crowd wsX11_breaks := goodIn_r _ [14, 15, 2, 27, 28, 29, 30, 31, 32, 33, 34, 35, 36, 37, 38, 39, 40, 41, 42, 43, 44, 45, 46, 47, 48, 49, 50, 51, 52, 53, 54, 55, 56, 57, 58, 59, 60, 61, 62, 63] (by decide +kernel) (by decide +kernel)
set_option maxRecDepth 20000 in
theorem gX11_crowd_X11_breaks : GoodIn wsX11_crowd (wsV RX11 281 RX11 yX11_breaks wsX11_breaks) := goodIn_app (goodIn_of _ (by decide +kernel)) ggX11_crowd_X11_breaks
set_option maxRecDepth 20000 in
theorem ggX11_crowd_X11_topSide : GoodIn wsX11_crowd wsX11_topSide := goodIn_r _ [19, 2, 27, 28, 29, 30, 31, 32, 33, 34, 35, 36, 37, 38, 39, 40, 41, 42, 43, 44, 45, 46, 47, 48, 49, 50, 51, 52, 53, 54, 55, 56, 57, 58, 59, 60, 61, 62, 63] (by decide +kernel) (by decide +kernel)
set_option maxRecDepth 20000 in
theorem gX11_crowd_X11_topSide : GoodIn wsX11_crowd (wsV RX11 284 RX11 yX11_topSide wsX11_topSide) := goodIn_app (goodIn_of _ (by decide +kernel)) ggX11_crowd_X11_topSide
set_option maxRecDepth 20000 in
theorem ggX11_crowd_X11_topFar : GoodIn wsX11_crowd wsX11_topFar := goodIn_r _ [23, 2, 27, 28, 29, 30, 31, 32, 33, 34, 35, 36, 37, 38, 39, 40, 41, 42, 43, 44, 45, 46, 47, 48, 49, 50, 51, 52, 53, 54, 55, 56, 57, 58, 59, 60, 61, 62, 63] (by decide +kernel) (by decide +kernel)
set_option maxRecDepth 20000 in
theorem gX11_crowd_X11_topFar : GoodIn wsX11_crowd (wsV RX11 287 RX11 yX11_topFar wsX11_topFar) := goodIn_app (goodIn_of _ (by decide +kernel)) ggX11_crowd_X11_topFar
set_option maxRecDepth 20000 in
theorem ggX11_crowd_X11_greater : GoodIn wsX11_crowd wsX11_greater := goodIn_r _ [26] (by decide +kernel) (by decide +kernel)
set_option maxRecDepth 20000 in
theorem gX11_crowd_X11_greater : GoodIn wsX11_crowd (va_wsS RX11 252 yX11_greater wsX11_greater) := goodIn_app (goodIn_of _ (by decide +kernel)) ggX11_crowd_X11_greater
theorem dX11_crowd_0 : decode cX11_crowd 0 = .ok (.aload_n 0, 1) := by decide +kernel
theorem dX11_crowd_1 : decode cX11_crowd 1 = .ok (.iconst 0, 1) := by decide +kernel
theorem dX11_crowd_2 : decode cX11_crowd 2 = .ok (.putfield 75, 3) := by decide +kernel
theorem dX11_crowd_5 : decode cX11_crowd 5 = .ok (.iload_n 1, 1) := by decide +kernel
theorem dX11_crowd_6 : decode cX11_crowd 6 = .ok (.invokestatic 165, 3) := by decide +kernel
theorem dX11_crowd_9 : decode cX11_crowd 9 = .ok (.ifCond .ne 5, 3) := by decide +kernel
theorem dX11_crowd_12 : decode cX11_crowd 12 = .ok (.iconst (-1), 1) := by decide +kernel
theorem dX11_crowd_13 : decode cX11_crowd 13 = .ok (.ireturn, 1) := by decide +kernel
theorem dX11_crowd_14 : decode cX11_crowd 14 = .ok (.aload_n 0, 1) := by decide +kernel
theorem dX11_crowd_15 : decode cX11_crowd 15 = .ok (.getfield 22, 3) := by decide +kernel
theorem dX11_crowd_18 : decode cX11_crowd 18 = .ok (.bipush 6, 2) := by decide +kernel
theorem dX11_crowd_20 : decode cX11_crowd 20 = .ok (.iaload, 1) := by decide +kernel
theorem dX11_crowd_21 : decode cX11_crowd 21 = .ok (.istore_n 2, 1) := by decide +kernel
theorem dX11_crowd_22 : decode cX11_crowd 22 = .ok (.iload_n 1, 1) := by decide +kernel
theorem dX11_crowd_23 : decode cX11_crowd 23 = .ok (.iload_n 2, 1) := by decide +kernel
theorem dX11_crowd_24 : decode cX11_crowd 24 = .ok (.if_icmp .ne 12, 3) := by decide +kernel
theorem dX11_crowd_27 : decode cX11_crowd 27 = .ok (.aload_n 0, 1) := by decide +kernel
theorem dX11_crowd_28 : decode cX11_crowd 28 = .ok (.getfield 22, 3) := by decide +kernel
theorem dX11_crowd_31 : decode cX11_crowd 31 = .ok (.iconst 5, 1) := by decide +kernel
theorem dX11_crowd_32 : decode cX11_crowd 32 = .ok (.iaload, 1) := by decide +kernel
theorem dX11_crowd_33 : decode cX11_crowd 33 = .ok (.goto 4, 3) := by decide +kernel
theorem dX11_crowd_36 : decode cX11_crowd 36 = .ok (.iconst 0, 1) := by decide +kernel
theorem dX11_crowd_37 : decode cX11_crowd 37 = .ok (.istore_n 3, 1) := by decide +kernel
theorem dX11_crowd_38 : decode cX11_crowd 38 = .ok (.aload_n 0, 1) := by decide +kernel
theorem dX11_crowd_39 : decode cX11_crowd 39 = .ok (.invokevirtual 281, 3) := by decide +kernel
theorem dX11_crowd_42 : decode cX11_crowd 42 = .ok (.ifCond .eq 26, 3) := by decide +kernel
theorem dX11_crowd_45 : decode cX11_crowd 45 = .ok (.iload_n 1, 1) := by decide +kernel
theorem dX11_crowd_46 : decode cX11_crowd 46 = .ok (.aload_n 0, 1) := by decide +kernel
theorem dX11_crowd_47 : decode cX11_crowd 47 = .ok (.iload_n 2, 1) := by decide +kernel
theorem dX11_crowd_48 : decode cX11_crowd 48 = .ok (.invokevirtual 284, 3) := by decide +kernel
theorem dX11_crowd_51 : decode cX11_crowd 51 = .ok (.if_icmp .ne 17, 3) := by decide +kernel
theorem dX11_crowd_54 : decode cX11_crowd 54 = .ok (.iload_n 3, 1) := by decide +kernel
theorem dX11_crowd_55 : decode cX11_crowd 55 = .ok (.aload_n 0, 1) := by decide +kernel
theorem dX11_crowd_56 : decode cX11_crowd 56 = .ok (.invokevirtual 287, 3) := by decide +kernel
theorem dX11_crowd_59 : decode cX11_crowd 59 = .ok (.bipush 10, 2) := by decide +kernel
theorem dX11_crowd_61 : decode cX11_crowd 61 = .ok (.iadd, 1) := by decide +kernel
theorem dX11_crowd_62 : decode cX11_crowd 62 = .ok (.invokestatic 252, 3) := by decide +kernel
theorem dX11_crowd_65 : decode cX11_crowd 65 = .ok (.goto 4, 3) := by decide +kernel
theorem dX11_crowd_68 : decode cX11_crowd 68 = .ok (.iload_n 3, 1) := by decide +kernel
theorem dX11_crowd_69 : decode cX11_crowd 69 = .ok (.istore_n 3, 1) := by decide +kernel
theorem dX11_crowd_70 : decode cX11_crowd 70 = .ok (.iload_n 1, 1) := by decide +kernel
theorem dX11_crowd_71 : decode cX11_crowd 71 = .ok (.iload_n 2, 1) := by decide +kernel
theorem dX11_crowd_72 : decode cX11_crowd 72 = .ok (.bipush 6, 2) := by decide +kernel
theorem dX11_crowd_74 : decode cX11_crowd 74 = .ok (.iadd, 1) := by decide +kernel
theorem dX11_crowd_75 : decode cX11_crowd 75 = .ok (.bipush 12, 2) := by decide +kernel
theorem dX11_crowd_77 : decode cX11_crowd 77 = .ok (.irem, 1) := by decide +kernel
theorem dX11_crowd_78 : decode cX11_crowd 78 = .ok (.if_icmp .ne 19, 3) := by decide +kernel
theorem dX11_crowd_81 : decode cX11_crowd 81 = .ok (.iload_n 3, 1) := by decide +kernel
theorem dX11_crowd_82 : decode cX11_crowd 82 = .ok (.aload_n 0, 1) := by decide +kernel
theorem dX11_crowd_83 : decode cX11_crowd 83 = .ok (.getfield 22, 3) := by decide +kernel
theorem dX11_crowd_86 : decode cX11_crowd 86 = .ok (.iconst 5, 1) := by decide +kernel
theorem dX11_crowd_87 : decode cX11_crowd 87 = .ok (.iaload, 1) := by decide +kernel
theorem dX11_crowd_88 : decode cX11_crowd 88 = .ok (.bipush 6, 2) := by decide +kernel
theorem dX11_crowd_90 : decode cX11_crowd 90 = .ok (.idiv, 1) := by decide +kernel
theorem dX11_crowd_91 : decode cX11_crowd 91 = .ok (.invokestatic 252, 3) := by decide +kernel
theorem dX11_crowd_94 : decode cX11_crowd 94 = .ok (.goto 4, 3) := by decide +kernel
theorem dX11_crowd_97 : decode cX11_crowd 97 = .ok (.iload_n 3, 1) := by decide +kernel
theorem dX11_crowd_98 : decode cX11_crowd 98 = .ok (.ireturn, 1) := by decide +kernel
/-! crowd -/
def X11_crowd_p98 (st : MS) (t0 : Int32) : Option (Int32 × MS) :=
    some (t0, st)
def X11_crowd_p69 (st : MS) (v1 : Int32) (v2 : Int32) (t0 : Int32) : Option (Int32 × MS) :=
    dvi (12 : Int32) <|
    if v1 = ((v2 + (6 : Int32)) - (v2 + (6 : Int32)) / (12 : Int32) * (12 : Int32)) then
      (inr (5 : Int32) 7 <|
      dvi (6 : Int32) <|
      bd1 (X11_greater t0 ((gA st 4 (5 : Int32).toNatClampNeg) / (6 : Int32))) fun y_5 =>
      X11_crowd_p98 st y_5)
    else
    X11_crowd_p98 st t0
def X11_crowd_p68 (st : MS) (v1 : Int32) (v2 : Int32) (v3 : Int32) : Option (Int32 × MS) :=
    X11_crowd_p69 st v1 v2 v3
def X11_crowd_p37 (st : MS) (v1 : Int32) (v2 : Int32) (t0 : Int32) : Option (Int32 × MS) :=
    bnd (X11_breaks st) fun y_8 st_7 =>
    if y_8 = 0 then
      (X11_crowd_p68 st_7 v1 v2 t0)
    else
    bnd (X11_topSide st_7 v2) fun y_12 st_11 =>
    if v1 = y_12 then
      (bnd (X11_topFar st_11) fun y_16 st_15 =>
      bd1 (X11_greater t0 (y_16 + (10 : Int32))) fun y_18 =>
      X11_crowd_p69 st_15 v1 v2 y_18)
    else
    X11_crowd_p68 st_11 v1 v2 t0
def X11_crowd (st : MS) (v1 : Int32) : Option (Int32 × MS) :=
    nm (sF st 17 (0 : Int32)) fun st_20 =>
    bd1 (X11_isSide v1) fun y_21 =>
    if y_21 = 0 then
      (some ((-1 : Int32), st_20))
    else
    inr (6 : Int32) 7 <|
    nm ((gA st_20 4 (6 : Int32).toNatClampNeg)) fun x_25 =>
    if v1 = x_25 then
      (inr (5 : Int32) 7 <|
      X11_crowd_p37 st_20 v1 x_25 (gA st_20 4 (5 : Int32).toNatClampNeg))
    else
    X11_crowd_p37 st_20 v1 x_25 (0 : Int32)
abbrev rmX11_crowd : Room := { frames := 2, cells := 0, slots := 0, locals := 45 }
theorem hdX11_crowd : yX11_crowd.cls = RX11 ∧ yX11_crowd.cls ≠ "java/lang/invoke/MethodHandle" ∧ yX11_crowd.cls ≠ "java/lang/invoke/VarHandle" ∧ (parseMethodDescriptor yX11_crowd.desc).map (fun d => d.parameters.length) = some 1 := by decide +kernel
set_option maxRecDepth 100000 in
set_option maxHeartbeats 4000000 in
theorem okX11_crowd (l : Launch) (D : va_G) (a : Nat → Nat) (T : mT3) {st : MS} {v1 : Int32} {r : Int32} {st' : MS} (heq : X11_crowd st v1 = some (r, st')) : gCi l D (mT T) yX11_crowd wsX11_crowd rmX11_crowd [.ref (a 0), .int v1] (mW a T st) r (mW a T st') := by
  refine g_body_i (by decide) rfl (Nat.le_of_ble_eq_true rfl) (fun p e s m args below meth c A Q hx hb hml hown hts hK hA hret ls hP hD hS hl => ?_)
  have hl : lv_has ls 4 [(0, .ref (a 0)), (1, .int v1)] := hl
  have hin : ∀ w ∈ wsX110, w ∈ wsX11_crowd := fun w h => List.mem_cons_of_mem _ (List.mem_append_right _ h)
  have f22 : (Cond.fieldLink RX11 22 RX11 (TX11 4).2.1 (TX11 4).2.2.1).before args s = true := hts (.fieldLink RX11 22 "LaidDownTheLaneModel" "settings" "[I") (by decide +kernel)
  have f75 : (Cond.fieldLink RX11 75 RX11 (TX11 17).2.1 (TX11 17).2.2.1).before args s = true := hts (.fieldLink RX11 75 "LaidDownTheLaneModel" "thrown" "I") (by decide +kernel)
  have b98 : ∀ (st : MS) (t0 : Int32) (H : Heap) (locs : List Loc) (ls : Array Slot), va_P D vwCl (mW a T st) H → va_D A (mW a T st) → va_S A s.heap H locs → lv_has ls 4 [] → X11_crowd_p98  st t0 = some (r, st') → W p l e rmX11_crowd s m args below meth c H locs 0 0 Q (F0 m 98 ls [.int t0]) := by
    intro st t0 H locs ls hP hD hS hl heq
    unfold X11_crowd_p98 at heq
    obtain ⟨heq, heq2⟩ := ret_h heq
    subst heq
    subst heq2
    exact hret 98 H locs ls hP hD hS rfl dX11_crowd_98
  have b69 : ∀ (st : MS) (v1 : Int32) (v2 : Int32) (t0 : Int32) (H : Heap) (locs : List Loc) (ls : Array Slot), va_P D vwCl (mW a T st) H → va_D A (mW a T st) → va_S A s.heap H locs → lv_has ls 4 [(0, .ref (a 0)), (1, .int v1), (2, .int v2)] → X11_crowd_p69  st v1 v2 t0 = some (r, st') → W p l e rmX11_crowd s m args below meth c H locs 0 0 Q (F0 m 69 ls [.int t0]) := by
    intro st v1 v2 t0 H locs ls hP hD hS hl heq
    unfold X11_crowd_p69 at heq
    refine lv_istore_n (lv' := [(3, .int t0), (0, .ref (a 0)), (1, .int v1), (2, .int v2)]) hx hb dX11_crowd_69 rfl hl (by decide) rfl (fun ls hl => ?_)
    refine lv_iload_n hx hb dX11_crowd_70 rfl (lv_at hl 2 rfl) ?_
    refine lv_iload_n hx hb dX11_crowd_71 rfl (lv_at hl 3 rfl) ?_
    refine lv_bipush (v := (6 : Int32)) hx hb dX11_crowd_72 (by decide) ?_
    refine lv_iadd hx hb dX11_crowd_74 ?_
    refine lv_bipush (v := (12 : Int32)) hx hb dX11_crowd_75 (by decide) ?_
    obtain ⟨n_1, heq⟩ := dvi_h heq
    refine lv_irem hx hb dX11_crowd_77 n_1 ?_
    refine lv_icmp_ne (tgt := 97) hx hb dX11_crowd_78 (by decide) (fun c_2 => ?_) (fun c_2 => ?_)
    · have heq := it_f c_2 heq
      refine lv_iload_n hx hb dX11_crowd_97 rfl (lv_at hl 0 rfl) ?_
      exact b98 st t0 H locs ls hP hD hS (lv_sub hl [] rfl) heq
    have heq := it_t c_2 heq
    refine lv_iload_n hx hb dX11_crowd_81 rfl (lv_at hl 0 rfl) ?_
    refine lv_aload_n hx hb dX11_crowd_82 rfl (lv_at hl 1 rfl) ?_
    refine mg (k := 4) (v := .ref (a 5)) hx hb hts hin hown hK hP (by decide) f22 rfl dX11_crowd_83 rfl ?_
    refine lv_iconst (v := (5 : Int32)) hx hb dX11_crowd_86 (by decide) ?_
    obtain ⟨n_3, heq⟩ := inr_h heq
    refine mal (k := 4) (q := 5) (n := 7) hx hb hK hP rfl n_3 dX11_crowd_87 ?_
    refine lv_bipush (v := (6 : Int32)) hx hb dX11_crowd_88 (by decide) ?_
    obtain ⟨n_4, heq⟩ := dvi_h heq
    refine lv_idiv hx hb dX11_crowd_90 n_4 ?_
    obtain ⟨y_5, h_6, heq⟩ := bd1_h heq
    refine g_si (own := RX11) (D := D) (As := [.int t0, .int ((gA st 4 (5 : Int32).toNatClampNeg) / (6 : Int32))]) (rest := []) hx hb hml hown hts (okX11_greater l D h_6) (cwS 2 hts gX11_crowd_X11_greater rfl rfl rfl hdX11_greater ⟨Nat.le_of_ble_eq_true rfl, Nat.le_of_ble_eq_true rfl⟩) hK hA hP hS rfl hl.1 rfl (Nat.le_of_ble_eq_true rfl) dX11_crowd_91 ⟨Nat.le_of_ble_eq_true rfl, Nat.le_of_ble_eq_true rfl⟩ (fun H locs hP hS => ?_)
    refine lv_goto (tgt := 98) hx hb dX11_crowd_94 (by decide) ?_
    exact b98 st y_5 H locs ls hP hD hS (lv_sub hl [] rfl) heq
  have b68 : ∀ (st : MS) (v1 : Int32) (v2 : Int32) (v3 : Int32) (H : Heap) (locs : List Loc) (ls : Array Slot), va_P D vwCl (mW a T st) H → va_D A (mW a T st) → va_S A s.heap H locs → lv_has ls 4 [(0, .ref (a 0)), (1, .int v1), (2, .int v2), (3, .int v3)] → X11_crowd_p68  st v1 v2 v3 = some (r, st') → W p l e rmX11_crowd s m args below meth c H locs 0 0 Q (F0 m 68 ls []) := by
    intro st v1 v2 v3 H locs ls hP hD hS hl heq
    unfold X11_crowd_p68 at heq
    refine lv_iload_n hx hb dX11_crowd_68 rfl (lv_at hl 3 rfl) ?_
    exact b69 st v1 v2 v3 H locs ls hP hD hS (lv_sub hl [0, 1, 2] rfl) heq
  have b37 : ∀ (st : MS) (v1 : Int32) (v2 : Int32) (t0 : Int32) (H : Heap) (locs : List Loc) (ls : Array Slot), va_P D vwCl (mW a T st) H → va_D A (mW a T st) → va_S A s.heap H locs → lv_has ls 4 [(0, .ref (a 0)), (1, .int v1), (2, .int v2)] → X11_crowd_p37  st v1 v2 t0 = some (r, st') → W p l e rmX11_crowd s m args below meth c H locs 0 0 Q (F0 m 37 ls [.int t0]) := by
    intro st v1 v2 t0 H locs ls hP hD hS hl heq
    unfold X11_crowd_p37 at heq
    refine lv_istore_n (lv' := [(3, .int t0), (0, .ref (a 0)), (1, .int v1), (2, .int v2)]) hx hb dX11_crowd_37 rfl hl (by decide) rfl (fun ls hl => ?_)
    refine lv_aload_n hx hb dX11_crowd_38 rfl (lv_at hl 1 rfl) ?_
    obtain ⟨y_8, st_7, h_9, heq⟩ := bnd_h heq
    refine g_vi (own := RX11) (As := []) (rest := []) hx hb hml hown hts (okX11_breaks l D a T h_9) (cwV 0 hts gX11_crowd_X11_breaks rfl rfl rfl hdX11_breaks ⟨Nat.le_of_ble_eq_true rfl, Nat.le_of_ble_eq_true rfl⟩) hK hA hP hD hS (ci := 11) (q0 := 0) rfl rfl rfl hl.1 rfl (Nat.le_of_ble_eq_true rfl) dX11_crowd_39 ⟨Nat.le_of_ble_eq_true rfl, Nat.le_of_ble_eq_true rfl⟩ (fun H locs hP hD hS => ?_)
    refine lv_if_eq (tgt := 68) hx hb dX11_crowd_42 (by decide) (fun c_10 => ?_) (fun c_10 => ?_)
    · have heq := it_t c_10 heq
      exact b68 st_7 v1 v2 t0 H locs ls hP hD hS (lv_sub hl [1, 2, 3, 0] rfl) heq
    have heq := it_f c_10 heq
    refine lv_iload_n hx hb dX11_crowd_45 rfl (lv_at hl 2 rfl) ?_
    refine lv_aload_n hx hb dX11_crowd_46 rfl (lv_at hl 1 rfl) ?_
    refine lv_iload_n hx hb dX11_crowd_47 rfl (lv_at hl 3 rfl) ?_
    obtain ⟨y_12, st_11, h_13, heq⟩ := bnd_h heq
    refine g_vi (own := RX11) (As := [.int v2]) (rest := [.int v1]) hx hb hml hown hts (okX11_topSide l D a T h_13) (cwV 1 hts gX11_crowd_X11_topSide rfl rfl rfl hdX11_topSide ⟨Nat.le_of_ble_eq_true rfl, Nat.le_of_ble_eq_true rfl⟩) hK hA hP hD hS (ci := 11) (q0 := 0) rfl rfl rfl hl.1 rfl (Nat.le_of_ble_eq_true rfl) dX11_crowd_48 ⟨Nat.le_of_ble_eq_true rfl, Nat.le_of_ble_eq_true rfl⟩ (fun H locs hP hD hS => ?_)
    refine lv_icmp_ne (tgt := 68) hx hb dX11_crowd_51 (by decide) (fun c_14 => ?_) (fun c_14 => ?_)
    · have heq := it_f c_14 heq
      exact b68 st_11 v1 v2 t0 H locs ls hP hD hS (lv_sub hl [1, 2, 3, 0] rfl) heq
    have heq := it_t c_14 heq
    refine lv_iload_n hx hb dX11_crowd_54 rfl (lv_at hl 0 rfl) ?_
    refine lv_aload_n hx hb dX11_crowd_55 rfl (lv_at hl 1 rfl) ?_
    obtain ⟨y_16, st_15, h_17, heq⟩ := bnd_h heq
    refine g_vi (own := RX11) (As := []) (rest := [.int t0]) hx hb hml hown hts (okX11_topFar l D a T h_17) (cwV 0 hts gX11_crowd_X11_topFar rfl rfl rfl hdX11_topFar ⟨Nat.le_of_ble_eq_true rfl, Nat.le_of_ble_eq_true rfl⟩) hK hA hP hD hS (ci := 11) (q0 := 0) rfl rfl rfl hl.1 rfl (Nat.le_of_ble_eq_true rfl) dX11_crowd_56 ⟨Nat.le_of_ble_eq_true rfl, Nat.le_of_ble_eq_true rfl⟩ (fun H locs hP hD hS => ?_)
    refine lv_bipush (v := (10 : Int32)) hx hb dX11_crowd_59 (by decide) ?_
    refine lv_iadd hx hb dX11_crowd_61 ?_
    obtain ⟨y_18, h_19, heq⟩ := bd1_h heq
    refine g_si (own := RX11) (D := D) (As := [.int t0, .int (y_16 + (10 : Int32))]) (rest := []) hx hb hml hown hts (okX11_greater l D h_19) (cwS 2 hts gX11_crowd_X11_greater rfl rfl rfl hdX11_greater ⟨Nat.le_of_ble_eq_true rfl, Nat.le_of_ble_eq_true rfl⟩) hK hA hP hS rfl hl.1 rfl (Nat.le_of_ble_eq_true rfl) dX11_crowd_62 ⟨Nat.le_of_ble_eq_true rfl, Nat.le_of_ble_eq_true rfl⟩ (fun H locs hP hS => ?_)
    refine lv_goto (tgt := 69) hx hb dX11_crowd_65 (by decide) ?_
    exact b69 st_15 v1 v2 y_18 H locs ls hP hD hS (lv_sub hl [1, 2, 3] rfl) heq
  obtain ⟨H, hH⟩ : ∃ H, H = s.heap := ⟨_, rfl⟩
  obtain ⟨locs, hlocs⟩ : ∃ z : List Loc, z = [] := ⟨_, rfl⟩
  have hS : va_S A s.heap H locs := by rw [hH, hlocs]; exact hS
  have hP : va_P D vwCl (mW a T st) H := by rw [hH]; exact hP
  suffices h9 : W p l e rmX11_crowd s m args below meth c H locs 0 0 Q (F0 m 0 ls []) by rw [hH, hlocs] at h9; exact h9
  clear hH hlocs
  unfold X11_crowd at heq
  refine lv_aload_n hx hb dX11_crowd_0 rfl (lv_at hl 0 rfl) ?_
  refine lv_iconst (v := (0 : Int32)) hx hb dX11_crowd_1 (by decide) ?_
  refine mp (k := 17) hx hb hts hin hown hK hP hD hS (by decide) f75 dX11_crowd_2 rfl rfl rfl rfl (mset_17 ..) (fun H locs hP hD hS => ?_)
  obtain ⟨st_20, est_20⟩ : ∃ z, z = sF st 17 (0 : Int32) := ⟨_, rfl⟩
  rw [← est_20] at hP hD
  have heq := nm_h est_20 heq
  refine lv_iload_n hx hb dX11_crowd_5 rfl (lv_at hl 1 rfl) ?_
  obtain ⟨y_21, h_22, heq⟩ := bd1_h heq
  refine g_si (own := RX11) (D := D) (As := [.int v1]) (rest := []) hx hb hml hown hts (okX11_isSide l D h_22) (cwS 1 hts gX11_crowd_X11_isSide rfl rfl rfl hdX11_isSide ⟨Nat.le_of_ble_eq_true rfl, Nat.le_of_ble_eq_true rfl⟩) hK hA hP hS rfl hl.1 rfl (Nat.le_of_ble_eq_true rfl) dX11_crowd_6 ⟨Nat.le_of_ble_eq_true rfl, Nat.le_of_ble_eq_true rfl⟩ (fun H locs hP hS => ?_)
  refine lv_if_ne (tgt := 14) hx hb dX11_crowd_9 (by decide) (fun c_23 => ?_) (fun c_23 => ?_)
  · have heq := it_f c_23 heq
    refine lv_aload_n hx hb dX11_crowd_14 rfl (lv_at hl 0 rfl) ?_
    refine mg (k := 4) (v := .ref (a 5)) hx hb hts hin hown hK hP (by decide) f22 rfl dX11_crowd_15 rfl ?_
    refine lv_bipush (v := (6 : Int32)) hx hb dX11_crowd_18 (by decide) ?_
    obtain ⟨n_24, heq⟩ := inr_h heq
    refine mal (k := 4) (q := 5) (n := 7) hx hb hK hP rfl n_24 dX11_crowd_20 ?_
    refine lv_topi (fun x_25 ex_25 => ?_)
    have heq := nm_h ex_25 heq
    refine lv_istore_n (lv' := [(2, .int x_25), (0, .ref (a 0)), (1, .int v1)]) hx hb dX11_crowd_21 rfl hl (by decide) rfl (fun ls hl => ?_)
    refine lv_iload_n hx hb dX11_crowd_22 rfl (lv_at hl 2 rfl) ?_
    refine lv_iload_n hx hb dX11_crowd_23 rfl (lv_at hl 0 rfl) ?_
    refine lv_icmp_ne (tgt := 36) hx hb dX11_crowd_24 (by decide) (fun c_26 => ?_) (fun c_26 => ?_)
    · have heq := it_f c_26 heq
      refine lv_iconst (v := (0 : Int32)) hx hb dX11_crowd_36 (by decide) ?_
      exact b37 st_20 v1 x_25 (0 : Int32) H locs ls hP hD hS (lv_sub hl [1, 2, 0] rfl) heq
    have heq := it_t c_26 heq
    refine lv_aload_n hx hb dX11_crowd_27 rfl (lv_at hl 1 rfl) ?_
    refine mg (k := 4) (v := .ref (a 5)) hx hb hts hin hown hK hP (by decide) f22 rfl dX11_crowd_28 rfl ?_
    refine lv_iconst (v := (5 : Int32)) hx hb dX11_crowd_31 (by decide) ?_
    obtain ⟨n_27, heq⟩ := inr_h heq
    refine mal (k := 4) (q := 5) (n := 7) hx hb hK hP rfl n_27 dX11_crowd_32 ?_
    refine lv_goto (tgt := 37) hx hb dX11_crowd_33 (by decide) ?_
    exact b37 st_20 v1 x_25 (gA st_20 4 (5 : Int32).toNatClampNeg) H locs ls hP hD hS (lv_sub hl [1, 2, 0] rfl) heq
  have heq := it_t c_23 heq
  refine lv_iconst (v := (-1 : Int32)) hx hb dX11_crowd_12 (by decide) ?_
  obtain ⟨heq, heq2⟩ := ret_h heq
  subst heq
  subst heq2
  exact hret 13 H locs ls hP hD hS rfl dX11_crowd_13
set_option maxRecDepth 20000 in
theorem ggX11_safest_X11_struckBy : GoodIn wsX11_safest wsX11_struckBy := goodIn_r _ [6, 7, 8, 9, 5, 10, 11, 12, 13, 14, 15, 16, 17, 18, 19, 20, 21, 22, 23, 24, 25, 26, 27, 28, 29, 30, 31, 32, 33, 34, 38, 39, 40, 41, 42, 43, 44, 45, 46, 47, 48, 49, 50, 51, 52, 53, 54, 55, 56, 57, 58, 59, 60, 61, 62, 63, 64, 65, 66, 67, 68, 69, 70, 71, 72, 73, 74] (by decide +kernel) (by decide +kernel)
set_option maxRecDepth 20000 in
theorem gX11_safest_X11_struckBy : GoodIn wsX11_safest (wsV RX11 301 RX11 yX11_struckBy wsX11_struckBy) := goodIn_app (goodIn_of _ (by decide +kernel)) ggX11_safest_X11_struckBy
set_option maxRecDepth 20000 in
theorem ggX11_safest_X11_onesOf : GoodIn wsX11_safest wsX11_onesOf := goodIn_r _ [37] (by decide +kernel) (by decide +kernel)
set_option maxRecDepth 20000 in
theorem gX11_safest_X11_onesOf : GoodIn wsX11_safest (va_wsS RX11 244 yX11_onesOf wsX11_onesOf) := goodIn_app (goodIn_of _ (by decide +kernel)) ggX11_safest_X11_onesOf
theorem dX11_safest_0 : decode cX11_safest 0 = .ok (.aload_n 0, 1) := by decide +kernel
theorem dX11_safest_1 : decode cX11_safest 1 = .ok (.iconst 0, 1) := by decide +kernel
theorem dX11_safest_2 : decode cX11_safest 2 = .ok (.putfield 75, 3) := by decide +kernel
theorem dX11_safest_5 : decode cX11_safest 5 = .ok (.iconst 0, 1) := by decide +kernel
theorem dX11_safest_6 : decode cX11_safest 6 = .ok (.istore_n 1, 1) := by decide +kernel
theorem dX11_safest_7 : decode cX11_safest 7 = .ok (.iconst 1, 1) := by decide +kernel
theorem dX11_safest_8 : decode cX11_safest 8 = .ok (.istore_n 2, 1) := by decide +kernel
theorem dX11_safest_9 : decode cX11_safest 9 = .ok (.iload_n 2, 1) := by decide +kernel
theorem dX11_safest_10 : decode cX11_safest 10 = .ok (.bipush 12, 2) := by decide +kernel
theorem dX11_safest_12 : decode cX11_safest 12 = .ok (.if_icmp .ge 34, 3) := by decide +kernel
theorem dX11_safest_15 : decode cX11_safest 15 = .ok (.aload_n 0, 1) := by decide +kernel
theorem dX11_safest_16 : decode cX11_safest 16 = .ok (.iload_n 2, 1) := by decide +kernel
theorem dX11_safest_17 : decode cX11_safest 17 = .ok (.invokevirtual 301, 3) := by decide +kernel
theorem dX11_safest_20 : decode cX11_safest 20 = .ok (.invokestatic 244, 3) := by decide +kernel
theorem dX11_safest_23 : decode cX11_safest 23 = .ok (.aload_n 0, 1) := by decide +kernel
theorem dX11_safest_24 : decode cX11_safest 24 = .ok (.iload_n 1, 1) := by decide +kernel
theorem dX11_safest_25 : decode cX11_safest 25 = .ok (.invokevirtual 301, 3) := by decide +kernel
theorem dX11_safest_28 : decode cX11_safest 28 = .ok (.invokestatic 244, 3) := by decide +kernel
theorem dX11_safest_31 : decode cX11_safest 31 = .ok (.if_icmp .ge 7, 3) := by decide +kernel
theorem dX11_safest_34 : decode cX11_safest 34 = .ok (.iload_n 2, 1) := by decide +kernel
theorem dX11_safest_35 : decode cX11_safest 35 = .ok (.goto 4, 3) := by decide +kernel
theorem dX11_safest_38 : decode cX11_safest 38 = .ok (.iload_n 1, 1) := by decide +kernel
theorem dX11_safest_39 : decode cX11_safest 39 = .ok (.istore_n 1, 1) := by decide +kernel
theorem dX11_safest_40 : decode cX11_safest 40 = .ok (.iinc 2 1, 3) := by decide +kernel
theorem dX11_safest_43 : decode cX11_safest 43 = .ok (.goto (-34), 3) := by decide +kernel
theorem dX11_safest_46 : decode cX11_safest 46 = .ok (.iload_n 1, 1) := by decide +kernel
theorem dX11_safest_47 : decode cX11_safest 47 = .ok (.ireturn, 1) := by decide +kernel
/-! safest -/
def X11_safest_p39 (k9 : MS → Int32 → Int32 → Option (Int32 × MS)) (st : MS) (v2 : Int32) (t0 : Int32) : Option (Int32 × MS) :=
    nm (v2 + (1 : Int32)) fun x_1 =>
    k9 st t0 x_1
def X11_safest_p46 (st : MS) (v1 : Int32) : Option (Int32 × MS) :=
    some (v1, st)
def X11_safest_p9 : Nat → MS → Int32 → Int32 → Option (Int32 × MS)
  | 0, _, _, _ => none
  | n + 1, st, v1, v2 =>
    if (12 : Int32) ≤ v2 then
      (X11_safest_p46 st v1)
    else
    bnd (X11_struckBy st v2) fun y_4 st_3 =>
    bd1 (X11_onesOf y_4) fun y_6 =>
    bnd (X11_struckBy st_3 v1) fun y_9 st_8 =>
    bd1 (X11_onesOf y_9) fun y_11 =>
    if y_11 ≤ y_6 then
      (X11_safest_p39 (fun st v1 v2 => X11_safest_p9  n st v1 v2) st_8 v2 v1)
    else
    X11_safest_p39 (fun st v1 v2 => X11_safest_p9  n st v1 v2) st_8 v2 v2
theorem X11_safest_p9_s (n : Nat) (st : MS) (v1 : Int32) (v2 : Int32) : X11_safest_p9  (n + 1) st v1 v2 =
    (if (12 : Int32) ≤ v2 then
      (X11_safest_p46 st v1)
    else
    bnd (X11_struckBy st v2) fun y_4 st_3 =>
    bd1 (X11_onesOf y_4) fun y_6 =>
    bnd (X11_struckBy st_3 v1) fun y_9 st_8 =>
    bd1 (X11_onesOf y_9) fun y_11 =>
    if y_11 ≤ y_6 then
      (X11_safest_p39 (fun st v1 v2 => X11_safest_p9  n st v1 v2) st_8 v2 v1)
    else
    X11_safest_p39 (fun st v1 v2 => X11_safest_p9  n st v1 v2) st_8 v2 v2) := rfl
def X11_safest (st : MS) : Option (Int32 × MS) :=
    nm (sF st 17 (0 : Int32)) fun st_14 =>
    X11_safest_p9 13 st_14 (0 : Int32) (1 : Int32)
abbrev rmX11_safest : Room := { frames := 3, cells := 0, slots := 0, locals := 67 }
theorem hdX11_safest : yX11_safest.cls = RX11 ∧ yX11_safest.cls ≠ "java/lang/invoke/MethodHandle" ∧ yX11_safest.cls ≠ "java/lang/invoke/VarHandle" ∧ (parseMethodDescriptor yX11_safest.desc).map (fun d => d.parameters.length) = some 0 := by decide +kernel
set_option maxRecDepth 100000 in
set_option maxHeartbeats 4000000 in
theorem okX11_safest (l : Launch) (D : va_G) (a : Nat → Nat) (T : mT3) {st : MS} {r : Int32} {st' : MS} (heq : X11_safest st = some (r, st')) : gCi l D (mT T) yX11_safest wsX11_safest rmX11_safest [.ref (a 0)] (mW a T st) r (mW a T st') := by
  refine g_body_i (by decide) rfl (Nat.le_of_ble_eq_true rfl) (fun p e s m args below meth c A Q hx hb hml hown hts hK hA hret ls hP hD hS hl => ?_)
  have hl : lv_has ls 3 [(0, .ref (a 0))] := hl
  have hin : ∀ w ∈ wsX110, w ∈ wsX11_safest := fun w h => List.mem_cons_of_mem _ (List.mem_append_right _ h)
  have f75 : (Cond.fieldLink RX11 75 RX11 (TX11 17).2.1 (TX11 17).2.2.1).before args s = true := hts (.fieldLink RX11 75 "LaidDownTheLaneModel" "thrown" "I") (by decide +kernel)
  have b39 : ∀ (k9 : MS → Int32 → Int32 → Option (Int32 × MS)) (hk9 : ∀ (st : MS) (v1 : Int32) (v2 : Int32) (H : Heap) (locs : List Loc) (ls : Array Slot), va_P D vwCl (mW a T st) H → va_D A (mW a T st) → va_S A s.heap H locs → lv_has ls 3 [(0, .ref (a 0)), (1, .int v1), (2, .int v2)] → k9 st v1 v2 = some (r, st') → W p l e rmX11_safest s m args below meth c H locs 0 0 Q (F0 m 9 ls [])), ∀ (st : MS) (v2 : Int32) (t0 : Int32) (H : Heap) (locs : List Loc) (ls : Array Slot), va_P D vwCl (mW a T st) H → va_D A (mW a T st) → va_S A s.heap H locs → lv_has ls 3 [(0, .ref (a 0)), (2, .int v2)] → X11_safest_p39 k9 st v2 t0 = some (r, st') → W p l e rmX11_safest s m args below meth c H locs 0 0 Q (F0 m 39 ls [.int t0]) := by
    intro k9 hk9 st v2 t0 H locs ls hP hD hS hl heq
    unfold X11_safest_p39 at heq
    refine lv_istore_n (lv' := [(1, .int t0), (0, .ref (a 0)), (2, .int v2)]) hx hb dX11_safest_39 rfl hl (by decide) rfl (fun ls hl => ?_)
    obtain ⟨x_1, ex_1⟩ : ∃ y : Int32, y = v2 + (1 : Int32) := ⟨_, rfl⟩
    have heq := nm_h ex_1 heq
    refine lv_iinc (v := x_1) (lv' := [(2, .int x_1), (1, .int t0), (0, .ref (a 0))]) hx hb dX11_safest_40 hl (k := 2) rfl (by rw [ex_1]; rfl) (by decide) rfl (fun ls hl => ?_)
    refine lv_goto (tgt := 9) hx hb dX11_safest_43 (by decide) ?_
    exact hk9 st t0 x_1 H locs ls hP hD hS (lv_sub hl [2, 1, 0] rfl) heq
  have b46 : ∀ (st : MS) (v1 : Int32) (H : Heap) (locs : List Loc) (ls : Array Slot), va_P D vwCl (mW a T st) H → va_D A (mW a T st) → va_S A s.heap H locs → lv_has ls 3 [(1, .int v1)] → X11_safest_p46  st v1 = some (r, st') → W p l e rmX11_safest s m args below meth c H locs 0 0 Q (F0 m 46 ls []) := by
    intro st v1 H locs ls hP hD hS hl heq
    unfold X11_safest_p46 at heq
    refine lv_iload_n hx hb dX11_safest_46 rfl (lv_at hl 0 rfl) ?_
    obtain ⟨heq, heq2⟩ := ret_h heq
    subst heq
    subst heq2
    exact hret 47 H locs ls hP hD hS rfl dX11_safest_47
  have b9 : ∀ (n : Nat), ∀ (st : MS) (v1 : Int32) (v2 : Int32) (H : Heap) (locs : List Loc) (ls : Array Slot), va_P D vwCl (mW a T st) H → va_D A (mW a T st) → va_S A s.heap H locs → lv_has ls 3 [(0, .ref (a 0)), (1, .int v1), (2, .int v2)] → X11_safest_p9  n st v1 v2 = some (r, st') → W p l e rmX11_safest s m args below meth c H locs 0 0 Q (F0 m 9 ls []) := by
    intro n
    induction n with
    | zero => intro st v1 v2 H locs ls hP hD hS hl heq; cases heq
    | succ n ih =>
      intro st v1 v2 H locs ls hP hD hS hl heq
      rw [X11_safest_p9_s] at heq
      refine lv_iload_n hx hb dX11_safest_9 rfl (lv_at hl 2 rfl) ?_
      refine lv_bipush (v := (12 : Int32)) hx hb dX11_safest_10 (by decide) ?_
      refine lv_icmp_ge (tgt := 46) hx hb dX11_safest_12 (by decide) (fun c_2 => ?_) (fun c_2 => ?_)
      · have heq := it_t c_2 heq
        exact b46 st v1 H locs ls hP hD hS (lv_sub hl [1] rfl) heq
      have heq := it_f c_2 heq
      refine lv_aload_n hx hb dX11_safest_15 rfl (lv_at hl 0 rfl) ?_
      refine lv_iload_n hx hb dX11_safest_16 rfl (lv_at hl 2 rfl) ?_
      obtain ⟨y_4, st_3, h_5, heq⟩ := bnd_h heq
      refine g_vi (own := RX11) (As := [.int v2]) (rest := []) hx hb hml hown hts (okX11_struckBy l D a T h_5) (cwV 1 hts gX11_safest_X11_struckBy rfl rfl rfl hdX11_struckBy ⟨Nat.le_of_ble_eq_true rfl, Nat.le_of_ble_eq_true rfl⟩) hK hA hP hD hS (ci := 11) (q0 := 0) rfl rfl rfl hl.1 rfl (Nat.le_of_ble_eq_true rfl) dX11_safest_17 ⟨Nat.le_of_ble_eq_true rfl, Nat.le_of_ble_eq_true rfl⟩ (fun H locs hP hD hS => ?_)
      obtain ⟨y_6, h_7, heq⟩ := bd1_h heq
      refine g_si (own := RX11) (D := D) (As := [.int y_4]) (rest := []) hx hb hml hown hts (okX11_onesOf l D h_7) (cwS 1 hts gX11_safest_X11_onesOf rfl rfl rfl hdX11_onesOf ⟨Nat.le_of_ble_eq_true rfl, Nat.le_of_ble_eq_true rfl⟩) hK hA hP hS rfl hl.1 rfl (Nat.le_of_ble_eq_true rfl) dX11_safest_20 ⟨Nat.le_of_ble_eq_true rfl, Nat.le_of_ble_eq_true rfl⟩ (fun H locs hP hS => ?_)
      refine lv_aload_n hx hb dX11_safest_23 rfl (lv_at hl 0 rfl) ?_
      refine lv_iload_n hx hb dX11_safest_24 rfl (lv_at hl 1 rfl) ?_
      obtain ⟨y_9, st_8, h_10, heq⟩ := bnd_h heq
      refine g_vi (own := RX11) (As := [.int v1]) (rest := [.int y_6]) hx hb hml hown hts (okX11_struckBy l D a T h_10) (cwV 1 hts gX11_safest_X11_struckBy rfl rfl rfl hdX11_struckBy ⟨Nat.le_of_ble_eq_true rfl, Nat.le_of_ble_eq_true rfl⟩) hK hA hP hD hS (ci := 11) (q0 := 0) rfl rfl rfl hl.1 rfl (Nat.le_of_ble_eq_true rfl) dX11_safest_25 ⟨Nat.le_of_ble_eq_true rfl, Nat.le_of_ble_eq_true rfl⟩ (fun H locs hP hD hS => ?_)
      obtain ⟨y_11, h_12, heq⟩ := bd1_h heq
      refine g_si (own := RX11) (D := D) (As := [.int y_9]) (rest := [.int y_6]) hx hb hml hown hts (okX11_onesOf l D h_12) (cwS 1 hts gX11_safest_X11_onesOf rfl rfl rfl hdX11_onesOf ⟨Nat.le_of_ble_eq_true rfl, Nat.le_of_ble_eq_true rfl⟩) hK hA hP hS rfl hl.1 rfl (Nat.le_of_ble_eq_true rfl) dX11_safest_28 ⟨Nat.le_of_ble_eq_true rfl, Nat.le_of_ble_eq_true rfl⟩ (fun H locs hP hS => ?_)
      refine lv_icmp_ge (tgt := 38) hx hb dX11_safest_31 (by decide) (fun c_13 => ?_) (fun c_13 => ?_)
      · have heq := it_t c_13 heq
        refine lv_iload_n hx hb dX11_safest_38 rfl (lv_at hl 1 rfl) ?_
        exact b39 (fun st v1 v2 => X11_safest_p9  n st v1 v2) ih st_8 v2 v1 H locs ls hP hD hS (lv_sub hl [0, 2] rfl) heq
      have heq := it_f c_13 heq
      refine lv_iload_n hx hb dX11_safest_34 rfl (lv_at hl 2 rfl) ?_
      refine lv_goto (tgt := 39) hx hb dX11_safest_35 (by decide) ?_
      exact b39 (fun st v1 v2 => X11_safest_p9  n st v1 v2) ih st_8 v2 v2 H locs ls hP hD hS (lv_sub hl [0, 2] rfl) heq
  obtain ⟨H, hH⟩ : ∃ H, H = s.heap := ⟨_, rfl⟩
  obtain ⟨locs, hlocs⟩ : ∃ z : List Loc, z = [] := ⟨_, rfl⟩
  have hS : va_S A s.heap H locs := by rw [hH, hlocs]; exact hS
  have hP : va_P D vwCl (mW a T st) H := by rw [hH]; exact hP
  suffices h9 : W p l e rmX11_safest s m args below meth c H locs 0 0 Q (F0 m 0 ls []) by rw [hH, hlocs] at h9; exact h9
  clear hH hlocs
  unfold X11_safest at heq
  refine lv_aload_n hx hb dX11_safest_0 rfl (lv_at hl 0 rfl) ?_
  refine lv_iconst (v := (0 : Int32)) hx hb dX11_safest_1 (by decide) ?_
  refine mp (k := 17) hx hb hts hin hown hK hP hD hS (by decide) f75 dX11_safest_2 rfl rfl rfl rfl (mset_17 ..) (fun H locs hP hD hS => ?_)
  obtain ⟨st_14, est_14⟩ : ∃ z, z = sF st 17 (0 : Int32) := ⟨_, rfl⟩
  rw [← est_14] at hP hD
  have heq := nm_h est_14 heq
  refine lv_iconst (v := (0 : Int32)) hx hb dX11_safest_5 (by decide) ?_
  refine lv_istore_n (lv' := [(1, .int (0 : Int32)), (0, .ref (a 0))]) hx hb dX11_safest_6 rfl hl (by decide) rfl (fun ls hl => ?_)
  refine lv_iconst (v := (1 : Int32)) hx hb dX11_safest_7 (by decide) ?_
  refine lv_istore_n (lv' := [(2, .int (1 : Int32)), (1, .int (0 : Int32)), (0, .ref (a 0))]) hx hb dX11_safest_8 rfl hl (by decide) rfl (fun ls hl => ?_)
  exact b9 13 st_14 (0 : Int32) (1 : Int32) H locs ls hP hD hS (lv_sub hl [2, 1, 0] rfl) heq
theorem dX11_skipped_0 : decode cX11_skipped 0 = .ok (.aload_n 0, 1) := by decide +kernel
theorem dX11_skipped_1 : decode cX11_skipped 1 = .ok (.getfield 40, 3) := by decide +kernel
theorem dX11_skipped_4 : decode cX11_skipped 4 = .ok (.iload_n 1, 1) := by decide +kernel
theorem dX11_skipped_5 : decode cX11_skipped 5 = .ok (.iaload, 1) := by decide +kernel
theorem dX11_skipped_6 : decode cX11_skipped 6 = .ok (.ifCond .ne 9, 3) := by decide +kernel
theorem dX11_skipped_9 : decode cX11_skipped 9 = .ok (.ldc2_w 304, 3) := by decide +kernel
theorem dX11_skipped_12 : decode cX11_skipped 12 = .ok (.goto 22, 3) := by decide +kernel
theorem dX11_skipped_15 : decode cX11_skipped 15 = .ok (.aload_n 0, 1) := by decide +kernel
theorem dX11_skipped_16 : decode cX11_skipped 16 = .ok (.getfield 40, 3) := by decide +kernel
theorem dX11_skipped_19 : decode cX11_skipped 19 = .ok (.iload_n 1, 1) := by decide +kernel
theorem dX11_skipped_20 : decode cX11_skipped 20 = .ok (.iaload, 1) := by decide +kernel
theorem dX11_skipped_21 : decode cX11_skipped 21 = .ok (.iconst 1, 1) := by decide +kernel
theorem dX11_skipped_22 : decode cX11_skipped 22 = .ok (.if_icmp .ne 9, 3) := by decide +kernel
theorem dX11_skipped_25 : decode cX11_skipped 25 = .ok (.ldc2_w 306, 3) := by decide +kernel
theorem dX11_skipped_28 : decode cX11_skipped 28 = .ok (.goto 6, 3) := by decide +kernel
theorem dX11_skipped_31 : decode cX11_skipped 31 = .ok (.ldc2_w 308, 3) := by decide +kernel
theorem dX11_skipped_34 : decode cX11_skipped 34 = .ok (.lreturn, 1) := by decide +kernel
/-! skipped -/
def X11_skipped_p34 (st : MS) (t0 : Int64) : Option (Int64 × MS) :=
    some (t0, st)
def X11_skipped (st : MS) (v1 : Int32) : Option (Int64 × MS) :=
    inr v1 8 <|
    if (gA st 14 v1.toNatClampNeg) = 0 then
      (X11_skipped_p34 st (-128 : Int64))
    else
    inr v1 8 <|
    if (gA st 14 v1.toNatClampNeg) = (1 : Int32) then
      (X11_skipped_p34 st (-32768 : Int64))
    else
    X11_skipped_p34 st (-2147483648 : Int64)
abbrev rmX11_skipped : Room := { frames := 0, cells := 0, slots := 0, locals := 0 }
theorem hdX11_skipped : yX11_skipped.cls = RX11 ∧ yX11_skipped.cls ≠ "java/lang/invoke/MethodHandle" ∧ yX11_skipped.cls ≠ "java/lang/invoke/VarHandle" ∧ (parseMethodDescriptor yX11_skipped.desc).map (fun d => d.parameters.length) = some 1 := by decide +kernel
set_option maxRecDepth 100000 in
set_option maxHeartbeats 4000000 in
theorem okX11_skipped (l : Launch) (D : va_G) (a : Nat → Nat) (T : mT3) {st : MS} {v1 : Int32} {r : Int64} {st' : MS} (heq : X11_skipped st v1 = some (r, st')) : gCl l D (mT T) yX11_skipped wsX11_skipped rmX11_skipped [.ref (a 0), .int v1] (mW a T st) r (mW a T st') := by
  refine g_body_l (by decide) rfl (Nat.le_of_ble_eq_true rfl) (fun p e s m args below meth c A Q hx hb hml hown hts hK hA hret ls hP hD hS hl => ?_)
  have hl : lv_has ls 2 [(0, .ref (a 0)), (1, .int v1)] := hl
  have hin : ∀ w ∈ wsX110, w ∈ wsX11_skipped := fun w h => List.mem_cons_of_mem _ (List.mem_append_right _ h)
  have f40 : (Cond.fieldLink RX11 40 RX11 (TX11 14).2.1 (TX11 14).2.2.1).before args s = true := hts (.fieldLink RX11 40 "LaidDownTheLaneModel" "rowSort" "[I") (by decide +kernel)
  have c304 := hts (.constantLong RX11 304 (-128)) (by decide +kernel)
  have c306 := hts (.constantLong RX11 306 (-32768)) (by decide +kernel)
  have c308 := hts (.constantLong RX11 308 (-2147483648)) (by decide +kernel)
  have b34 : ∀ (st : MS) (t0 : Int64) (H : Heap) (locs : List Loc) (ls : Array Slot), va_P D vwCl (mW a T st) H → va_D A (mW a T st) → va_S A s.heap H locs → lv_has ls 2 [] → X11_skipped_p34  st t0 = some (r, st') → W p l e rmX11_skipped s m args below meth c H locs 0 0 Q (F0 m 34 ls [.long t0]) := by
    intro st t0 H locs ls hP hD hS hl heq
    unfold X11_skipped_p34 at heq
    obtain ⟨heq, heq2⟩ := ret_h heq
    subst heq
    subst heq2
    exact hret 34 H locs ls hP hD hS dX11_skipped_34
  obtain ⟨H, hH⟩ : ∃ H, H = s.heap := ⟨_, rfl⟩
  obtain ⟨locs, hlocs⟩ : ∃ z : List Loc, z = [] := ⟨_, rfl⟩
  have hS : va_S A s.heap H locs := by rw [hH, hlocs]; exact hS
  have hP : va_P D vwCl (mW a T st) H := by rw [hH]; exact hP
  suffices h9 : W p l e rmX11_skipped s m args below meth c H locs 0 0 Q (F0 m 0 ls []) by rw [hH, hlocs] at h9; exact h9
  clear hH hlocs
  unfold X11_skipped at heq
  refine lv_aload_n hx hb dX11_skipped_0 rfl (lv_at hl 0 rfl) ?_
  refine mg (k := 14) (v := .ref (a 11)) hx hb hts hin hown hK hP (by decide) f40 rfl dX11_skipped_1 rfl ?_
  refine lv_iload_n hx hb dX11_skipped_4 rfl (lv_at hl 1 rfl) ?_
  obtain ⟨n_1, heq⟩ := inr_h heq
  refine mal (k := 14) (q := 11) (n := 8) hx hb hK hP rfl n_1 dX11_skipped_5 ?_
  refine lv_if_ne (tgt := 15) hx hb dX11_skipped_6 (by decide) (fun c_2 => ?_) (fun c_2 => ?_)
  · have heq := it_f c_2 heq
    refine lv_aload_n hx hb dX11_skipped_15 rfl (lv_at hl 0 rfl) ?_
    refine mg (k := 14) (v := .ref (a 11)) hx hb hts hin hown hK hP (by decide) f40 rfl dX11_skipped_16 rfl ?_
    refine lv_iload_n hx hb dX11_skipped_19 rfl (lv_at hl 1 rfl) ?_
    obtain ⟨n_3, heq⟩ := inr_h heq
    refine mal (k := 14) (q := 11) (n := 8) hx hb hK hP rfl n_3 dX11_skipped_20 ?_
    refine lv_iconst (v := (1 : Int32)) hx hb dX11_skipped_21 (by decide) ?_
    refine lv_icmp_ne (tgt := 31) hx hb dX11_skipped_22 (by decide) (fun c_4 => ?_) (fun c_4 => ?_)
    · have heq := it_f c_4 heq
      refine lv_ldc2 (v := (-2147483648 : Int64)) hx hb hown c308 dX11_skipped_31 ?_
      exact b34 st (-2147483648 : Int64) H locs ls hP hD hS (lv_sub hl [] rfl) heq
    have heq := it_t c_4 heq
    refine lv_ldc2 (v := (-32768 : Int64)) hx hb hown c306 dX11_skipped_25 ?_
    refine lv_goto (tgt := 34) hx hb dX11_skipped_28 (by decide) ?_
    exact b34 st (-32768 : Int64) H locs ls hP hD hS (lv_sub hl [] rfl) heq
  have heq := it_t c_2 heq
  refine lv_ldc2 (v := (-128 : Int64)) hx hb hown c304 dX11_skipped_9 ?_
  refine lv_goto (tgt := 34) hx hb dX11_skipped_12 (by decide) ?_
  exact b34 st (-128 : Int64) H locs ls hP hD hS (lv_sub hl [] rfl) heq
