set_option maxRecDepth 20000 in
theorem ggX10_house_X10_isSide : GoodIn wsX10_house wsX10_isSide := goodIn_r _ [6] (by decide +kernel) (by decide +kernel)
set_option maxRecDepth 20000 in
theorem gX10_house_X10_isSide : GoodIn wsX10_house (va_wsS RX10 80 yX10_isSide wsX10_isSide) := goodIn_app (goodIn_of _ (by decide +kernel)) ggX10_house_X10_isSide
set_option maxRecDepth 20000 in
theorem ggX10_house_X8_addHouse : GoodIn wsX10_house wsX8_addHouse := goodIn_r _ [11, 12, 13, 14, 4, 5, 6, 22, 23, 24, 25, 26, 27, 28, 29, 30, 31] (by decide +kernel) (by decide +kernel)
set_option maxRecDepth 20000 in
theorem gX10_house_X8_addHouse : GoodIn wsX10_house (wsV RX10 123 RX8 yX8_addHouse wsX8_addHouse) := goodIn_app (goodIn_of _ (by decide +kernel)) ggX10_house_X8_addHouse
theorem dX10_house_0 : decode cX10_house 0 = .ok (.iload_n 1, 1) := by decide +kernel
theorem dX10_house_1 : decode cX10_house 1 = .ok (.invokestatic 80, 3) := by decide +kernel
theorem dX10_house_4 : decode cX10_house 4 = .ok (.ifCond .eq 14, 3) := by decide +kernel
theorem dX10_house_7 : decode cX10_house 7 = .ok (.iload_n 2, 1) := by decide +kernel
theorem dX10_house_8 : decode cX10_house 8 = .ok (.ifCond .lt 10, 3) := by decide +kernel
theorem dX10_house_11 : decode cX10_house 11 = .ok (.iload_n 2, 1) := by decide +kernel
theorem dX10_house_12 : decode cX10_house 12 = .ok (.sipush 240, 3) := by decide +kernel
theorem dX10_house_15 : decode cX10_house 15 = .ok (.if_icmp .le 5, 3) := by decide +kernel
theorem dX10_house_18 : decode cX10_house 18 = .ok (.iconst (-1), 1) := by decide +kernel
theorem dX10_house_19 : decode cX10_house 19 = .ok (.ireturn, 1) := by decide +kernel
theorem dX10_house_20 : decode cX10_house 20 = .ok (.aload_n 0, 1) := by decide +kernel
theorem dX10_house_21 : decode cX10_house 21 = .ok (.getfield 10, 3) := by decide +kernel
theorem dX10_house_24 : decode cX10_house 24 = .ok (.iload_n 1, 1) := by decide +kernel
theorem dX10_house_25 : decode cX10_house 25 = .ok (.iload_n 2, 1) := by decide +kernel
theorem dX10_house_26 : decode cX10_house 26 = .ok (.invokevirtual 123, 3) := by decide +kernel
theorem dX10_house_29 : decode cX10_house 29 = .ok (.ifCond .eq 15, 3) := by decide +kernel
theorem dX10_house_32 : decode cX10_house 32 = .ok (.aload_n 0, 1) := by decide +kernel
theorem dX10_house_33 : decode cX10_house 33 = .ok (.getfield 10, 3) := by decide +kernel
theorem dX10_house_36 : decode cX10_house 36 = .ok (.getfield 126, 3) := by decide +kernel
theorem dX10_house_39 : decode cX10_house 39 = .ok (.iconst 1, 1) := by decide +kernel
theorem dX10_house_40 : decode cX10_house 40 = .ok (.isub, 1) := by decide +kernel
theorem dX10_house_41 : decode cX10_house 41 = .ok (.goto 5, 3) := by decide +kernel
theorem dX10_house_44 : decode cX10_house 44 = .ok (.bipush (-2), 2) := by decide +kernel
theorem dX10_house_46 : decode cX10_house 46 = .ok (.ireturn, 1) := by decide +kernel
/-! X10 house -/
def X10_house_p46 (xs : XS) (t0 : Int32) : Option (Int32 × XS) :=
    some (t0, xs)
def X10_house (xs : XS) (v1 : Int32) (v2 : Int32) : Option (Int32 × XS) :=
    bd1 (X10_isSide v1) fun y_1 =>
    if y_1 = 0 then
      (some ((-1 : Int32), xs))
    else
    if v2 < 0 then
      (some ((-1 : Int32), xs))
    else
    if v2 ≤ (240 : Int32) then
      (bnd (X8_addHouse (xT xs 0) v1 v2) fun y_6 st_7 =>
      nm (uT xs 0 st_7) fun xs_9 =>
      if y_6 = 0 then
        (X10_house_p46 xs_9 (-2 : Int32))
      else
      X10_house_p46 xs_9 ((gF (xT xs_9 0) 6) - (1 : Int32)))
    else
    some ((-1 : Int32), xs)
abbrev rmX10_house : Room := { frames := 2, cells := 0, slots := 0, locals := 42 }
theorem hdX10_house : yX10_house.cls = RX10 ∧ yX10_house.cls ≠ "java/lang/invoke/MethodHandle" ∧ yX10_house.cls ≠ "java/lang/invoke/VarHandle" ∧ (parseMethodDescriptor yX10_house.desc).map (fun d => d.parameters.length) = some 2 := by decide +kernel
set_option maxRecDepth 100000 in
set_option maxHeartbeats 8000000 in
theorem okX10_house (z : Nat → Nat) (l : Launch) (D : va_G) (T : mT3) (b : Nat → Nat) {xa : XA} {xs : XS} {v1 : Int32} {v2 : Int32} {r : Int32} {xs' : XS} (hR : xRel b xa xs) (heq : X10_house xs v1 v2 = some (r, xs')) : hXi xSub z l D T b yX10_house wsX10_house rmX10_house [.ref (b 0), .int v1, .int v2] xa xs r xs' := by
  refine xbody_i (plainFor_of_name (by decide)) rfl (Nat.le_of_ble_eq_true rfl) (fun p e s m args below meth c A Q hx hb hml hown hts hK hA hX hret ls hP hD hS hl => ?_)
  have hl : lv_has ls 3 [(0, .ref (b 0)), (1, .int v1), (2, .int v2)] := hl
  have hin10 : ∀ w ∈ wsX100, w ∈ wsX10_house := by decide +kernel
  have hin8 : ∀ w ∈ wsX80, w ∈ wsX10_house := by decide +kernel
  have f10 : (Cond.fieldLink RX10 10 RX10 (TX10 0).2.1 (TX10 0).2.2.1).before args s = true := hts (.fieldLink RX10 10 RX10 "now" "LLaidDownTheLane$Town;") (by decide +kernel)
  have f126 : (Cond.fieldLink RX10 126 RX8 (TX8 6).2.1 (TX8 6).2.2.1).before args s = true := hts (.fieldLink RX10 126 RX8 "houses" "I") (by decide +kernel)
  obtain ⟨xa0, hxa0⟩ : ∃ z : XA, z = xa := ⟨_, rfl⟩
  rw [← hxa0] at hret
  have hU : xSub xa0 xa := by rw [hxa0]; exact xSub.rf
  clear hxa0
  have b46 : ∀ (xs : XS) (t0 : Int32) (xa : XA) (H : Heap) (locs : List Loc) (ls : Array Slot), xRel b xa xs → xSub xa0 xa → va_P D vwCl (xW b T xa xs) H → va_D A (xW b T xa xs) → va_S A s.heap H locs → lv_has ls 3 [] → X10_house_p46 xs t0 = some (r, xs') → W p l e rmX10_house s m args below meth c H locs 0 0 Q (F0 m 46 ls [.int t0]) := by
    intro xs t0 xa H locs ls hR hU hP hD hS hl heq
    unfold X10_house_p46 at heq
    obtain ⟨heq, heq2⟩ := ret_h heq
    subst heq
    subst heq2
    exact hret 46 H locs ls xa hR hU hP hD hS rfl dX10_house_46
  obtain ⟨H, hH⟩ : ∃ H, H = s.heap := ⟨_, rfl⟩
  obtain ⟨locs, hlocs⟩ : ∃ z : List Loc, z = [] := ⟨_, rfl⟩
  have hS : va_S A s.heap H locs := by rw [hH, hlocs]; exact hS
  have hP : va_P D vwCl (xW b T xa xs) H := by rw [hH]; exact hP
  suffices h9 : W p l e rmX10_house s m args below meth c H locs 0 0 Q (F0 m 0 ls []) by rw [hH, hlocs] at h9; exact h9
  clear hH hlocs
  unfold X10_house at heq
  refine lv_iload_n hx hb dX10_house_0 rfl (lv_at hl 1 rfl) ?_
  obtain ⟨y_1, h_2, heq⟩ := bd1_h heq
  refine h_si (own := RX10) (As := [.int v1]) (rest := []) (w0 := []) (w1 := []) (wr := xW b T xa xs) hx hb hml hown hts (okX10_isSide z l D h_2) (va_cwS 1 hts gX10_house_X10_isSide rfl rfl rfl (hdX10_isSide).2 ⟨Nat.le_of_ble_eq_true rfl, Nat.le_of_ble_eq_true rfl⟩) (hK.sub [] rfl) hA hX hP hD hS (List.Perm.refl _) (List.Perm.refl _) rfl hl.1 rfl (Nat.le_of_ble_eq_true rfl) dX10_house_1 ⟨Nat.le_of_ble_eq_true rfl, Nat.le_of_ble_eq_true rfl⟩ (fun H locs hP hD hS => ?_)
  refine lv_if_eq (tgt := 18) hx hb dX10_house_4 (by decide) (fun c_3 => ?_) (fun c_3 => ?_)
  · have heq := it_t c_3 heq
    refine lv_iconst (v := (-1 : Int32)) hx hb dX10_house_18 (by decide) ?_
    obtain ⟨heq, heq2⟩ := ret_h heq
    subst heq
    subst heq2
    exact hret 19 H locs ls xa hR hU hP hD hS rfl dX10_house_19
  have heq := it_f c_3 heq
  refine lv_iload_n hx hb dX10_house_7 rfl (lv_at hl 2 rfl) ?_
  refine lv_if_lt (tgt := 18) hx hb dX10_house_8 (by decide) (fun c_4 => ?_) (fun c_4 => ?_)
  · have heq := it_t c_4 heq
    refine lv_iconst (v := (-1 : Int32)) hx hb dX10_house_18 (by decide) ?_
    obtain ⟨heq, heq2⟩ := ret_h heq
    subst heq
    subst heq2
    exact hret 19 H locs ls xa hR hU hP hD hS rfl dX10_house_19
  have heq := it_f c_4 heq
  refine lv_iload_n hx hb dX10_house_11 rfl (lv_at hl 2 rfl) ?_
  refine lv_sipush (v := (240 : Int32)) hx hb dX10_house_12 (by decide) ?_
  refine lv_icmp_le (tgt := 20) hx hb dX10_house_15 (by decide) (fun c_5 => ?_) (fun c_5 => ?_)
  · have heq := it_t c_5 heq
    refine lv_aload_n hx hb dX10_house_20 rfl (lv_at hl 0 rfl) ?_
    refine va_get (D := D) (ci := 10) (v := .ref (b 3)) (C := RX10) (T := TX10) (N := 7) hx hb hts hin10 hown hK hP 0 rfl rfl 0 (by decide) f10 (fun _ h9 => h9) rfl dX10_house_21 ?_
    refine lv_iload_n hx hb dX10_house_24 rfl (lv_at hl 1 rfl) ?_
    refine lv_iload_n hx hb dX10_house_25 rfl (lv_at hl 2 rfl) ?_
    obtain ⟨y_6, st_7, h_8, heq⟩ := bnd_h heq
    refine h_vi (own := RX10) (As := [.int v1, .int v2]) (rest := []) (wr := xWr0 b T xa xs) hx hb hml hown hts (okX8_addHouse z l D (fun j => b (3 + j)) T (fun j => some (xFo xa 0 j)) h_8) (cwV 2 hts gX10_house_X8_addHouse rfl rfl rfl hdX8_addHouse ⟨Nat.le_of_ble_eq_true rfl, Nat.le_of_ble_eq_true rfl⟩) hK hA hX hP hD hS (xp0 b T xa xs) (xq0 b T xa xs _) (ci := 8) (q0 := 0) rfl rfl rfl hl.1 rfl (Nat.le_of_ble_eq_true rfl) dX10_house_26 ⟨Nat.le_of_ble_eq_true rfl, Nat.le_of_ble_eq_true rfl⟩ (fun H locs hP hD hS => ?_)
    obtain ⟨xs_9, exs_9⟩ : ∃ z, z = uT xs 0 st_7 := ⟨_, rfl⟩
    have hR : xRel b xa (uT xs 0 st_7) := hR.uT _ _
    rw [← exs_9] at hP hD hR
    have heq := nm_h exs_9 heq
    refine lv_if_eq (tgt := 44) hx hb dX10_house_29 (by decide) (fun c_10 => ?_) (fun c_10 => ?_)
    · have heq := it_t c_10 heq
      refine lv_bipush (v := (-2 : Int32)) hx hb dX10_house_44 (by decide) ?_
      exact b46 xs_9 (-2 : Int32) xa H locs ls hR hU hP hD hS (lv_sub hl [] rfl) heq
    have heq := it_f c_10 heq
    refine lv_aload_n hx hb dX10_house_32 rfl (lv_at hl 0 rfl) ?_
    refine va_get (D := D) (ci := 10) (v := .ref (b 3)) (C := RX10) (T := TX10) (N := 7) hx hb hts hin10 hown hK hP 0 rfl rfl 0 (by decide) f10 (fun _ h9 => h9) rfl dX10_house_33 ?_
    refine va_get (D := D) (ci := 8) (v := .int (gF (xT xs_9 0) 6)) (C := RX8) (T := TX8) (N := 10) hx hb hts hin8 hown hK hP 3 rfl rfl 6 (by decide) f126 (fun _ h9 => h9) rfl dX10_house_36 ?_
    refine lv_iconst (v := (1 : Int32)) hx hb dX10_house_39 (by decide) ?_
    refine lv_isub hx hb dX10_house_40 ?_
    refine lv_goto (tgt := 46) hx hb dX10_house_41 (by decide) ?_
    exact b46 xs_9 ((gF (xT xs_9 0) 6) - (1 : Int32)) xa H locs ls hR hU hP hD hS (lv_sub hl [] rfl) heq
  have heq := it_f c_5 heq
  refine lv_iconst (v := (-1 : Int32)) hx hb dX10_house_18 (by decide) ?_
  obtain ⟨heq, heq2⟩ := ret_h heq
  subst heq
  subst heq2
  exact hret 19 H locs ls xa hR hU hP hD hS rfl dX10_house_19
theorem dX10_about_0 : decode cX10_about 0 = .ok (.iload_n 1, 1) := by decide +kernel
theorem dX10_about_1 : decode cX10_about 1 = .ok (.ifCond .lt 14, 3) := by decide +kernel
theorem dX10_about_4 : decode cX10_about 4 = .ok (.iload_n 1, 1) := by decide +kernel
theorem dX10_about_5 : decode cX10_about 5 = .ok (.aload_n 0, 1) := by decide +kernel
theorem dX10_about_6 : decode cX10_about 6 = .ok (.getfield 10, 3) := by decide +kernel
theorem dX10_about_9 : decode cX10_about 9 = .ok (.getfield 126, 3) := by decide +kernel
theorem dX10_about_12 : decode cX10_about 12 = .ok (.if_icmp .lt 5, 3) := by decide +kernel
theorem dX10_about_15 : decode cX10_about 15 = .ok (.iconst (-1), 1) := by decide +kernel
theorem dX10_about_16 : decode cX10_about 16 = .ok (.ireturn, 1) := by decide +kernel
theorem dX10_about_17 : decode cX10_about 17 = .ok (.iload_n 2, 1) := by decide +kernel
theorem dX10_about_18 : decode cX10_about 18 = .ok (.lookupswitch 46 #[(0, 26), (1, 36)], 26) := by decide +kernel
theorem dX10_about_44 : decode cX10_about 44 = .ok (.aload_n 0, 1) := by decide +kernel
theorem dX10_about_45 : decode cX10_about 45 = .ok (.getfield 10, 3) := by decide +kernel
theorem dX10_about_48 : decode cX10_about 48 = .ok (.getfield 129, 3) := by decide +kernel
theorem dX10_about_51 : decode cX10_about 51 = .ok (.iload_n 1, 1) := by decide +kernel
theorem dX10_about_52 : decode cX10_about 52 = .ok (.iaload, 1) := by decide +kernel
theorem dX10_about_53 : decode cX10_about 53 = .ok (.ireturn, 1) := by decide +kernel
theorem dX10_about_54 : decode cX10_about 54 = .ok (.aload_n 0, 1) := by decide +kernel
theorem dX10_about_55 : decode cX10_about 55 = .ok (.getfield 10, 3) := by decide +kernel
theorem dX10_about_58 : decode cX10_about 58 = .ok (.getfield 132, 3) := by decide +kernel
theorem dX10_about_61 : decode cX10_about 61 = .ok (.iload_n 1, 1) := by decide +kernel
theorem dX10_about_62 : decode cX10_about 62 = .ok (.iaload, 1) := by decide +kernel
theorem dX10_about_63 : decode cX10_about 63 = .ok (.ireturn, 1) := by decide +kernel
theorem dX10_about_64 : decode cX10_about 64 = .ok (.iconst (-1), 1) := by decide +kernel
theorem dX10_about_65 : decode cX10_about 65 = .ok (.ireturn, 1) := by decide +kernel
/-! X10 about -/
def X10_about (xs : XS) (v1 : Int32) (v2 : Int32) : Option (Int32 × XS) :=
    if v1 < 0 then
      (some ((-1 : Int32), xs))
    else
    if v1 < (gF (xT xs 0) 6) then
      (if v2 = (0 : Int32) then
        (inr v1 6 <|
        some ((gA (xT xs 0) 4 v1.toNatClampNeg), xs))
      else
      if v2 = (1 : Int32) then
        (inr v1 6 <|
        some ((gA (xT xs 0) 5 v1.toNatClampNeg), xs))
      else
      some ((-1 : Int32), xs))
    else
    some ((-1 : Int32), xs)
abbrev rmX10_about : Room := { frames := 0, cells := 0, slots := 0, locals := 0 }
theorem hdX10_about : yX10_about.cls = RX10 ∧ yX10_about.cls ≠ "java/lang/invoke/MethodHandle" ∧ yX10_about.cls ≠ "java/lang/invoke/VarHandle" ∧ (parseMethodDescriptor yX10_about.desc).map (fun d => d.parameters.length) = some 2 := by decide +kernel
set_option maxRecDepth 100000 in
set_option maxHeartbeats 8000000 in
theorem okX10_about (z : Nat → Nat) (l : Launch) (D : va_G) (T : mT3) (b : Nat → Nat) {xa : XA} {xs : XS} {v1 : Int32} {v2 : Int32} {r : Int32} {xs' : XS} (hR : xRel b xa xs) (heq : X10_about xs v1 v2 = some (r, xs')) : hXi xSub z l D T b yX10_about wsX10_about rmX10_about [.ref (b 0), .int v1, .int v2] xa xs r xs' := by
  refine xbody_i (plainFor_of_name (by decide)) rfl (Nat.le_of_ble_eq_true rfl) (fun p e s m args below meth c A Q hx hb hml hown hts hK hA hX hret ls hP hD hS hl => ?_)
  have hl : lv_has ls 3 [(0, .ref (b 0)), (1, .int v1), (2, .int v2)] := hl
  have hin10 : ∀ w ∈ wsX100, w ∈ wsX10_about := by decide +kernel
  have hin8 : ∀ w ∈ wsX80, w ∈ wsX10_about := by decide +kernel
  have f10 : (Cond.fieldLink RX10 10 RX10 (TX10 0).2.1 (TX10 0).2.2.1).before args s = true := hts (.fieldLink RX10 10 RX10 "now" "LLaidDownTheLane$Town;") (by decide +kernel)
  have f126 : (Cond.fieldLink RX10 126 RX8 (TX8 6).2.1 (TX8 6).2.2.1).before args s = true := hts (.fieldLink RX10 126 RX8 "houses" "I") (by decide +kernel)
  have f129 : (Cond.fieldLink RX10 129 RX8 (TX8 4).2.1 (TX8 4).2.2.1).before args s = true := hts (.fieldLink RX10 129 RX8 "houseSide" "[I") (by decide +kernel)
  have f132 : (Cond.fieldLink RX10 132 RX8 (TX8 5).2.1 (TX8 5).2.2.1).before args s = true := hts (.fieldLink RX10 132 RX8 "houseFar" "[I") (by decide +kernel)
  obtain ⟨xa0, hxa0⟩ : ∃ z : XA, z = xa := ⟨_, rfl⟩
  rw [← hxa0] at hret
  have hU : xSub xa0 xa := by rw [hxa0]; exact xSub.rf
  clear hxa0
  obtain ⟨H, hH⟩ : ∃ H, H = s.heap := ⟨_, rfl⟩
  obtain ⟨locs, hlocs⟩ : ∃ z : List Loc, z = [] := ⟨_, rfl⟩
  have hS : va_S A s.heap H locs := by rw [hH, hlocs]; exact hS
  have hP : va_P D vwCl (xW b T xa xs) H := by rw [hH]; exact hP
  suffices h9 : W p l e rmX10_about s m args below meth c H locs 0 0 Q (F0 m 0 ls []) by rw [hH, hlocs] at h9; exact h9
  clear hH hlocs
  unfold X10_about at heq
  refine lv_iload_n hx hb dX10_about_0 rfl (lv_at hl 1 rfl) ?_
  refine lv_if_lt (tgt := 15) hx hb dX10_about_1 (by decide) (fun c_1 => ?_) (fun c_1 => ?_)
  · have heq := it_t c_1 heq
    refine lv_iconst (v := (-1 : Int32)) hx hb dX10_about_15 (by decide) ?_
    obtain ⟨heq, heq2⟩ := ret_h heq
    subst heq
    subst heq2
    exact hret 16 H locs ls xa hR hU hP hD hS rfl dX10_about_16
  have heq := it_f c_1 heq
  refine lv_iload_n hx hb dX10_about_4 rfl (lv_at hl 1 rfl) ?_
  refine lv_aload_n hx hb dX10_about_5 rfl (lv_at hl 0 rfl) ?_
  refine va_get (D := D) (ci := 10) (v := .ref (b 3)) (C := RX10) (T := TX10) (N := 7) hx hb hts hin10 hown hK hP 0 rfl rfl 0 (by decide) f10 (fun _ h9 => h9) rfl dX10_about_6 ?_
  refine va_get (D := D) (ci := 8) (v := .int (gF (xT xs 0) 6)) (C := RX8) (T := TX8) (N := 10) hx hb hts hin8 hown hK hP 3 rfl rfl 6 (by decide) f126 (fun _ h9 => h9) rfl dX10_about_9 ?_
  refine lv_icmp_lt (tgt := 17) hx hb dX10_about_12 (by decide) (fun c_2 => ?_) (fun c_2 => ?_)
  · have heq := it_t c_2 heq
    refine lv_iload_n hx hb dX10_about_17 rfl (lv_at hl 2 rfl) ?_
    by_cases c_3 : v2 = (0 : Int32)
    · have heq := it_t c_3 heq
      refine lv_lookup (tgt := 44) hx hb dX10_about_18 (by decide) (by rw [c_3]) (by decide) ?_
      refine lv_aload_n hx hb dX10_about_44 rfl (lv_at hl 0 rfl) ?_
      refine va_get (D := D) (ci := 10) (v := .ref (b 3)) (C := RX10) (T := TX10) (N := 7) hx hb hts hin10 hown hK hP 0 rfl rfl 0 (by decide) f10 (fun _ h9 => h9) rfl dX10_about_45 ?_
      refine va_get (D := D) (ci := 8) (v := .ref (b 8)) (C := RX8) (T := TX8) (N := 10) hx hb hts hin8 hown hK hP 3 rfl rfl 4 (by decide) f129 (fun _ h9 => h9) rfl dX10_about_48 ?_
      refine lv_iload_n hx hb dX10_about_51 rfl (lv_at hl 1 rfl) ?_
      obtain ⟨n_4, heq⟩ := inr_h heq
      refine va_iald (f := gA (xT xs 0) 4) (n := 6) hx hb hK hP 8 0 rfl rfl n_4 dX10_about_52 ?_
      obtain ⟨heq, heq2⟩ := ret_h heq
      subst heq
      subst heq2
      exact hret 53 H locs ls xa hR hU hP hD hS rfl dX10_about_53
    have heq := it_f c_3 heq
    by_cases c_5 : v2 = (1 : Int32)
    · have heq := it_t c_5 heq
      refine lv_lookup (tgt := 54) hx hb dX10_about_18 (by decide) (by rw [c_5]) (by decide) ?_
      refine lv_aload_n hx hb dX10_about_54 rfl (lv_at hl 0 rfl) ?_
      refine va_get (D := D) (ci := 10) (v := .ref (b 3)) (C := RX10) (T := TX10) (N := 7) hx hb hts hin10 hown hK hP 0 rfl rfl 0 (by decide) f10 (fun _ h9 => h9) rfl dX10_about_55 ?_
      refine va_get (D := D) (ci := 8) (v := .ref (b 9)) (C := RX8) (T := TX8) (N := 10) hx hb hts hin8 hown hK hP 3 rfl rfl 5 (by decide) f132 (fun _ h9 => h9) rfl dX10_about_58 ?_
      refine lv_iload_n hx hb dX10_about_61 rfl (lv_at hl 1 rfl) ?_
      obtain ⟨n_6, heq⟩ := inr_h heq
      refine va_iald (f := gA (xT xs 0) 5) (n := 6) hx hb hK hP 9 0 rfl rfl n_6 dX10_about_62 ?_
      obtain ⟨heq, heq2⟩ := ret_h heq
      subst heq
      subst heq2
      exact hret 63 H locs ls xa hR hU hP hD hS rfl dX10_about_63
    have heq := it_f c_5 heq
    refine lv_lookup (off := 46) (tgt := 64) hx hb dX10_about_18 (by decide) (by show Op.lookupswitch.offset [(0, 26), (1, 36)] 46 _ = 46; rw [Op.lookupswitch.offset_cons, if_neg (lk_ne (a := 0) rfl c_3), Op.lookupswitch.offset_cons, if_neg (lk_ne (a := 1) rfl c_5)]; rfl) (by decide) ?_
    refine lv_iconst (v := (-1 : Int32)) hx hb dX10_about_64 (by decide) ?_
    obtain ⟨heq, heq2⟩ := ret_h heq
    subst heq
    subst heq2
    exact hret 65 H locs ls xa hR hU hP hD hS rfl dX10_about_65
  have heq := it_f c_2 heq
  refine lv_iconst (v := (-1 : Int32)) hx hb dX10_about_15 (by decide) ?_
  obtain ⟨heq, heq2⟩ := ret_h heq
  subst heq
  subst heq2
  exact hret 16 H locs ls xa hR hU hP hD hS rfl dX10_about_16
set_option maxRecDepth 20000 in
theorem ggX10_light_X8_kindle : GoodIn wsX10_light wsX8_kindle := goodIn_r _ [6, 7, 8, 9, 10, 5, 11, 12, 25, 26, 27, 28, 29, 30, 31, 32, 33, 34] (by decide +kernel) (by decide +kernel)
set_option maxRecDepth 20000 in
theorem gX10_light_X8_kindle : GoodIn wsX10_light (wsV RX10 135 RX8 yX8_kindle wsX8_kindle) := goodIn_app (goodIn_of _ (by decide +kernel)) ggX10_light_X8_kindle
set_option maxRecDepth 20000 in
theorem ggX10_light_X8_countBurning : GoodIn wsX10_light wsX8_countBurning := goodIn_r _ [16, 17, 25, 26, 27, 28, 29, 30, 31, 32, 33, 34] (by decide +kernel) (by decide +kernel)
set_option maxRecDepth 20000 in
theorem gX10_light_X8_countBurning : GoodIn wsX10_light (wsV RX10 138 RX8 yX8_countBurning wsX8_countBurning) := goodIn_app (goodIn_of _ (by decide +kernel)) ggX10_light_X8_countBurning
theorem dX10_light_0 : decode cX10_light 0 = .ok (.aload_n 0, 1) := by decide +kernel
theorem dX10_light_1 : decode cX10_light 1 = .ok (.getfield 10, 3) := by decide +kernel
theorem dX10_light_4 : decode cX10_light 4 = .ok (.invokevirtual 135, 3) := by decide +kernel
theorem dX10_light_7 : decode cX10_light 7 = .ok (.ifCond .eq 13, 3) := by decide +kernel
theorem dX10_light_10 : decode cX10_light 10 = .ok (.aload_n 0, 1) := by decide +kernel
theorem dX10_light_11 : decode cX10_light 11 = .ok (.getfield 10, 3) := by decide +kernel
theorem dX10_light_14 : decode cX10_light 14 = .ok (.invokevirtual 138, 3) := by decide +kernel
theorem dX10_light_17 : decode cX10_light 17 = .ok (.goto 5, 3) := by decide +kernel
theorem dX10_light_20 : decode cX10_light 20 = .ok (.bipush (-3), 2) := by decide +kernel
theorem dX10_light_22 : decode cX10_light 22 = .ok (.ireturn, 1) := by decide +kernel
/-! X10 light -/
def X10_light_p22 (xs : XS) (t0 : Int32) : Option (Int32 × XS) :=
    some (t0, xs)
def X10_light (xs : XS) : Option (Int32 × XS) :=
    bnd (X8_kindle (xT xs 0)) fun y_1 st_2 =>
    nm (uT xs 0 st_2) fun xs_4 =>
    if y_1 = 0 then
      (X10_light_p22 xs_4 (-3 : Int32))
    else
    bnd (X8_countBurning (xT xs_4 0)) fun y_6 st_7 =>
    nm (uT xs_4 0 st_7) fun xs_9 =>
    X10_light_p22 xs_9 y_6
abbrev rmX10_light : Room := { frames := 2, cells := 0, slots := 0, locals := 40 }
theorem hdX10_light : yX10_light.cls = RX10 ∧ yX10_light.cls ≠ "java/lang/invoke/MethodHandle" ∧ yX10_light.cls ≠ "java/lang/invoke/VarHandle" ∧ (parseMethodDescriptor yX10_light.desc).map (fun d => d.parameters.length) = some 0 := by decide +kernel
set_option maxRecDepth 100000 in
set_option maxHeartbeats 8000000 in
theorem okX10_light (z : Nat → Nat) (l : Launch) (D : va_G) (T : mT3) (b : Nat → Nat) {xa : XA} {xs : XS} {r : Int32} {xs' : XS} (hR : xRel b xa xs) (heq : X10_light xs = some (r, xs')) : hXi xSub z l D T b yX10_light wsX10_light rmX10_light [.ref (b 0)] xa xs r xs' := by
  refine xbody_i (plainFor_of_name (by decide)) rfl (Nat.le_of_ble_eq_true rfl) (fun p e s m args below meth c A Q hx hb hml hown hts hK hA hX hret ls hP hD hS hl => ?_)
  have hl : lv_has ls 1 [(0, .ref (b 0))] := hl
  have hin10 : ∀ w ∈ wsX100, w ∈ wsX10_light := by decide +kernel
  have f10 : (Cond.fieldLink RX10 10 RX10 (TX10 0).2.1 (TX10 0).2.2.1).before args s = true := hts (.fieldLink RX10 10 RX10 "now" "LLaidDownTheLane$Town;") (by decide +kernel)
  obtain ⟨xa0, hxa0⟩ : ∃ z : XA, z = xa := ⟨_, rfl⟩
  rw [← hxa0] at hret
  have hU : xSub xa0 xa := by rw [hxa0]; exact xSub.rf
  clear hxa0
  have b22 : ∀ (xs : XS) (t0 : Int32) (xa : XA) (H : Heap) (locs : List Loc) (ls : Array Slot), xRel b xa xs → xSub xa0 xa → va_P D vwCl (xW b T xa xs) H → va_D A (xW b T xa xs) → va_S A s.heap H locs → lv_has ls 1 [] → X10_light_p22 xs t0 = some (r, xs') → W p l e rmX10_light s m args below meth c H locs 0 0 Q (F0 m 22 ls [.int t0]) := by
    intro xs t0 xa H locs ls hR hU hP hD hS hl heq
    unfold X10_light_p22 at heq
    obtain ⟨heq, heq2⟩ := ret_h heq
    subst heq
    subst heq2
    exact hret 22 H locs ls xa hR hU hP hD hS rfl dX10_light_22
  obtain ⟨H, hH⟩ : ∃ H, H = s.heap := ⟨_, rfl⟩
  obtain ⟨locs, hlocs⟩ : ∃ z : List Loc, z = [] := ⟨_, rfl⟩
  have hS : va_S A s.heap H locs := by rw [hH, hlocs]; exact hS
  have hP : va_P D vwCl (xW b T xa xs) H := by rw [hH]; exact hP
  suffices h9 : W p l e rmX10_light s m args below meth c H locs 0 0 Q (F0 m 0 ls []) by rw [hH, hlocs] at h9; exact h9
  clear hH hlocs
  unfold X10_light at heq
  refine lv_aload_n hx hb dX10_light_0 rfl (lv_at hl 0 rfl) ?_
  refine va_get (D := D) (ci := 10) (v := .ref (b 3)) (C := RX10) (T := TX10) (N := 7) hx hb hts hin10 hown hK hP 0 rfl rfl 0 (by decide) f10 (fun _ h9 => h9) rfl dX10_light_1 ?_
  obtain ⟨y_1, st_2, h_3, heq⟩ := bnd_h heq
  refine h_vi (own := RX10) (As := []) (rest := []) (wr := xWr0 b T xa xs) hx hb hml hown hts (okX8_kindle z l D (fun j => b (3 + j)) T (fun j => some (xFo xa 0 j)) h_3) (cwV 0 hts gX10_light_X8_kindle rfl rfl rfl hdX8_kindle ⟨Nat.le_of_ble_eq_true rfl, Nat.le_of_ble_eq_true rfl⟩) hK hA hX hP hD hS (xp0 b T xa xs) (xq0 b T xa xs _) (ci := 8) (q0 := 0) rfl rfl rfl hl.1 rfl (Nat.le_of_ble_eq_true rfl) dX10_light_4 ⟨Nat.le_of_ble_eq_true rfl, Nat.le_of_ble_eq_true rfl⟩ (fun H locs hP hD hS => ?_)
  obtain ⟨xs_4, exs_4⟩ : ∃ z, z = uT xs 0 st_2 := ⟨_, rfl⟩
  have hR : xRel b xa (uT xs 0 st_2) := hR.uT _ _
  rw [← exs_4] at hP hD hR
  have heq := nm_h exs_4 heq
  refine lv_if_eq (tgt := 20) hx hb dX10_light_7 (by decide) (fun c_5 => ?_) (fun c_5 => ?_)
  · have heq := it_t c_5 heq
    refine lv_bipush (v := (-3 : Int32)) hx hb dX10_light_20 (by decide) ?_
    exact b22 xs_4 (-3 : Int32) xa H locs ls hR hU hP hD hS (lv_sub hl [] rfl) heq
  have heq := it_f c_5 heq
  refine lv_aload_n hx hb dX10_light_10 rfl (lv_at hl 0 rfl) ?_
  refine va_get (D := D) (ci := 10) (v := .ref (b 3)) (C := RX10) (T := TX10) (N := 7) hx hb hts hin10 hown hK hP 0 rfl rfl 0 (by decide) f10 (fun _ h9 => h9) rfl dX10_light_11 ?_
  obtain ⟨y_6, st_7, h_8, heq⟩ := bnd_h heq
  refine h_vi (own := RX10) (As := []) (rest := []) (wr := xWr0 b T xa xs_4) hx hb hml hown hts (okX8_countBurning z l D (fun j => b (3 + j)) T (fun j => some (xFo xa 0 j)) h_8) (cwV 0 hts gX10_light_X8_countBurning rfl rfl rfl hdX8_countBurning ⟨Nat.le_of_ble_eq_true rfl, Nat.le_of_ble_eq_true rfl⟩) hK hA hX hP hD hS (xp0 b T xa xs_4) (xq0 b T xa xs_4 _) (ci := 8) (q0 := 0) rfl rfl rfl hl.1 rfl (Nat.le_of_ble_eq_true rfl) dX10_light_14 ⟨Nat.le_of_ble_eq_true rfl, Nat.le_of_ble_eq_true rfl⟩ (fun H locs hP hD hS => ?_)
  obtain ⟨xs_9, exs_9⟩ : ∃ z, z = uT xs_4 0 st_7 := ⟨_, rfl⟩
  have hR : xRel b xa (uT xs_4 0 st_7) := hR.uT _ _
  rw [← exs_9] at hP hD hR
  have heq := nm_h exs_9 heq
  refine lv_goto (tgt := 22) hx hb dX10_light_17 (by decide) ?_
  exact b22 xs_9 y_6 xa H locs ls hR hU hP hD hS (lv_sub hl [] rfl) heq
set_option maxRecDepth 20000 in
theorem ggX10_minutes_X8_passes : GoodIn wsX10_minutes wsX8_passes := goodIn_r _ [7, 8, 9, 10, 11, 12, 13, 6, 14, 15, 16, 17, 18, 19, 20, 21, 22, 23, 24, 25, 26, 27, 28, 29, 30, 31, 32, 33, 34, 35, 36, 37, 38, 39, 40, 48, 49, 50, 51, 52, 53, 54, 55, 56, 57] (by decide +kernel) (by decide +kernel)
set_option maxRecDepth 20000 in
theorem gX10_minutes_X8_passes : GoodIn wsX10_minutes (wsV RX10 141 RX8 yX8_passes wsX8_passes) := goodIn_app (goodIn_of _ (by decide +kernel)) ggX10_minutes_X8_passes
theorem dX10_minutes_0 : decode cX10_minutes 0 = .ok (.iload_n 1, 1) := by decide +kernel
theorem dX10_minutes_1 : decode cX10_minutes 1 = .ok (.iconst 1, 1) := by decide +kernel
theorem dX10_minutes_2 : decode cX10_minutes 2 = .ok (.if_icmp .lt 9, 3) := by decide +kernel
theorem dX10_minutes_5 : decode cX10_minutes 5 = .ok (.iload_n 1, 1) := by decide +kernel
theorem dX10_minutes_6 : decode cX10_minutes 6 = .ok (.bipush 99, 2) := by decide +kernel
theorem dX10_minutes_8 : decode cX10_minutes 8 = .ok (.if_icmp .le 5, 3) := by decide +kernel
theorem dX10_minutes_11 : decode cX10_minutes 11 = .ok (.iconst (-1), 1) := by decide +kernel
theorem dX10_minutes_12 : decode cX10_minutes 12 = .ok (.ireturn, 1) := by decide +kernel
theorem dX10_minutes_13 : decode cX10_minutes 13 = .ok (.aload_n 0, 1) := by decide +kernel
theorem dX10_minutes_14 : decode cX10_minutes 14 = .ok (.getfield 10, 3) := by decide +kernel
theorem dX10_minutes_17 : decode cX10_minutes 17 = .ok (.iload_n 1, 1) := by decide +kernel
theorem dX10_minutes_18 : decode cX10_minutes 18 = .ok (.invokevirtual 141, 3) := by decide +kernel
theorem dX10_minutes_21 : decode cX10_minutes 21 = .ok (.ifCond .eq 13, 3) := by decide +kernel
theorem dX10_minutes_24 : decode cX10_minutes 24 = .ok (.aload_n 0, 1) := by decide +kernel
theorem dX10_minutes_25 : decode cX10_minutes 25 = .ok (.getfield 10, 3) := by decide +kernel
theorem dX10_minutes_28 : decode cX10_minutes 28 = .ok (.getfield 93, 3) := by decide +kernel
theorem dX10_minutes_31 : decode cX10_minutes 31 = .ok (.goto 5, 3) := by decide +kernel
theorem dX10_minutes_34 : decode cX10_minutes 34 = .ok (.bipush (-3), 2) := by decide +kernel
theorem dX10_minutes_36 : decode cX10_minutes 36 = .ok (.ireturn, 1) := by decide +kernel
/-! X10 minutes -/
def X10_minutes_p36 (xs : XS) (t0 : Int32) : Option (Int32 × XS) :=
    some (t0, xs)
def X10_minutes (xs : XS) (v1 : Int32) : Option (Int32 × XS) :=
    if v1 < (1 : Int32) then
      (some ((-1 : Int32), xs))
    else
    if v1 ≤ (99 : Int32) then
      (bnd (X8_passes (xT xs 0) v1) fun y_3 st_4 =>
      nm (uT xs 0 st_4) fun xs_6 =>
      if y_3 = 0 then
        (X10_minutes_p36 xs_6 (-3 : Int32))
      else
      X10_minutes_p36 xs_6 (gF (xT xs_6 0) 8))
    else
    some ((-1 : Int32), xs)
abbrev rmX10_minutes : Room := { frames := 5, cells := 0, slots := 0, locals := 116 }
theorem hdX10_minutes : yX10_minutes.cls = RX10 ∧ yX10_minutes.cls ≠ "java/lang/invoke/MethodHandle" ∧ yX10_minutes.cls ≠ "java/lang/invoke/VarHandle" ∧ (parseMethodDescriptor yX10_minutes.desc).map (fun d => d.parameters.length) = some 1 := by decide +kernel
set_option maxRecDepth 100000 in
set_option maxHeartbeats 8000000 in
theorem okX10_minutes (z : Nat → Nat) (l : Launch) (D : va_G) (T : mT3) (b : Nat → Nat) {xa : XA} {xs : XS} {v1 : Int32} {r : Int32} {xs' : XS} (hR : xRel b xa xs) (heq : X10_minutes xs v1 = some (r, xs')) : hXi xSub z l D T b yX10_minutes wsX10_minutes rmX10_minutes [.ref (b 0), .int v1] xa xs r xs' := by
  refine xbody_i (plainFor_of_name (by decide)) rfl (Nat.le_of_ble_eq_true rfl) (fun p e s m args below meth c A Q hx hb hml hown hts hK hA hX hret ls hP hD hS hl => ?_)
  have hl : lv_has ls 2 [(0, .ref (b 0)), (1, .int v1)] := hl
  have hin10 : ∀ w ∈ wsX100, w ∈ wsX10_minutes := by decide +kernel
  have hin8 : ∀ w ∈ wsX80, w ∈ wsX10_minutes := by decide +kernel
  have f10 : (Cond.fieldLink RX10 10 RX10 (TX10 0).2.1 (TX10 0).2.2.1).before args s = true := hts (.fieldLink RX10 10 RX10 "now" "LLaidDownTheLane$Town;") (by decide +kernel)
  have f93 : (Cond.fieldLink RX10 93 RX8 (TX8 8).2.1 (TX8 8).2.2.1).before args s = true := hts (.fieldLink RX10 93 RX8 "minute" "I") (by decide +kernel)
  obtain ⟨xa0, hxa0⟩ : ∃ z : XA, z = xa := ⟨_, rfl⟩
  rw [← hxa0] at hret
  have hU : xSub xa0 xa := by rw [hxa0]; exact xSub.rf
  clear hxa0
  have b36 : ∀ (xs : XS) (t0 : Int32) (xa : XA) (H : Heap) (locs : List Loc) (ls : Array Slot), xRel b xa xs → xSub xa0 xa → va_P D vwCl (xW b T xa xs) H → va_D A (xW b T xa xs) → va_S A s.heap H locs → lv_has ls 2 [] → X10_minutes_p36 xs t0 = some (r, xs') → W p l e rmX10_minutes s m args below meth c H locs 0 0 Q (F0 m 36 ls [.int t0]) := by
    intro xs t0 xa H locs ls hR hU hP hD hS hl heq
    unfold X10_minutes_p36 at heq
    obtain ⟨heq, heq2⟩ := ret_h heq
    subst heq
    subst heq2
    exact hret 36 H locs ls xa hR hU hP hD hS rfl dX10_minutes_36
  obtain ⟨H, hH⟩ : ∃ H, H = s.heap := ⟨_, rfl⟩
  obtain ⟨locs, hlocs⟩ : ∃ z : List Loc, z = [] := ⟨_, rfl⟩
  have hS : va_S A s.heap H locs := by rw [hH, hlocs]; exact hS
  have hP : va_P D vwCl (xW b T xa xs) H := by rw [hH]; exact hP
  suffices h9 : W p l e rmX10_minutes s m args below meth c H locs 0 0 Q (F0 m 0 ls []) by rw [hH, hlocs] at h9; exact h9
  clear hH hlocs
  unfold X10_minutes at heq
  refine lv_iload_n hx hb dX10_minutes_0 rfl (lv_at hl 1 rfl) ?_
  refine lv_iconst (v := (1 : Int32)) hx hb dX10_minutes_1 (by decide) ?_
  refine lv_icmp_lt (tgt := 11) hx hb dX10_minutes_2 (by decide) (fun c_1 => ?_) (fun c_1 => ?_)
  · have heq := it_t c_1 heq
    refine lv_iconst (v := (-1 : Int32)) hx hb dX10_minutes_11 (by decide) ?_
    obtain ⟨heq, heq2⟩ := ret_h heq
    subst heq
    subst heq2
    exact hret 12 H locs ls xa hR hU hP hD hS rfl dX10_minutes_12
  have heq := it_f c_1 heq
  refine lv_iload_n hx hb dX10_minutes_5 rfl (lv_at hl 1 rfl) ?_
  refine lv_bipush (v := (99 : Int32)) hx hb dX10_minutes_6 (by decide) ?_
  refine lv_icmp_le (tgt := 13) hx hb dX10_minutes_8 (by decide) (fun c_2 => ?_) (fun c_2 => ?_)
  · have heq := it_t c_2 heq
    refine lv_aload_n hx hb dX10_minutes_13 rfl (lv_at hl 0 rfl) ?_
    refine va_get (D := D) (ci := 10) (v := .ref (b 3)) (C := RX10) (T := TX10) (N := 7) hx hb hts hin10 hown hK hP 0 rfl rfl 0 (by decide) f10 (fun _ h9 => h9) rfl dX10_minutes_14 ?_
    refine lv_iload_n hx hb dX10_minutes_17 rfl (lv_at hl 1 rfl) ?_
    obtain ⟨y_3, st_4, h_5, heq⟩ := bnd_h heq
    refine h_vi (own := RX10) (As := [.int v1]) (rest := []) (wr := xWr0 b T xa xs) hx hb hml hown hts (okX8_passes z l D (fun j => b (3 + j)) T (fun j => some (xFo xa 0 j)) h_5) (cwV 1 hts gX10_minutes_X8_passes rfl rfl rfl hdX8_passes ⟨Nat.le_of_ble_eq_true rfl, Nat.le_of_ble_eq_true rfl⟩) hK hA hX hP hD hS (xp0 b T xa xs) (xq0 b T xa xs _) (ci := 8) (q0 := 0) rfl rfl rfl hl.1 rfl (Nat.le_of_ble_eq_true rfl) dX10_minutes_18 ⟨Nat.le_of_ble_eq_true rfl, Nat.le_of_ble_eq_true rfl⟩ (fun H locs hP hD hS => ?_)
    obtain ⟨xs_6, exs_6⟩ : ∃ z, z = uT xs 0 st_4 := ⟨_, rfl⟩
    have hR : xRel b xa (uT xs 0 st_4) := hR.uT _ _
    rw [← exs_6] at hP hD hR
    have heq := nm_h exs_6 heq
    refine lv_if_eq (tgt := 34) hx hb dX10_minutes_21 (by decide) (fun c_7 => ?_) (fun c_7 => ?_)
    · have heq := it_t c_7 heq
      refine lv_bipush (v := (-3 : Int32)) hx hb dX10_minutes_34 (by decide) ?_
      exact b36 xs_6 (-3 : Int32) xa H locs ls hR hU hP hD hS (lv_sub hl [] rfl) heq
    have heq := it_f c_7 heq
    refine lv_aload_n hx hb dX10_minutes_24 rfl (lv_at hl 0 rfl) ?_
    refine va_get (D := D) (ci := 10) (v := .ref (b 3)) (C := RX10) (T := TX10) (N := 7) hx hb hts hin10 hown hK hP 0 rfl rfl 0 (by decide) f10 (fun _ h9 => h9) rfl dX10_minutes_25 ?_
    refine va_get (D := D) (ci := 8) (v := .int (gF (xT xs_6 0) 8)) (C := RX8) (T := TX8) (N := 10) hx hb hts hin8 hown hK hP 3 rfl rfl 8 (by decide) f93 (fun _ h9 => h9) rfl dX10_minutes_28 ?_
    refine lv_goto (tgt := 36) hx hb dX10_minutes_31 (by decide) ?_
    exact b36 xs_6 (gF (xT xs_6 0) 8) xa H locs ls hR hU hP hD hS (lv_sub hl [] rfl) heq
  have heq := it_f c_2 heq
  refine lv_iconst (v := (-1 : Int32)) hx hb dX10_minutes_11 (by decide) ?_
  obtain ⟨heq, heq2⟩ := ret_h heq
  subst heq
  subst heq2
  exact hret 12 H locs ls xa hR hU hP hD hS rfl dX10_minutes_12
set_option maxRecDepth 20000 in
theorem ggX10_anew_X8_renew : GoodIn wsX10_anew wsX8_renew := goodIn_r _ [6, 7, 8, 9, 10, 11, 12, 13, 14, 15, 16, 17, 18, 19, 20, 21, 22, 5, 23, 24, 25, 26, 27, 28, 29, 30, 31, 32, 33, 34, 35, 36, 37, 38, 39, 40, 41, 42, 43, 44, 45, 46, 47, 48, 49, 50, 51, 52, 53, 54, 55, 56, 57, 58, 59, 60, 61, 62, 63, 64, 65, 66, 67, 68, 69, 70, 71, 72, 73, 74, 75, 76, 77, 78, 79, 80, 81, 82, 83, 84, 85, 86, 87, 88, 89, 90, 91, 92, 93, 94, 95, 96, 136, 137, 138, 139, 140, 141, 142, 143, 144, 145, 146, 147, 148, 149, 150, 151, 152, 153] (by decide +kernel) (by decide +kernel)
set_option maxRecDepth 20000 in
theorem gX10_anew_X8_renew : GoodIn wsX10_anew (wsV RX10 144 RX8 yX8_renew wsX8_renew) := goodIn_app (goodIn_of _ (by decide +kernel)) ggX10_anew_X8_renew
set_option maxRecDepth 20000 in
theorem ggX10_anew_X8_settle : GoodIn wsX10_anew wsX8_settle := goodIn_r _ [100, 11, 12, 101, 102, 103, 5, 104, 105, 106, 107, 108, 109, 110, 111, 112, 113, 114, 115, 116, 117, 118, 119, 120, 121, 122, 123, 124, 125, 126, 127, 128, 26, 25, 137, 138, 139, 140, 141, 142, 143, 144, 145, 146] (by decide +kernel) (by decide +kernel)
set_option maxRecDepth 20000 in
theorem gX10_anew_X8_settle : GoodIn wsX10_anew (wsV RX10 71 RX8 yX8_settle wsX8_settle) := goodIn_app (goodIn_of _ (by decide +kernel)) ggX10_anew_X8_settle
theorem dX10_anew_0 : decode cX10_anew 0 = .ok (.aload_n 0, 1) := by decide +kernel
theorem dX10_anew_1 : decode cX10_anew 1 = .ok (.getfield 10, 3) := by decide +kernel
theorem dX10_anew_4 : decode cX10_anew 4 = .ok (.invokevirtual 144, 3) := by decide +kernel
theorem dX10_anew_7 : decode cX10_anew 7 = .ok (.aload_n 0, 1) := by decide +kernel
theorem dX10_anew_8 : decode cX10_anew 8 = .ok (.getfield 10, 3) := by decide +kernel
theorem dX10_anew_11 : decode cX10_anew 11 = .ok (.invokevirtual 71, 3) := by decide +kernel
theorem dX10_anew_14 : decode cX10_anew 14 = .ok (.iconst 0, 1) := by decide +kernel
theorem dX10_anew_15 : decode cX10_anew 15 = .ok (.ireturn, 1) := by decide +kernel
/-! X10 anew -/
def X10_anew (xs : XS) : Option (Int32 × XS) :=
    bnd (X8_renew_0 xs) fun _ xs_1 =>
    bnd (X8_settle (xT xs_1 0)) fun _ st_5 =>
    nm (uT xs_1 0 st_5) fun xs_7 =>
    some ((0 : Int32), xs_7)
abbrev rmX10_anew : Room := { frames := 5, cells := 1, slots := 1, locals := 114 }
theorem hdX10_anew : yX10_anew.cls = RX10 ∧ yX10_anew.cls ≠ "java/lang/invoke/MethodHandle" ∧ yX10_anew.cls ≠ "java/lang/invoke/VarHandle" ∧ (parseMethodDescriptor yX10_anew.desc).map (fun d => d.parameters.length) = some 0 := by decide +kernel
set_option maxRecDepth 100000 in
set_option maxHeartbeats 8000000 in
theorem okX10_anew (z : Nat → Nat) (l : Launch) (D : va_G) (T : mT3) (b : Nat → Nat) {xa : XA} {xs : XS} {r : Int32} {xs' : XS} (hR : xRel b xa xs) (heq : X10_anew xs = some (r, xs')) : hXi xSub z l D T b yX10_anew wsX10_anew rmX10_anew [.ref (b 0)] xa xs r xs' := by
  refine xbody_i (plainFor_of_name (by decide)) rfl (Nat.le_of_ble_eq_true rfl) (fun p e s m args below meth c A Q hx hb hml hown hts hK hA hX hret ls hP hD hS hl => ?_)
  have hl : lv_has ls 1 [(0, .ref (b 0))] := hl
  have hin10 : ∀ w ∈ wsX100, w ∈ wsX10_anew := by decide +kernel
  have f10 : (Cond.fieldLink RX10 10 RX10 (TX10 0).2.1 (TX10 0).2.2.1).before args s = true := hts (.fieldLink RX10 10 RX10 "now" "LLaidDownTheLane$Town;") (by decide +kernel)
  obtain ⟨xa0, hxa0⟩ : ∃ z : XA, z = xa := ⟨_, rfl⟩
  rw [← hxa0] at hret
  have hU : xSub xa0 xa := by rw [hxa0]; exact xSub.rf
  clear hxa0
  obtain ⟨H, hH⟩ : ∃ H, H = s.heap := ⟨_, rfl⟩
  obtain ⟨locs, hlocs⟩ : ∃ z : List Loc, z = [] := ⟨_, rfl⟩
  have hS : va_S A s.heap H locs := by rw [hH, hlocs]; exact hS
  have hP : va_P D vwCl (xW b T xa xs) H := by rw [hH]; exact hP
  suffices h9 : W p l e rmX10_anew s m args below meth c H locs 0 0 Q (F0 m 0 ls []) by rw [hH, hlocs] at h9; exact h9
  clear hH hlocs
  unfold X10_anew at heq
  refine lv_aload_n hx hb dX10_anew_0 rfl (lv_at hl 0 rfl) ?_
  refine va_get (D := D) (ci := 10) (v := .ref (b 3)) (C := RX10) (T := TX10) (N := 7) hx hb hts hin10 hown hK hP 0 rfl rfl 0 (by decide) f10 (fun _ h9 => h9) rfl dX10_anew_1 ?_
  obtain ⟨⟨⟩, xs_1, h_2, heq⟩ := bnd_h heq
  refine x_vv (own := RX10) (As := []) (rest := []) hx hb hml hown hts (okX8_renew_0 z l D T b hR h_2) (cwV 0 hts gX10_anew_X8_renew rfl rfl rfl hdX8_renew ⟨Nat.le_of_ble_eq_true rfl, Nat.le_of_ble_eq_true rfl⟩) hK hA hX hP hD hS (ci := 8) (q0 := 3) rfl rfl rfl hl.1 rfl (Nat.le_of_ble_eq_true rfl) dX10_anew_4 ⟨by show 0 + 1 ≤ 1; omega, by show 0 + 1 ≤ 1; omega⟩ (fun xa_3 H locs hR hsxa_3 hP hD hS => ?_)
  refine W.widen (k := (0 + 1)) (n := (0 + 1)) (Nat.le_refl _) (Nat.le_refl _) ?_
  have hU := xSub.tr hU hsxa_3
  refine lv_aload_n hx hb dX10_anew_7 rfl (lv_at hl 0 rfl) ?_
  refine va_get (D := D) (ci := 10) (v := .ref (b 3)) (C := RX10) (T := TX10) (N := 7) hx hb hts hin10 hown hK hP 0 rfl rfl 0 (by decide) f10 (fun _ h9 => h9) rfl dX10_anew_8 ?_
  obtain ⟨⟨⟩, st_5, h_6, heq⟩ := bnd_h heq
  refine h_vv (own := RX10) (As := []) (rest := []) (wr := xWr0 b T xa_3 xs_1) hx hb hml hown hts (okX8_settle z l D (fun j => b (3 + j)) T (fun j => some (xFo xa_3 0 j)) h_6) (cwV 0 hts gX10_anew_X8_settle rfl rfl rfl hdX8_settle ⟨Nat.le_of_ble_eq_true rfl, Nat.le_of_ble_eq_true rfl⟩) hK hA hX hP hD hS (xp0 b T xa_3 xs_1) (xq0 b T xa_3 xs_1 _) (ci := 8) (q0 := 0) rfl rfl rfl hl.1 rfl (Nat.le_of_ble_eq_true rfl) dX10_anew_11 ⟨by show (0 + 1) + 0 ≤ 1; omega, by show (0 + 1) + 0 ≤ 1; omega⟩ (fun H locs hP hD hS => ?_)
  obtain ⟨xs_7, exs_7⟩ : ∃ z, z = uT xs_1 0 st_5 := ⟨_, rfl⟩
  refine W.widen (k := (0 + 1)) (n := (0 + 1)) (Nat.le_refl _) (Nat.le_refl _) ?_
  have hR : xRel b xa_3 (uT xs_1 0 st_5) := hR.uT _ _
  rw [← exs_7] at hP hD hR
  have heq := nm_h exs_7 heq
  refine lv_iconst (v := (0 : Int32)) hx hb dX10_anew_14 (by decide) ?_
  obtain ⟨heq, heq2⟩ := ret_h heq
  subst heq
  subst heq2
  refine W.widen (k := 1) (n := 1) (by first | decide | omega) (by first | decide | omega) ?_
  exact hret 15 H locs ls xa_3 hR hU hP hD hS rfl dX10_anew_15
set_option maxRecDepth 20000 in
theorem ggX10_presses_X10_isSide : GoodIn wsX10_presses wsX10_isSide := goodIn_r _ [6] (by decide +kernel) (by decide +kernel)
set_option maxRecDepth 20000 in
theorem gX10_presses_X10_isSide : GoodIn wsX10_presses (va_wsS RX10 80 yX10_isSide wsX10_isSide) := goodIn_app (goodIn_of _ (by decide +kernel)) ggX10_presses_X10_isSide
set_option maxRecDepth 20000 in
theorem ggX10_presses_X8_pressOn : GoodIn wsX10_presses wsX8_pressOn := goodIn_r _ [11, 12, 13, 14, 10, 15, 23, 24, 25, 26, 27, 28, 29, 30, 31, 32] (by decide +kernel) (by decide +kernel)
set_option maxRecDepth 20000 in
theorem gX10_presses_X8_pressOn : GoodIn wsX10_presses (wsV RX10 147 RX8 yX8_pressOn wsX8_pressOn) := goodIn_app (goodIn_of _ (by decide +kernel)) ggX10_presses_X8_pressOn
theorem dX10_presses_0 : decode cX10_presses 0 = .ok (.iload_n 1, 1) := by decide +kernel
theorem dX10_presses_1 : decode cX10_presses 1 = .ok (.invokestatic 80, 3) := by decide +kernel
theorem dX10_presses_4 : decode cX10_presses 4 = .ok (.ifCond .eq 14, 3) := by decide +kernel
theorem dX10_presses_7 : decode cX10_presses 7 = .ok (.aload_n 0, 1) := by decide +kernel
theorem dX10_presses_8 : decode cX10_presses 8 = .ok (.getfield 10, 3) := by decide +kernel
theorem dX10_presses_11 : decode cX10_presses 11 = .ok (.iload_n 1, 1) := by decide +kernel
theorem dX10_presses_12 : decode cX10_presses 12 = .ok (.invokevirtual 147, 3) := by decide +kernel
theorem dX10_presses_15 : decode cX10_presses 15 = .ok (.goto 5, 3) := by decide +kernel
theorem dX10_presses_18 : decode cX10_presses 18 = .ok (.ldc 150, 2) := by decide +kernel
theorem dX10_presses_20 : decode cX10_presses 20 = .ok (.ireturn, 1) := by decide +kernel
/-! X10 presses -/
def X10_presses_p20 (xs : XS) (t0 : Int32) : Option (Int32 × XS) :=
    some (t0, xs)
def X10_presses (xs : XS) (v1 : Int32) : Option (Int32 × XS) :=
    bd1 (X10_isSide v1) fun y_1 =>
    if y_1 = 0 then
      (X10_presses_p20 xs (-1000000001 : Int32))
    else
    bnd (X8_pressOn (xT xs 0) v1) fun y_4 st_5 =>
    nm (uT xs 0 st_5) fun xs_7 =>
    X10_presses_p20 xs_7 y_4
abbrev rmX10_presses : Room := { frames := 2, cells := 0, slots := 0, locals := 43 }
theorem hdX10_presses : yX10_presses.cls = RX10 ∧ yX10_presses.cls ≠ "java/lang/invoke/MethodHandle" ∧ yX10_presses.cls ≠ "java/lang/invoke/VarHandle" ∧ (parseMethodDescriptor yX10_presses.desc).map (fun d => d.parameters.length) = some 1 := by decide +kernel
set_option maxRecDepth 100000 in
set_option maxHeartbeats 8000000 in
theorem okX10_presses (z : Nat → Nat) (l : Launch) (D : va_G) (T : mT3) (b : Nat → Nat) {xa : XA} {xs : XS} {v1 : Int32} {r : Int32} {xs' : XS} (hR : xRel b xa xs) (heq : X10_presses xs v1 = some (r, xs')) : hXi xSub z l D T b yX10_presses wsX10_presses rmX10_presses [.ref (b 0), .int v1] xa xs r xs' := by
  refine xbody_i (plainFor_of_name (by decide)) rfl (Nat.le_of_ble_eq_true rfl) (fun p e s m args below meth c A Q hx hb hml hown hts hK hA hX hret ls hP hD hS hl => ?_)
  have hl : lv_has ls 2 [(0, .ref (b 0)), (1, .int v1)] := hl
  have hin10 : ∀ w ∈ wsX100, w ∈ wsX10_presses := by decide +kernel
  have f10 : (Cond.fieldLink RX10 10 RX10 (TX10 0).2.1 (TX10 0).2.2.1).before args s = true := hts (.fieldLink RX10 10 RX10 "now" "LLaidDownTheLane$Town;") (by decide +kernel)
  have c150 := hts (.constant RX10 150 (-1000000001)) (by decide +kernel)
  obtain ⟨xa0, hxa0⟩ : ∃ z : XA, z = xa := ⟨_, rfl⟩
  rw [← hxa0] at hret
  have hU : xSub xa0 xa := by rw [hxa0]; exact xSub.rf
  clear hxa0
  have b20 : ∀ (xs : XS) (t0 : Int32) (xa : XA) (H : Heap) (locs : List Loc) (ls : Array Slot), xRel b xa xs → xSub xa0 xa → va_P D vwCl (xW b T xa xs) H → va_D A (xW b T xa xs) → va_S A s.heap H locs → lv_has ls 2 [] → X10_presses_p20 xs t0 = some (r, xs') → W p l e rmX10_presses s m args below meth c H locs 0 0 Q (F0 m 20 ls [.int t0]) := by
    intro xs t0 xa H locs ls hR hU hP hD hS hl heq
    unfold X10_presses_p20 at heq
    obtain ⟨heq, heq2⟩ := ret_h heq
    subst heq
    subst heq2
    exact hret 20 H locs ls xa hR hU hP hD hS rfl dX10_presses_20
  obtain ⟨H, hH⟩ : ∃ H, H = s.heap := ⟨_, rfl⟩
  obtain ⟨locs, hlocs⟩ : ∃ z : List Loc, z = [] := ⟨_, rfl⟩
  have hS : va_S A s.heap H locs := by rw [hH, hlocs]; exact hS
  have hP : va_P D vwCl (xW b T xa xs) H := by rw [hH]; exact hP
  suffices h9 : W p l e rmX10_presses s m args below meth c H locs 0 0 Q (F0 m 0 ls []) by rw [hH, hlocs] at h9; exact h9
  clear hH hlocs
  unfold X10_presses at heq
  refine lv_iload_n hx hb dX10_presses_0 rfl (lv_at hl 1 rfl) ?_
  obtain ⟨y_1, h_2, heq⟩ := bd1_h heq
  refine h_si (own := RX10) (As := [.int v1]) (rest := []) (w0 := []) (w1 := []) (wr := xW b T xa xs) hx hb hml hown hts (okX10_isSide z l D h_2) (va_cwS 1 hts gX10_presses_X10_isSide rfl rfl rfl (hdX10_isSide).2 ⟨Nat.le_of_ble_eq_true rfl, Nat.le_of_ble_eq_true rfl⟩) (hK.sub [] rfl) hA hX hP hD hS (List.Perm.refl _) (List.Perm.refl _) rfl hl.1 rfl (Nat.le_of_ble_eq_true rfl) dX10_presses_1 ⟨Nat.le_of_ble_eq_true rfl, Nat.le_of_ble_eq_true rfl⟩ (fun H locs hP hD hS => ?_)
  refine lv_if_eq (tgt := 18) hx hb dX10_presses_4 (by decide) (fun c_3 => ?_) (fun c_3 => ?_)
  · have heq := it_t c_3 heq
    refine lv_ldc (v := (-1000000001 : Int32)) hx hb hown c150 dX10_presses_18 ?_
    exact b20 xs (-1000000001 : Int32) xa H locs ls hR hU hP hD hS (lv_sub hl [] rfl) heq
  have heq := it_f c_3 heq
  refine lv_aload_n hx hb dX10_presses_7 rfl (lv_at hl 0 rfl) ?_
  refine va_get (D := D) (ci := 10) (v := .ref (b 3)) (C := RX10) (T := TX10) (N := 7) hx hb hts hin10 hown hK hP 0 rfl rfl 0 (by decide) f10 (fun _ h9 => h9) rfl dX10_presses_8 ?_
  refine lv_iload_n hx hb dX10_presses_11 rfl (lv_at hl 1 rfl) ?_
  obtain ⟨y_4, st_5, h_6, heq⟩ := bnd_h heq
  refine h_vi (own := RX10) (As := [.int v1]) (rest := []) (wr := xWr0 b T xa xs) hx hb hml hown hts (okX8_pressOn z l D (fun j => b (3 + j)) T (fun j => some (xFo xa 0 j)) h_6) (cwV 1 hts gX10_presses_X8_pressOn rfl rfl rfl hdX8_pressOn ⟨Nat.le_of_ble_eq_true rfl, Nat.le_of_ble_eq_true rfl⟩) hK hA hX hP hD hS (xp0 b T xa xs) (xq0 b T xa xs _) (ci := 8) (q0 := 0) rfl rfl rfl hl.1 rfl (Nat.le_of_ble_eq_true rfl) dX10_presses_12 ⟨Nat.le_of_ble_eq_true rfl, Nat.le_of_ble_eq_true rfl⟩ (fun H locs hP hD hS => ?_)
  obtain ⟨xs_7, exs_7⟩ : ∃ z, z = uT xs 0 st_5 := ⟨_, rfl⟩
  have hR : xRel b xa (uT xs 0 st_5) := hR.uT _ _
  rw [← exs_7] at hP hD hR
  have heq := nm_h exs_7 heq
  refine lv_goto (tgt := 20) hx hb dX10_presses_15 (by decide) ?_
  exact b20 xs_7 y_4 xa H locs ls hR hU hP hD hS (lv_sub hl [] rfl) heq
set_option maxRecDepth 20000 in
theorem ggX10_holds_X10_isSide : GoodIn wsX10_holds wsX10_isSide := goodIn_r _ [6] (by decide +kernel) (by decide +kernel)
set_option maxRecDepth 20000 in
theorem gX10_holds_X10_isSide : GoodIn wsX10_holds (va_wsS RX10 80 yX10_isSide wsX10_isSide) := goodIn_app (goodIn_of _ (by decide +kernel)) ggX10_holds_X10_isSide
set_option maxRecDepth 20000 in
theorem ggX10_holds_X8_holdOn : GoodIn wsX10_holds wsX8_holdOn := goodIn_r _ [11, 12, 13, 10, 14, 15, 16, 17, 18, 19, 20, 28, 29, 30, 31, 32, 33, 34, 35, 36, 37] (by decide +kernel) (by decide +kernel)
set_option maxRecDepth 20000 in
theorem gX10_holds_X8_holdOn : GoodIn wsX10_holds (wsV RX10 151 RX8 yX8_holdOn wsX8_holdOn) := goodIn_app (goodIn_of _ (by decide +kernel)) ggX10_holds_X8_holdOn
theorem dX10_holds_0 : decode cX10_holds 0 = .ok (.iload_n 1, 1) := by decide +kernel
theorem dX10_holds_1 : decode cX10_holds 1 = .ok (.invokestatic 80, 3) := by decide +kernel
theorem dX10_holds_4 : decode cX10_holds 4 = .ok (.ifCond .eq 21, 3) := by decide +kernel
theorem dX10_holds_7 : decode cX10_holds 7 = .ok (.aload_n 0, 1) := by decide +kernel
theorem dX10_holds_8 : decode cX10_holds 8 = .ok (.getfield 10, 3) := by decide +kernel
theorem dX10_holds_11 : decode cX10_holds 11 = .ok (.iload_n 1, 1) := by decide +kernel
theorem dX10_holds_12 : decode cX10_holds 12 = .ok (.aload_n 0, 1) := by decide +kernel
theorem dX10_holds_13 : decode cX10_holds 13 = .ok (.getfield 10, 3) := by decide +kernel
theorem dX10_holds_16 : decode cX10_holds 16 = .ok (.getfield 93, 3) := by decide +kernel
theorem dX10_holds_19 : decode cX10_holds 19 = .ok (.invokevirtual 151, 3) := by decide +kernel
theorem dX10_holds_22 : decode cX10_holds 22 = .ok (.goto 4, 3) := by decide +kernel
theorem dX10_holds_25 : decode cX10_holds 25 = .ok (.iconst (-1), 1) := by decide +kernel
theorem dX10_holds_26 : decode cX10_holds 26 = .ok (.ireturn, 1) := by decide +kernel
/-! X10 holds -/
def X10_holds_p26 (xs : XS) (t0 : Int32) : Option (Int32 × XS) :=
    some (t0, xs)
def X10_holds (xs : XS) (v1 : Int32) : Option (Int32 × XS) :=
    bd1 (X10_isSide v1) fun y_1 =>
    if y_1 = 0 then
      (X10_holds_p26 xs (-1 : Int32))
    else
    bnd (X8_holdOn (xT xs 0) v1 (gF (xT xs 0) 8)) fun y_4 st_5 =>
    nm (uT xs 0 st_5) fun xs_7 =>
    X10_holds_p26 xs_7 y_4
abbrev rmX10_holds : Room := { frames := 2, cells := 0, slots := 0, locals := 47 }
theorem hdX10_holds : yX10_holds.cls = RX10 ∧ yX10_holds.cls ≠ "java/lang/invoke/MethodHandle" ∧ yX10_holds.cls ≠ "java/lang/invoke/VarHandle" ∧ (parseMethodDescriptor yX10_holds.desc).map (fun d => d.parameters.length) = some 1 := by decide +kernel
set_option maxRecDepth 100000 in
set_option maxHeartbeats 8000000 in
theorem okX10_holds (z : Nat → Nat) (l : Launch) (D : va_G) (T : mT3) (b : Nat → Nat) {xa : XA} {xs : XS} {v1 : Int32} {r : Int32} {xs' : XS} (hR : xRel b xa xs) (heq : X10_holds xs v1 = some (r, xs')) : hXi xSub z l D T b yX10_holds wsX10_holds rmX10_holds [.ref (b 0), .int v1] xa xs r xs' := by
  refine xbody_i (plainFor_of_name (by decide)) rfl (Nat.le_of_ble_eq_true rfl) (fun p e s m args below meth c A Q hx hb hml hown hts hK hA hX hret ls hP hD hS hl => ?_)
  have hl : lv_has ls 2 [(0, .ref (b 0)), (1, .int v1)] := hl
  have hin10 : ∀ w ∈ wsX100, w ∈ wsX10_holds := by decide +kernel
  have hin8 : ∀ w ∈ wsX80, w ∈ wsX10_holds := by decide +kernel
  have f10 : (Cond.fieldLink RX10 10 RX10 (TX10 0).2.1 (TX10 0).2.2.1).before args s = true := hts (.fieldLink RX10 10 RX10 "now" "LLaidDownTheLane$Town;") (by decide +kernel)
  have f93 : (Cond.fieldLink RX10 93 RX8 (TX8 8).2.1 (TX8 8).2.2.1).before args s = true := hts (.fieldLink RX10 93 RX8 "minute" "I") (by decide +kernel)
  obtain ⟨xa0, hxa0⟩ : ∃ z : XA, z = xa := ⟨_, rfl⟩
  rw [← hxa0] at hret
  have hU : xSub xa0 xa := by rw [hxa0]; exact xSub.rf
  clear hxa0
  have b26 : ∀ (xs : XS) (t0 : Int32) (xa : XA) (H : Heap) (locs : List Loc) (ls : Array Slot), xRel b xa xs → xSub xa0 xa → va_P D vwCl (xW b T xa xs) H → va_D A (xW b T xa xs) → va_S A s.heap H locs → lv_has ls 2 [] → X10_holds_p26 xs t0 = some (r, xs') → W p l e rmX10_holds s m args below meth c H locs 0 0 Q (F0 m 26 ls [.int t0]) := by
    intro xs t0 xa H locs ls hR hU hP hD hS hl heq
    unfold X10_holds_p26 at heq
    obtain ⟨heq, heq2⟩ := ret_h heq
    subst heq
    subst heq2
    exact hret 26 H locs ls xa hR hU hP hD hS rfl dX10_holds_26
  obtain ⟨H, hH⟩ : ∃ H, H = s.heap := ⟨_, rfl⟩
  obtain ⟨locs, hlocs⟩ : ∃ z : List Loc, z = [] := ⟨_, rfl⟩
  have hS : va_S A s.heap H locs := by rw [hH, hlocs]; exact hS
  have hP : va_P D vwCl (xW b T xa xs) H := by rw [hH]; exact hP
  suffices h9 : W p l e rmX10_holds s m args below meth c H locs 0 0 Q (F0 m 0 ls []) by rw [hH, hlocs] at h9; exact h9
  clear hH hlocs
  unfold X10_holds at heq
  refine lv_iload_n hx hb dX10_holds_0 rfl (lv_at hl 1 rfl) ?_
  obtain ⟨y_1, h_2, heq⟩ := bd1_h heq
  refine h_si (own := RX10) (As := [.int v1]) (rest := []) (w0 := []) (w1 := []) (wr := xW b T xa xs) hx hb hml hown hts (okX10_isSide z l D h_2) (va_cwS 1 hts gX10_holds_X10_isSide rfl rfl rfl (hdX10_isSide).2 ⟨Nat.le_of_ble_eq_true rfl, Nat.le_of_ble_eq_true rfl⟩) (hK.sub [] rfl) hA hX hP hD hS (List.Perm.refl _) (List.Perm.refl _) rfl hl.1 rfl (Nat.le_of_ble_eq_true rfl) dX10_holds_1 ⟨Nat.le_of_ble_eq_true rfl, Nat.le_of_ble_eq_true rfl⟩ (fun H locs hP hD hS => ?_)
  refine lv_if_eq (tgt := 25) hx hb dX10_holds_4 (by decide) (fun c_3 => ?_) (fun c_3 => ?_)
  · have heq := it_t c_3 heq
    refine lv_iconst (v := (-1 : Int32)) hx hb dX10_holds_25 (by decide) ?_
    exact b26 xs (-1 : Int32) xa H locs ls hR hU hP hD hS (lv_sub hl [] rfl) heq
  have heq := it_f c_3 heq
  refine lv_aload_n hx hb dX10_holds_7 rfl (lv_at hl 0 rfl) ?_
  refine va_get (D := D) (ci := 10) (v := .ref (b 3)) (C := RX10) (T := TX10) (N := 7) hx hb hts hin10 hown hK hP 0 rfl rfl 0 (by decide) f10 (fun _ h9 => h9) rfl dX10_holds_8 ?_
  refine lv_iload_n hx hb dX10_holds_11 rfl (lv_at hl 1 rfl) ?_
  refine lv_aload_n hx hb dX10_holds_12 rfl (lv_at hl 0 rfl) ?_
  refine va_get (D := D) (ci := 10) (v := .ref (b 3)) (C := RX10) (T := TX10) (N := 7) hx hb hts hin10 hown hK hP 0 rfl rfl 0 (by decide) f10 (fun _ h9 => h9) rfl dX10_holds_13 ?_
  refine va_get (D := D) (ci := 8) (v := .int (gF (xT xs 0) 8)) (C := RX8) (T := TX8) (N := 10) hx hb hts hin8 hown hK hP 3 rfl rfl 8 (by decide) f93 (fun _ h9 => h9) rfl dX10_holds_16 ?_
  obtain ⟨y_4, st_5, h_6, heq⟩ := bnd_h heq
  refine h_vi (own := RX10) (As := [.int v1, .int (gF (xT xs 0) 8)]) (rest := []) (wr := xWr0 b T xa xs) hx hb hml hown hts (okX8_holdOn z l D (fun j => b (3 + j)) T (fun j => some (xFo xa 0 j)) h_6) (cwV 2 hts gX10_holds_X8_holdOn rfl rfl rfl hdX8_holdOn ⟨Nat.le_of_ble_eq_true rfl, Nat.le_of_ble_eq_true rfl⟩) hK hA hX hP hD hS (xp0 b T xa xs) (xq0 b T xa xs _) (ci := 8) (q0 := 0) rfl rfl rfl hl.1 rfl (Nat.le_of_ble_eq_true rfl) dX10_holds_19 ⟨Nat.le_of_ble_eq_true rfl, Nat.le_of_ble_eq_true rfl⟩ (fun H locs hP hD hS => ?_)
  obtain ⟨xs_7, exs_7⟩ : ∃ z, z = uT xs 0 st_5 := ⟨_, rfl⟩
  have hR : xRel b xa (uT xs 0 st_5) := hR.uT _ _
  rw [← exs_7] at hP hD hR
  have heq := nm_h exs_7 heq
  refine lv_goto (tgt := 26) hx hb dX10_holds_22 (by decide) ?_
  exact b26 xs_7 y_4 xa H locs ls hR hU hP hD hS (lv_sub hl [] rfl) heq
set_option maxRecDepth 20000 in
theorem ggX10_lacks_X10_isSide : GoodIn wsX10_lacks wsX10_isSide := goodIn_r _ [7] (by decide +kernel) (by decide +kernel)
set_option maxRecDepth 20000 in
theorem gX10_lacks_X10_isSide : GoodIn wsX10_lacks (va_wsS RX10 80 yX10_isSide wsX10_isSide) := goodIn_app (goodIn_of _ (by decide +kernel)) ggX10_lacks_X10_isSide
set_option maxRecDepth 20000 in
theorem ggX10_lacks_X8_lackOn : GoodIn wsX10_lacks wsX8_lackOn := goodIn_r _ [12, 13, 14, 15, 11, 16, 17, 18, 19, 20, 21, 22, 23, 24, 25, 26, 27, 28, 29, 30, 38, 39, 40, 41, 42, 43, 44, 45, 46, 47] (by decide +kernel) (by decide +kernel)
set_option maxRecDepth 20000 in
theorem gX10_lacks_X8_lackOn : GoodIn wsX10_lacks (wsV RX10 154 RX8 yX8_lackOn wsX8_lackOn) := goodIn_app (goodIn_of _ (by decide +kernel)) ggX10_lacks_X8_lackOn
theorem dX10_lacks_0 : decode cX10_lacks 0 = .ok (.iload_n 1, 1) := by decide +kernel
theorem dX10_lacks_1 : decode cX10_lacks 1 = .ok (.invokestatic 80, 3) := by decide +kernel
theorem dX10_lacks_4 : decode cX10_lacks 4 = .ok (.ifCond .eq 21, 3) := by decide +kernel
theorem dX10_lacks_7 : decode cX10_lacks 7 = .ok (.aload_n 0, 1) := by decide +kernel
theorem dX10_lacks_8 : decode cX10_lacks 8 = .ok (.getfield 10, 3) := by decide +kernel
theorem dX10_lacks_11 : decode cX10_lacks 11 = .ok (.iload_n 1, 1) := by decide +kernel
theorem dX10_lacks_12 : decode cX10_lacks 12 = .ok (.aload_n 0, 1) := by decide +kernel
theorem dX10_lacks_13 : decode cX10_lacks 13 = .ok (.getfield 10, 3) := by decide +kernel
theorem dX10_lacks_16 : decode cX10_lacks 16 = .ok (.getfield 93, 3) := by decide +kernel
theorem dX10_lacks_19 : decode cX10_lacks 19 = .ok (.invokevirtual 154, 3) := by decide +kernel
theorem dX10_lacks_22 : decode cX10_lacks 22 = .ok (.goto 5, 3) := by decide +kernel
theorem dX10_lacks_25 : decode cX10_lacks 25 = .ok (.ldc 150, 2) := by decide +kernel
theorem dX10_lacks_27 : decode cX10_lacks 27 = .ok (.ireturn, 1) := by decide +kernel
/-! X10 lacks -/
def X10_lacks_p27 (xs : XS) (t0 : Int32) : Option (Int32 × XS) :=
    some (t0, xs)
def X10_lacks (xs : XS) (v1 : Int32) : Option (Int32 × XS) :=
    bd1 (X10_isSide v1) fun y_1 =>
    if y_1 = 0 then
      (X10_lacks_p27 xs (-1000000001 : Int32))
    else
    bnd (X8_lackOn (xT xs 0) v1 (gF (xT xs 0) 8)) fun y_4 st_5 =>
    nm (uT xs 0 st_5) fun xs_7 =>
    X10_lacks_p27 xs_7 y_4
abbrev rmX10_lacks : Room := { frames := 3, cells := 0, slots := 0, locals := 69 }
theorem hdX10_lacks : yX10_lacks.cls = RX10 ∧ yX10_lacks.cls ≠ "java/lang/invoke/MethodHandle" ∧ yX10_lacks.cls ≠ "java/lang/invoke/VarHandle" ∧ (parseMethodDescriptor yX10_lacks.desc).map (fun d => d.parameters.length) = some 1 := by decide +kernel
set_option maxRecDepth 100000 in
set_option maxHeartbeats 8000000 in
theorem okX10_lacks (z : Nat → Nat) (l : Launch) (D : va_G) (T : mT3) (b : Nat → Nat) {xa : XA} {xs : XS} {v1 : Int32} {r : Int32} {xs' : XS} (hR : xRel b xa xs) (heq : X10_lacks xs v1 = some (r, xs')) : hXi xSub z l D T b yX10_lacks wsX10_lacks rmX10_lacks [.ref (b 0), .int v1] xa xs r xs' := by
  refine xbody_i (plainFor_of_name (by decide)) rfl (Nat.le_of_ble_eq_true rfl) (fun p e s m args below meth c A Q hx hb hml hown hts hK hA hX hret ls hP hD hS hl => ?_)
  have hl : lv_has ls 2 [(0, .ref (b 0)), (1, .int v1)] := hl
  have hin10 : ∀ w ∈ wsX100, w ∈ wsX10_lacks := by decide +kernel
  have hin8 : ∀ w ∈ wsX80, w ∈ wsX10_lacks := by decide +kernel
  have f10 : (Cond.fieldLink RX10 10 RX10 (TX10 0).2.1 (TX10 0).2.2.1).before args s = true := hts (.fieldLink RX10 10 RX10 "now" "LLaidDownTheLane$Town;") (by decide +kernel)
  have f93 : (Cond.fieldLink RX10 93 RX8 (TX8 8).2.1 (TX8 8).2.2.1).before args s = true := hts (.fieldLink RX10 93 RX8 "minute" "I") (by decide +kernel)
  have c150 := hts (.constant RX10 150 (-1000000001)) (by decide +kernel)
  obtain ⟨xa0, hxa0⟩ : ∃ z : XA, z = xa := ⟨_, rfl⟩
  rw [← hxa0] at hret
  have hU : xSub xa0 xa := by rw [hxa0]; exact xSub.rf
  clear hxa0
  have b27 : ∀ (xs : XS) (t0 : Int32) (xa : XA) (H : Heap) (locs : List Loc) (ls : Array Slot), xRel b xa xs → xSub xa0 xa → va_P D vwCl (xW b T xa xs) H → va_D A (xW b T xa xs) → va_S A s.heap H locs → lv_has ls 2 [] → X10_lacks_p27 xs t0 = some (r, xs') → W p l e rmX10_lacks s m args below meth c H locs 0 0 Q (F0 m 27 ls [.int t0]) := by
    intro xs t0 xa H locs ls hR hU hP hD hS hl heq
    unfold X10_lacks_p27 at heq
    obtain ⟨heq, heq2⟩ := ret_h heq
    subst heq
    subst heq2
    exact hret 27 H locs ls xa hR hU hP hD hS rfl dX10_lacks_27
  obtain ⟨H, hH⟩ : ∃ H, H = s.heap := ⟨_, rfl⟩
  obtain ⟨locs, hlocs⟩ : ∃ z : List Loc, z = [] := ⟨_, rfl⟩
  have hS : va_S A s.heap H locs := by rw [hH, hlocs]; exact hS
  have hP : va_P D vwCl (xW b T xa xs) H := by rw [hH]; exact hP
  suffices h9 : W p l e rmX10_lacks s m args below meth c H locs 0 0 Q (F0 m 0 ls []) by rw [hH, hlocs] at h9; exact h9
  clear hH hlocs
  unfold X10_lacks at heq
  refine lv_iload_n hx hb dX10_lacks_0 rfl (lv_at hl 1 rfl) ?_
  obtain ⟨y_1, h_2, heq⟩ := bd1_h heq
  refine h_si (own := RX10) (As := [.int v1]) (rest := []) (w0 := []) (w1 := []) (wr := xW b T xa xs) hx hb hml hown hts (okX10_isSide z l D h_2) (va_cwS 1 hts gX10_lacks_X10_isSide rfl rfl rfl (hdX10_isSide).2 ⟨Nat.le_of_ble_eq_true rfl, Nat.le_of_ble_eq_true rfl⟩) (hK.sub [] rfl) hA hX hP hD hS (List.Perm.refl _) (List.Perm.refl _) rfl hl.1 rfl (Nat.le_of_ble_eq_true rfl) dX10_lacks_1 ⟨Nat.le_of_ble_eq_true rfl, Nat.le_of_ble_eq_true rfl⟩ (fun H locs hP hD hS => ?_)
  refine lv_if_eq (tgt := 25) hx hb dX10_lacks_4 (by decide) (fun c_3 => ?_) (fun c_3 => ?_)
  · have heq := it_t c_3 heq
    refine lv_ldc (v := (-1000000001 : Int32)) hx hb hown c150 dX10_lacks_25 ?_
    exact b27 xs (-1000000001 : Int32) xa H locs ls hR hU hP hD hS (lv_sub hl [] rfl) heq
  have heq := it_f c_3 heq
  refine lv_aload_n hx hb dX10_lacks_7 rfl (lv_at hl 0 rfl) ?_
  refine va_get (D := D) (ci := 10) (v := .ref (b 3)) (C := RX10) (T := TX10) (N := 7) hx hb hts hin10 hown hK hP 0 rfl rfl 0 (by decide) f10 (fun _ h9 => h9) rfl dX10_lacks_8 ?_
  refine lv_iload_n hx hb dX10_lacks_11 rfl (lv_at hl 1 rfl) ?_
  refine lv_aload_n hx hb dX10_lacks_12 rfl (lv_at hl 0 rfl) ?_
  refine va_get (D := D) (ci := 10) (v := .ref (b 3)) (C := RX10) (T := TX10) (N := 7) hx hb hts hin10 hown hK hP 0 rfl rfl 0 (by decide) f10 (fun _ h9 => h9) rfl dX10_lacks_13 ?_
  refine va_get (D := D) (ci := 8) (v := .int (gF (xT xs 0) 8)) (C := RX8) (T := TX8) (N := 10) hx hb hts hin8 hown hK hP 3 rfl rfl 8 (by decide) f93 (fun _ h9 => h9) rfl dX10_lacks_16 ?_
  obtain ⟨y_4, st_5, h_6, heq⟩ := bnd_h heq
  refine h_vi (own := RX10) (As := [.int v1, .int (gF (xT xs 0) 8)]) (rest := []) (wr := xWr0 b T xa xs) hx hb hml hown hts (okX8_lackOn z l D (fun j => b (3 + j)) T (fun j => some (xFo xa 0 j)) h_6) (cwV 2 hts gX10_lacks_X8_lackOn rfl rfl rfl hdX8_lackOn ⟨Nat.le_of_ble_eq_true rfl, Nat.le_of_ble_eq_true rfl⟩) hK hA hX hP hD hS (xp0 b T xa xs) (xq0 b T xa xs _) (ci := 8) (q0 := 0) rfl rfl rfl hl.1 rfl (Nat.le_of_ble_eq_true rfl) dX10_lacks_19 ⟨Nat.le_of_ble_eq_true rfl, Nat.le_of_ble_eq_true rfl⟩ (fun H locs hP hD hS => ?_)
  obtain ⟨xs_7, exs_7⟩ : ∃ z, z = uT xs 0 st_5 := ⟨_, rfl⟩
  have hR : xRel b xa (uT xs 0 st_5) := hR.uT _ _
  rw [← exs_7] at hP hD hR
  have heq := nm_h exs_7 heq
  refine lv_goto (tgt := 27) hx hb dX10_lacks_22 (by decide) ?_
  exact b27 xs_7 y_4 xa H locs ls hR hU hP hD hS (lv_sub hl [] rfl) heq
theorem dX10_falls_0 : decode cX10_falls 0 = .ok (.aload_n 0, 1) := by decide +kernel
theorem dX10_falls_1 : decode cX10_falls 1 = .ok (.getfield 10, 3) := by decide +kernel
theorem dX10_falls_4 : decode cX10_falls 4 = .ok (.getfield 157, 3) := by decide +kernel
theorem dX10_falls_7 : decode cX10_falls 7 = .ok (.ireturn, 1) := by decide +kernel
/-! X10 falls -/
def X10_falls (xs : XS) : Option (Int32 × XS) :=
    some ((gF (xT xs 0) 9), xs)
abbrev rmX10_falls : Room := { frames := 0, cells := 0, slots := 0, locals := 0 }
theorem hdX10_falls : yX10_falls.cls = RX10 ∧ yX10_falls.cls ≠ "java/lang/invoke/MethodHandle" ∧ yX10_falls.cls ≠ "java/lang/invoke/VarHandle" ∧ (parseMethodDescriptor yX10_falls.desc).map (fun d => d.parameters.length) = some 0 := by decide +kernel
set_option maxRecDepth 100000 in
set_option maxHeartbeats 8000000 in
theorem okX10_falls (z : Nat → Nat) (l : Launch) (D : va_G) (T : mT3) (b : Nat → Nat) {xa : XA} {xs : XS} {r : Int32} {xs' : XS} (hR : xRel b xa xs) (heq : X10_falls xs = some (r, xs')) : hXi xSub z l D T b yX10_falls wsX10_falls rmX10_falls [.ref (b 0)] xa xs r xs' := by
  refine xbody_i (plainFor_of_name (by decide)) rfl (Nat.le_of_ble_eq_true rfl) (fun p e s m args below meth c A Q hx hb hml hown hts hK hA hX hret ls hP hD hS hl => ?_)
  have hl : lv_has ls 1 [(0, .ref (b 0))] := hl
  have hin10 : ∀ w ∈ wsX100, w ∈ wsX10_falls := by decide +kernel
  have hin8 : ∀ w ∈ wsX80, w ∈ wsX10_falls := by decide +kernel
  have f10 : (Cond.fieldLink RX10 10 RX10 (TX10 0).2.1 (TX10 0).2.2.1).before args s = true := hts (.fieldLink RX10 10 RX10 "now" "LLaidDownTheLane$Town;") (by decide +kernel)
  have f157 : (Cond.fieldLink RX10 157 RX8 (TX8 9).2.1 (TX8 9).2.2.1).before args s = true := hts (.fieldLink RX10 157 RX8 "fallenTo" "I") (by decide +kernel)
  obtain ⟨xa0, hxa0⟩ : ∃ z : XA, z = xa := ⟨_, rfl⟩
  rw [← hxa0] at hret
  have hU : xSub xa0 xa := by rw [hxa0]; exact xSub.rf
  clear hxa0
  obtain ⟨H, hH⟩ : ∃ H, H = s.heap := ⟨_, rfl⟩
  obtain ⟨locs, hlocs⟩ : ∃ z : List Loc, z = [] := ⟨_, rfl⟩
  have hS : va_S A s.heap H locs := by rw [hH, hlocs]; exact hS
  have hP : va_P D vwCl (xW b T xa xs) H := by rw [hH]; exact hP
  suffices h9 : W p l e rmX10_falls s m args below meth c H locs 0 0 Q (F0 m 0 ls []) by rw [hH, hlocs] at h9; exact h9
  clear hH hlocs
  unfold X10_falls at heq
  refine lv_aload_n hx hb dX10_falls_0 rfl (lv_at hl 0 rfl) ?_
  refine va_get (D := D) (ci := 10) (v := .ref (b 3)) (C := RX10) (T := TX10) (N := 7) hx hb hts hin10 hown hK hP 0 rfl rfl 0 (by decide) f10 (fun _ h9 => h9) rfl dX10_falls_1 ?_
  refine va_get (D := D) (ci := 8) (v := .int (gF (xT xs 0) 9)) (C := RX8) (T := TX8) (N := 10) hx hb hts hin8 hown hK hP 3 rfl rfl 9 (by decide) f157 (fun _ h9 => h9) rfl dX10_falls_4 ?_
  obtain ⟨heq, heq2⟩ := ret_h heq
  subst heq
  subst heq2
  exact hret 7 H locs ls xa hR hU hP hD hS rfl dX10_falls_7
set_option maxRecDepth 20000 in
theorem ggX10_cutJust_X8_replace : GoodIn wsX10_cutJust wsX8_replace := goodIn_r _ [9, 10, 11, 12, 13, 14, 15, 16, 17, 18, 19, 20, 21, 22, 23, 24, 25, 26, 27, 28, 29, 30, 31, 32, 33, 34, 35, 36, 37, 38, 39, 40, 41, 42, 43, 44, 45, 46, 47, 48, 49, 50, 51, 52, 53, 54, 55, 56, 57, 58, 59, 60, 61, 62, 63, 64, 65, 66, 67, 68, 69, 70, 71, 72, 73, 74, 75, 76, 77, 78, 79, 80, 81, 82, 83, 91, 92, 93, 94, 95, 96, 97, 98, 99, 100, 101, 102, 103, 104, 105, 106, 107, 108] (by decide +kernel) (by decide +kernel)
set_option maxRecDepth 20000 in
theorem gX10_cutJust_X8_replace : GoodIn wsX10_cutJust (wsV RX10 180 RX8 yX8_replace wsX8_replace) := goodIn_app (goodIn_of _ (by decide +kernel)) ggX10_cutJust_X8_replace
theorem dX10_cutJust_0 : decode cX10_cutJust 0 = .ok (.iconst 0, 1) := by decide +kernel
theorem dX10_cutJust_1 : decode cX10_cutJust 1 = .ok (.istore_n 2, 1) := by decide +kernel
theorem dX10_cutJust_2 : decode cX10_cutJust 2 = .ok (.iload_n 2, 1) := by decide +kernel
theorem dX10_cutJust_3 : decode cX10_cutJust 3 = .ok (.bipush 12, 2) := by decide +kernel
theorem dX10_cutJust_5 : decode cX10_cutJust 5 = .ok (.if_icmp .ge 42, 3) := by decide +kernel
theorem dX10_cutJust_8 : decode cX10_cutJust 8 = .ok (.aload_n 0, 1) := by decide +kernel
theorem dX10_cutJust_9 : decode cX10_cutJust 9 = .ok (.getfield 16, 3) := by decide +kernel
theorem dX10_cutJust_12 : decode cX10_cutJust 12 = .ok (.iload_n 2, 1) := by decide +kernel
theorem dX10_cutJust_13 : decode cX10_cutJust 13 = .ok (.iload_n 1, 1) := by decide +kernel
theorem dX10_cutJust_14 : decode cX10_cutJust 14 = .ok (.iload_n 2, 1) := by decide +kernel
theorem dX10_cutJust_15 : decode cX10_cutJust 15 = .ok (.ishr, 1) := by decide +kernel
theorem dX10_cutJust_16 : decode cX10_cutJust 16 = .ok (.iconst 1, 1) := by decide +kernel
theorem dX10_cutJust_17 : decode cX10_cutJust 17 = .ok (.iand, 1) := by decide +kernel
theorem dX10_cutJust_18 : decode cX10_cutJust 18 = .ok (.iconst 1, 1) := by decide +kernel
theorem dX10_cutJust_19 : decode cX10_cutJust 19 = .ok (.if_icmp .ne 10, 3) := by decide +kernel
theorem dX10_cutJust_22 : decode cX10_cutJust 22 = .ok (.aload_n 0, 1) := by decide +kernel
theorem dX10_cutJust_23 : decode cX10_cutJust 23 = .ok (.getfield 27, 3) := by decide +kernel
theorem dX10_cutJust_26 : decode cX10_cutJust 26 = .ok (.goto 12, 3) := by decide +kernel
theorem dX10_cutJust_29 : decode cX10_cutJust 29 = .ok (.aload_n 0, 1) := by decide +kernel
theorem dX10_cutJust_30 : decode cX10_cutJust 30 = .ok (.getfield 10, 3) := by decide +kernel
theorem dX10_cutJust_33 : decode cX10_cutJust 33 = .ok (.getfield 84, 3) := by decide +kernel
theorem dX10_cutJust_36 : decode cX10_cutJust 36 = .ok (.iload_n 2, 1) := by decide +kernel
theorem dX10_cutJust_37 : decode cX10_cutJust 37 = .ok (.aaload, 1) := by decide +kernel
theorem dX10_cutJust_38 : decode cX10_cutJust 38 = .ok (.invokevirtual 180, 3) := by decide +kernel
theorem dX10_cutJust_41 : decode cX10_cutJust 41 = .ok (.iinc 2 1, 3) := by decide +kernel
theorem dX10_cutJust_44 : decode cX10_cutJust 44 = .ok (.goto (-42), 3) := by decide +kernel
theorem dX10_cutJust_47 : decode cX10_cutJust 47 = .ok (.return_, 1) := by decide +kernel
/-! X10 cutJust -/
def X10_cutJust_p38 (k2 : XS → Int32 → Int32 → Option (Unit × XS)) (xs : XS) (v1 : Int32) (v2 : Int32) (t1 : Int32) (t2 : BK) : Option (Unit × XS) :=
    bnd (X8_replace_1 xs t1 t2) fun _ xs_1 =>
    nm (v2 + (1 : Int32)) fun x_5 =>
    k2 xs_1 v1 x_5
def X10_cutJust_p47 (xs : XS) : Option (Unit × XS) :=
    some ((), xs)
def X10_cutJust_p2 : Nat → XS → Int32 → Int32 → Option (Unit × XS)
  | 0, _, _, _ => none
  | n + 1, xs, v1, v2 =>
    if (12 : Int32) ≤ v2 then
      (X10_cutJust_p47 xs)
    else
    if ((v1 >>> (v2 &&& 31)) &&& (1 : Int32)) = (1 : Int32) then
      (X10_cutJust_p38 (fun xs v1 v2 => X10_cutJust_p2 n xs v1 v2) xs v1 v2 v2 ((1, 0) : BK))
    else
    inr v2 12 <|
    X10_cutJust_p38 (fun xs v1 v2 => X10_cutJust_p2 n xs v1 v2) xs v1 v2 v2 (xB xs 0 v2.toNatClampNeg)
theorem X10_cutJust_p2_s (n : Nat) (xs : XS) (v1 : Int32) (v2 : Int32) : X10_cutJust_p2 (n + 1) xs v1 v2 =
    (if (12 : Int32) ≤ v2 then
      (X10_cutJust_p47 xs)
    else
    if ((v1 >>> (v2 &&& 31)) &&& (1 : Int32)) = (1 : Int32) then
      (X10_cutJust_p38 (fun xs v1 v2 => X10_cutJust_p2 n xs v1 v2) xs v1 v2 v2 ((1, 0) : BK))
    else
    inr v2 12 <|
    X10_cutJust_p38 (fun xs v1 v2 => X10_cutJust_p2 n xs v1 v2) xs v1 v2 v2 (xB xs 0 v2.toNatClampNeg)) := rfl
def X10_cutJust (xs : XS) (v1 : Int32) : Option (Unit × XS) :=
    X10_cutJust_p2 13 xs v1 (0 : Int32)
abbrev rmX10_cutJust : Room := { frames := 3, cells := 0, slots := 0, locals := 62 }
theorem hdX10_cutJust : yX10_cutJust.cls = RX10 ∧ yX10_cutJust.cls ≠ "java/lang/invoke/MethodHandle" ∧ yX10_cutJust.cls ≠ "java/lang/invoke/VarHandle" ∧ (parseMethodDescriptor yX10_cutJust.desc).map (fun d => d.parameters.length) = some 1 := by decide +kernel
set_option maxRecDepth 100000 in
set_option maxHeartbeats 8000000 in
theorem okX10_cutJust (z : Nat → Nat) (l : Launch) (D : va_G) (T : mT3) (b : Nat → Nat) {xa : XA} {xs : XS} {v1 : Int32} {xs' : XS} (hR : xRel b xa xs) (heq : X10_cutJust xs v1 = some ((), xs')) : hXv xSub z l D T b yX10_cutJust wsX10_cutJust rmX10_cutJust [.ref (b 0), .int v1] xa xs xs' := by
  refine xbody_v (plainFor_of_name (by decide)) rfl (Nat.le_of_ble_eq_true rfl) (fun p e s m args below meth c A Q hx hb hml hown hts hK hA hX hret ls hP hD hS hl => ?_)
  have hl : lv_has ls 3 [(0, .ref (b 0)), (1, .int v1)] := hl
  have hin10 : ∀ w ∈ wsX100, w ∈ wsX10_cutJust := by decide +kernel
  have hin8 : ∀ w ∈ wsX80, w ∈ wsX10_cutJust := by decide +kernel
  have f10 : (Cond.fieldLink RX10 10 RX10 (TX10 0).2.1 (TX10 0).2.2.1).before args s = true := hts (.fieldLink RX10 10 RX10 "now" "LLaidDownTheLane$Town;") (by decide +kernel)
  have f16 : (Cond.fieldLink RX10 16 RX10 (TX10 1).2.1 (TX10 1).2.2.1).before args s = true := hts (.fieldLink RX10 16 RX10 "trial" "LLaidDownTheLane$Town;") (by decide +kernel)
  have f27 : (Cond.fieldLink RX10 27 RX10 (TX10 4).2.1 (TX10 4).2.2.1).before args s = true := hts (.fieldLink RX10 27 RX10 "cut" "LLaidDownTheLane$Brick;") (by decide +kernel)
  have f84 : (Cond.fieldLink RX10 84 RX8 (TX8 0).2.1 (TX8 0).2.2.1).before args s = true := hts (.fieldLink RX10 84 RX8 "foot" "[LLaidDownTheLane$Brick;") (by decide +kernel)
  obtain ⟨xa0, hxa0⟩ : ∃ z : XA, z = xa := ⟨_, rfl⟩
  rw [← hxa0] at hret
  have hU : xSub xa0 xa := by rw [hxa0]; exact xSub.rf
  clear hxa0
  have b38 : ∀ (k2 : XS → Int32 → Int32 → Option (Unit × XS)) (hk2 : ∀ (xs : XS) (v1 : Int32) (v2 : Int32) (xa : XA) (H : Heap) (locs : List Loc) (ls : Array Slot), xRel b xa xs → xSub xa0 xa → va_P D vwCl (xW b T xa xs) H → va_D A (xW b T xa xs) → va_S A s.heap H locs → lv_has ls 3 [(0, .ref (b 0)), (1, .int v1), (2, .int v2)] → k2 xs v1 v2 = some ((), xs') → W p l e rmX10_cutJust s m args below meth c H locs 0 0 Q (F0 m 2 ls [])), ∀ (xs : XS) (v1 : Int32) (v2 : Int32) (t1 : Int32) (t2 : BK) (xa : XA) (t2q : Nat) (t2h : (t2q, t2) ∈ xPl xa) (H : Heap) (locs : List Loc) (ls : Array Slot), xRel b xa xs → xSub xa0 xa → va_P D vwCl (xW b T xa xs) H → va_D A (xW b T xa xs) → va_S A s.heap H locs → lv_has ls 3 [(0, .ref (b 0)), (1, .int v1), (2, .int v2)] → X10_cutJust_p38 k2 xs v1 v2 t1 t2 = some ((), xs') → W p l e rmX10_cutJust s m args below meth c H locs 0 0 Q (F0 m 38 ls [.ref t2q, .int t1, .ref (b 10)]) := by
    intro k2 hk2 xs v1 v2 t1 t2 xa t2q t2h H locs ls hR hU hP hD hS hl heq
    unfold X10_cutJust_p38 at heq
    obtain ⟨⟨⟩, xs_1, h_2, heq⟩ := bnd_h heq
    refine x_vv (own := RX10) (As := [.int t1, .ref t2q]) (rest := []) hx hb hml hown hts (okX8_replace_1 z l D T b hR t2h h_2) (cwV 2 hts gX10_cutJust_X8_replace rfl rfl rfl hdX8_replace ⟨Nat.le_of_ble_eq_true rfl, Nat.le_of_ble_eq_true rfl⟩) hK hA hX hP hD hS (ci := 8) (q0 := 10) rfl rfl rfl hl.1 rfl (Nat.le_of_ble_eq_true rfl) dX10_cutJust_38 ⟨Nat.le_of_ble_eq_true rfl, Nat.le_of_ble_eq_true rfl⟩ (fun xa_3 H locs hR hsxa_3 hP hD hS => ?_)
    have hU := xSub.tr hU hsxa_3
    obtain ⟨x_5, ex_5⟩ : ∃ y : Int32, y = v2 + (1 : Int32) := ⟨_, rfl⟩
    have heq := nm_h ex_5 heq
    refine lv_iinc (v := x_5) (lv' := [(2, .int x_5), (0, .ref (b 0)), (1, .int v1)]) hx hb dX10_cutJust_41 hl (k := 2) rfl (by rw [ex_5]; rfl) (by decide) rfl (fun ls hl => ?_)
    refine lv_goto (tgt := 2) hx hb dX10_cutJust_44 (by decide) ?_
    exact hk2 xs_1 v1 x_5 xa_3 H locs ls hR hU hP hD hS (lv_sub hl [1, 2, 0] rfl) heq
  have b47 : ∀ (xs : XS) (xa : XA) (H : Heap) (locs : List Loc) (ls : Array Slot), xRel b xa xs → xSub xa0 xa → va_P D vwCl (xW b T xa xs) H → va_D A (xW b T xa xs) → va_S A s.heap H locs → lv_has ls 3 [] → X10_cutJust_p47 xs = some ((), xs') → W p l e rmX10_cutJust s m args below meth c H locs 0 0 Q (F0 m 47 ls []) := by
    intro xs xa H locs ls hR hU hP hD hS hl heq
    unfold X10_cutJust_p47 at heq
    obtain ⟨-, heq2⟩ := ret_h heq
    subst heq2
    exact hret 47 H locs ls xa hR hU hP hD hS dX10_cutJust_47
  have b2 : ∀ (n : Nat), ∀ (xs : XS) (v1 : Int32) (v2 : Int32) (xa : XA) (H : Heap) (locs : List Loc) (ls : Array Slot), xRel b xa xs → xSub xa0 xa → va_P D vwCl (xW b T xa xs) H → va_D A (xW b T xa xs) → va_S A s.heap H locs → lv_has ls 3 [(0, .ref (b 0)), (1, .int v1), (2, .int v2)] → X10_cutJust_p2 n xs v1 v2 = some ((), xs') → W p l e rmX10_cutJust s m args below meth c H locs 0 0 Q (F0 m 2 ls []) := by
    intro n
    induction n with
    | zero => intro xs v1 v2 xa H locs ls hR hU hP hD hS hl heq; cases heq
    | succ n ih =>
      intro xs v1 v2 xa H locs ls hR hU hP hD hS hl heq
      rw [X10_cutJust_p2_s] at heq
      refine lv_iload_n hx hb dX10_cutJust_2 rfl (lv_at hl 2 rfl) ?_
      refine lv_bipush (v := (12 : Int32)) hx hb dX10_cutJust_3 (by decide) ?_
      refine lv_icmp_ge (tgt := 47) hx hb dX10_cutJust_5 (by decide) (fun c_6 => ?_) (fun c_6 => ?_)
      · have heq := it_t c_6 heq
        exact b47 xs xa H locs ls hR hU hP hD hS (lv_sub hl [] rfl) heq
      have heq := it_f c_6 heq
      refine lv_aload_n hx hb dX10_cutJust_8 rfl (lv_at hl 0 rfl) ?_
      refine va_get (D := D) (ci := 10) (v := .ref (b 10)) (C := RX10) (T := TX10) (N := 7) hx hb hts hin10 hown hK hP 0 rfl rfl 1 (by decide) f16 (fun _ h9 => h9) rfl dX10_cutJust_9 ?_
      refine lv_iload_n hx hb dX10_cutJust_12 rfl (lv_at hl 2 rfl) ?_
      refine lv_iload_n hx hb dX10_cutJust_13 rfl (lv_at hl 1 rfl) ?_
      refine lv_iload_n hx hb dX10_cutJust_14 rfl (lv_at hl 2 rfl) ?_
      refine lv_ishr hx hb dX10_cutJust_15 ?_
      refine lv_iconst (v := (1 : Int32)) hx hb dX10_cutJust_16 (by decide) ?_
      refine lv_iand hx hb dX10_cutJust_17 ?_
      refine lv_iconst (v := (1 : Int32)) hx hb dX10_cutJust_18 (by decide) ?_
      refine lv_icmp_ne (tgt := 29) hx hb dX10_cutJust_19 (by decide) (fun c_7 => ?_) (fun c_7 => ?_)
      · have heq := it_f c_7 heq
        refine lv_aload_n hx hb dX10_cutJust_29 rfl (lv_at hl 0 rfl) ?_
        refine va_get (D := D) (ci := 10) (v := .ref (b 3)) (C := RX10) (T := TX10) (N := 7) hx hb hts hin10 hown hK hP 0 rfl rfl 0 (by decide) f10 (fun _ h9 => h9) rfl dX10_cutJust_30 ?_
        refine va_get (D := D) (ci := 8) (v := .ref (b 4)) (C := RX8) (T := TX8) (N := 10) hx hb hts hin8 hown hK hP 3 rfl rfl 0 (by decide) f84 (fun _ h9 => h9) rfl dX10_cutJust_33 ?_
        refine lv_iload_n hx hb dX10_cutJust_36 rfl (lv_at hl 2 rfl) ?_
        obtain ⟨n_8, heq⟩ := inr_h heq
        have hb_9 := hR.1 0 (by decide) v2.toNatClampNeg (in_lt n_8)
        refine va_aldq (C := RX0) (n := 12) (f := fun j => some (xFo xa 0 j)) hx hb hK hP 4 1 rfl rfl n_8 dX10_cutJust_37 ?_
        refine W.eq (g2 := F0 m 38 ls [.ref (xFo xa 0 v2.toNatClampNeg), .int v2, .ref (b 10)]) rfl ?_
        exact b38 (fun xs v1 v2 => X10_cutJust_p2 n xs v1 v2) ih xs v1 v2 v2 (xB xs 0 v2.toNatClampNeg) xa (xFo xa 0 v2.toNatClampNeg) hb_9 H locs ls hR hU hP hD hS (lv_sub hl [0, 1, 2] rfl) heq
      have heq := it_t c_7 heq
      refine lv_aload_n hx hb dX10_cutJust_22 rfl (lv_at hl 0 rfl) ?_
      have hc_10 := hR.2.2.2.1
      refine va_get (D := D) (ci := 10) (v := .ref (b 24)) (C := RX10) (T := TX10) (N := 7) hx hb hts hin10 hown hK hP 0 rfl rfl 4 (by decide) f27 (fun _ h9 => h9) rfl dX10_cutJust_23 ?_
      refine lv_goto (tgt := 38) hx hb dX10_cutJust_26 (by decide) ?_
      exact b38 (fun xs v1 v2 => X10_cutJust_p2 n xs v1 v2) ih xs v1 v2 v2 ((1, 0) : BK) xa (b 24) hc_10 H locs ls hR hU hP hD hS (lv_sub hl [0, 1, 2] rfl) heq
  obtain ⟨H, hH⟩ : ∃ H, H = s.heap := ⟨_, rfl⟩
  obtain ⟨locs, hlocs⟩ : ∃ z : List Loc, z = [] := ⟨_, rfl⟩
  have hS : va_S A s.heap H locs := by rw [hH, hlocs]; exact hS
  have hP : va_P D vwCl (xW b T xa xs) H := by rw [hH]; exact hP
  suffices h9 : W p l e rmX10_cutJust s m args below meth c H locs 0 0 Q (F0 m 0 ls []) by rw [hH, hlocs] at h9; exact h9
  clear hH hlocs
  unfold X10_cutJust at heq
  refine lv_iconst (v := (0 : Int32)) hx hb dX10_cutJust_0 (by decide) ?_
  refine lv_istore_n (lv' := [(2, .int (0 : Int32)), (0, .ref (b 0)), (1, .int v1)]) hx hb dX10_cutJust_1 rfl hl (by decide) rfl (fun ls hl => ?_)
  exact b2 13 xs v1 (0 : Int32) xa H locs ls hR hU hP hD hS (lv_sub hl [1, 2, 0] rfl) heq
set_option maxRecDepth 20000 in
theorem ggX10_fallsWithout_X10_cutJust : GoodIn wsX10_fallsWithout wsX10_cutJust := goodIn_r _ [7, 1, 8, 9, 10, 11, 12, 13, 14, 15, 16, 17, 18, 19, 20, 21, 22, 23, 24, 25, 26, 27, 28, 29, 30, 31, 32, 33, 34, 35, 36, 37, 38, 39, 40, 41, 42, 43, 44, 45, 46, 47, 48, 49, 50, 51, 52, 53, 54, 55, 56, 57, 58, 59, 60, 61, 62, 63, 64, 65, 66, 67, 68, 69, 70, 71, 72, 73, 74, 75, 76, 77, 78, 79, 80, 81, 82, 83, 84, 85, 86, 87, 88, 89, 114, 115, 116, 117, 118, 119, 120, 121, 122, 123, 124, 125, 126, 127, 128, 129, 130, 131, 132, 133, 134, 135, 136, 137, 138] (by decide +kernel) (by decide +kernel)
set_option maxRecDepth 20000 in
theorem gX10_fallsWithout_X10_cutJust : GoodIn wsX10_fallsWithout (wsV RX10 344 RX10 yX10_cutJust wsX10_cutJust) := goodIn_app (goodIn_of _ (by decide +kernel)) ggX10_fallsWithout_X10_cutJust
set_option maxRecDepth 20000 in
theorem ggX10_fallsWithout_X8_fallSideAt : GoodIn wsX10_fallsWithout wsX8_fallSideAt := goodIn_r _ [93, 94, 95, 96, 14, 97, 98, 99, 100, 101, 102, 103, 104, 105, 106, 107, 108, 109, 110, 111, 112, 113, 18, 17, 121, 122, 123, 124, 125, 126, 127, 128, 129, 130] (by decide +kernel) (by decide +kernel)
set_option maxRecDepth 20000 in
theorem gX10_fallsWithout_X8_fallSideAt : GoodIn wsX10_fallsWithout (wsV RX10 184 RX8 yX8_fallSideAt wsX8_fallSideAt) := goodIn_app (goodIn_of _ (by decide +kernel)) ggX10_fallsWithout_X8_fallSideAt
theorem dX10_fallsWithout_0 : decode cX10_fallsWithout 0 = .ok (.aload_n 0, 1) := by decide +kernel
theorem dX10_fallsWithout_1 : decode cX10_fallsWithout 1 = .ok (.iload_n 1, 1) := by decide +kernel
theorem dX10_fallsWithout_2 : decode cX10_fallsWithout 2 = .ok (.invokevirtual 344, 3) := by decide +kernel
theorem dX10_fallsWithout_5 : decode cX10_fallsWithout 5 = .ok (.aload_n 0, 1) := by decide +kernel
theorem dX10_fallsWithout_6 : decode cX10_fallsWithout 6 = .ok (.getfield 16, 3) := by decide +kernel
theorem dX10_fallsWithout_9 : decode cX10_fallsWithout 9 = .ok (.aload_n 0, 1) := by decide +kernel
theorem dX10_fallsWithout_10 : decode cX10_fallsWithout 10 = .ok (.getfield 16, 3) := by decide +kernel
theorem dX10_fallsWithout_13 : decode cX10_fallsWithout 13 = .ok (.getfield 93, 3) := by decide +kernel
theorem dX10_fallsWithout_16 : decode cX10_fallsWithout 16 = .ok (.invokevirtual 184, 3) := by decide +kernel
theorem dX10_fallsWithout_19 : decode cX10_fallsWithout 19 = .ok (.ireturn, 1) := by decide +kernel
/-! X10 fallsWithout -/
def X10_fallsWithout (xs : XS) (v1 : Int32) : Option (Int32 × XS) :=
    bnd (X10_cutJust xs v1) fun _ xs_1 =>
    bnd (X8_fallSideAt (xT xs_1 1) (gF (xT xs_1 1) 8)) fun y_5 st_6 =>
    nm (uT xs_1 1 st_6) fun xs_8 =>
    some (y_5, xs_8)
abbrev rmX10_fallsWithout : Room := { frames := 4, cells := 0, slots := 0, locals := 94 }
theorem hdX10_fallsWithout : yX10_fallsWithout.cls = RX10 ∧ yX10_fallsWithout.cls ≠ "java/lang/invoke/MethodHandle" ∧ yX10_fallsWithout.cls ≠ "java/lang/invoke/VarHandle" ∧ (parseMethodDescriptor yX10_fallsWithout.desc).map (fun d => d.parameters.length) = some 1 := by decide +kernel
set_option maxRecDepth 100000 in
set_option maxHeartbeats 8000000 in
theorem okX10_fallsWithout (z : Nat → Nat) (l : Launch) (D : va_G) (T : mT3) (b : Nat → Nat) {xa : XA} {xs : XS} {v1 : Int32} {r : Int32} {xs' : XS} (hR : xRel b xa xs) (heq : X10_fallsWithout xs v1 = some (r, xs')) : hXi xSub z l D T b yX10_fallsWithout wsX10_fallsWithout rmX10_fallsWithout [.ref (b 0), .int v1] xa xs r xs' := by
  refine xbody_i (plainFor_of_name (by decide)) rfl (Nat.le_of_ble_eq_true rfl) (fun p e s m args below meth c A Q hx hb hml hown hts hK hA hX hret ls hP hD hS hl => ?_)
  have hl : lv_has ls 2 [(0, .ref (b 0)), (1, .int v1)] := hl
  have hin10 : ∀ w ∈ wsX100, w ∈ wsX10_fallsWithout := by decide +kernel
  have hin8 : ∀ w ∈ wsX80, w ∈ wsX10_fallsWithout := by decide +kernel
  have f16 : (Cond.fieldLink RX10 16 RX10 (TX10 1).2.1 (TX10 1).2.2.1).before args s = true := hts (.fieldLink RX10 16 RX10 "trial" "LLaidDownTheLane$Town;") (by decide +kernel)
  have f93 : (Cond.fieldLink RX10 93 RX8 (TX8 8).2.1 (TX8 8).2.2.1).before args s = true := hts (.fieldLink RX10 93 RX8 "minute" "I") (by decide +kernel)
  obtain ⟨xa0, hxa0⟩ : ∃ z : XA, z = xa := ⟨_, rfl⟩
  rw [← hxa0] at hret
  have hU : xSub xa0 xa := by rw [hxa0]; exact xSub.rf
  clear hxa0
  obtain ⟨H, hH⟩ : ∃ H, H = s.heap := ⟨_, rfl⟩
  obtain ⟨locs, hlocs⟩ : ∃ z : List Loc, z = [] := ⟨_, rfl⟩
  have hS : va_S A s.heap H locs := by rw [hH, hlocs]; exact hS
  have hP : va_P D vwCl (xW b T xa xs) H := by rw [hH]; exact hP
  suffices h9 : W p l e rmX10_fallsWithout s m args below meth c H locs 0 0 Q (F0 m 0 ls []) by rw [hH, hlocs] at h9; exact h9
  clear hH hlocs
  unfold X10_fallsWithout at heq
  refine lv_aload_n hx hb dX10_fallsWithout_0 rfl (lv_at hl 0 rfl) ?_
  refine lv_iload_n hx hb dX10_fallsWithout_1 rfl (lv_at hl 1 rfl) ?_
  obtain ⟨⟨⟩, xs_1, h_2, heq⟩ := bnd_h heq
  refine x_vv (own := RX10) (As := [.int v1]) (rest := []) hx hb hml hown hts (okX10_cutJust z l D T b hR h_2) (cwV 1 hts gX10_fallsWithout_X10_cutJust rfl rfl rfl hdX10_cutJust ⟨Nat.le_of_ble_eq_true rfl, Nat.le_of_ble_eq_true rfl⟩) hK hA hX hP hD hS (ci := 10) (q0 := 0) rfl rfl rfl hl.1 rfl (Nat.le_of_ble_eq_true rfl) dX10_fallsWithout_2 ⟨Nat.le_of_ble_eq_true rfl, Nat.le_of_ble_eq_true rfl⟩ (fun xa_3 H locs hR hsxa_3 hP hD hS => ?_)
  have hU := xSub.tr hU hsxa_3
  refine lv_aload_n hx hb dX10_fallsWithout_5 rfl (lv_at hl 0 rfl) ?_
  refine va_get (D := D) (ci := 10) (v := .ref (b 10)) (C := RX10) (T := TX10) (N := 7) hx hb hts hin10 hown hK hP 0 rfl rfl 1 (by decide) f16 (fun _ h9 => h9) rfl dX10_fallsWithout_6 ?_
  refine lv_aload_n hx hb dX10_fallsWithout_9 rfl (lv_at hl 0 rfl) ?_
  refine va_get (D := D) (ci := 10) (v := .ref (b 10)) (C := RX10) (T := TX10) (N := 7) hx hb hts hin10 hown hK hP 0 rfl rfl 1 (by decide) f16 (fun _ h9 => h9) rfl dX10_fallsWithout_10 ?_
  refine va_get (D := D) (ci := 8) (v := .int (gF (xT xs_1 1) 8)) (C := RX8) (T := TX8) (N := 10) hx hb hts hin8 hown hK hP 10 rfl rfl 8 (by decide) f93 (fun _ h9 => h9) rfl dX10_fallsWithout_13 ?_
  obtain ⟨y_5, st_6, h_7, heq⟩ := bnd_h heq
  refine h_vi (own := RX10) (As := [.int (gF (xT xs_1 1) 8)]) (rest := []) (wr := xWr1 b T xa_3 xs_1) hx hb hml hown hts (okX8_fallSideAt z l D (fun j => b (10 + j)) T (fun j => some (xFo xa_3 1 j)) h_7) (cwV 1 hts gX10_fallsWithout_X8_fallSideAt rfl rfl rfl hdX8_fallSideAt ⟨Nat.le_of_ble_eq_true rfl, Nat.le_of_ble_eq_true rfl⟩) hK hA hX hP hD hS (xp1 b T xa_3 xs_1) (xq1 b T xa_3 xs_1 _) (ci := 8) (q0 := 0) rfl rfl rfl hl.1 rfl (Nat.le_of_ble_eq_true rfl) dX10_fallsWithout_16 ⟨Nat.le_of_ble_eq_true rfl, Nat.le_of_ble_eq_true rfl⟩ (fun H locs hP hD hS => ?_)
  obtain ⟨xs_8, exs_8⟩ : ∃ z, z = uT xs_1 1 st_6 := ⟨_, rfl⟩
  have hR : xRel b xa_3 (uT xs_1 1 st_6) := hR.uT _ _
  rw [← exs_8] at hP hD hR
  have heq := nm_h exs_8 heq
  obtain ⟨heq, heq2⟩ := ret_h heq
  subst heq
  subst heq2
  exact hret 19 H locs ls xa_3 hR hU hP hD hS rfl dX10_fallsWithout_19
set_option maxRecDepth 20000 in
theorem ggX10_canCut_X8_isDown : GoodIn wsX10_canCut wsX8_isDown := goodIn_r _ [8, 9, 140, 141, 142, 143, 144, 145, 146, 147, 148, 149] (by decide +kernel) (by decide +kernel)
set_option maxRecDepth 20000 in
theorem gX10_canCut_X8_isDown : GoodIn wsX10_canCut (wsV RX10 116 RX8 yX8_isDown wsX8_isDown) := goodIn_app (goodIn_of _ (by decide +kernel)) ggX10_canCut_X8_isDown
set_option maxRecDepth 20000 in
theorem ggX10_canCut_X8_takeFrom : GoodIn wsX10_canCut wsX8_takeFrom := goodIn_r _ [13, 14, 15, 16, 17, 18, 19, 20, 21, 22, 9, 140, 141, 142, 143, 144, 145, 146, 147, 148, 149] (by decide +kernel) (by decide +kernel)
set_option maxRecDepth 20000 in
theorem gX10_canCut_X8_takeFrom : GoodIn wsX10_canCut (wsV RX10 59 RX8 yX8_takeFrom wsX8_takeFrom) := goodIn_app (goodIn_of _ (by decide +kernel)) ggX10_canCut_X8_takeFrom
set_option maxRecDepth 20000 in
theorem ggX10_canCut_X8_bearsAt : GoodIn wsX10_canCut wsX8_bearsAt := goodIn_r _ [26, 16, 15, 140, 141, 142, 143, 144, 145, 146, 147, 148, 149] (by decide +kernel) (by decide +kernel)
set_option maxRecDepth 20000 in
theorem gX10_canCut_X8_bearsAt : GoodIn wsX10_canCut (wsV RX10 96 RX8 yX8_bearsAt wsX8_bearsAt) := goodIn_app (goodIn_of _ (by decide +kernel)) ggX10_canCut_X8_bearsAt
set_option maxRecDepth 20000 in
theorem ggX10_canCut_X10_fallsWithout : GoodIn wsX10_canCut wsX10_fallsWithout := goodIn_r _ [31, 2, 3, 32, 33, 34, 30, 35, 36, 1, 37, 38, 39, 40, 7, 41, 14, 15, 16, 42, 43, 44, 45, 46, 47, 48, 49, 50, 51, 52, 53, 54, 55, 56, 57, 58, 59, 60, 61, 62, 63, 64, 65, 66, 67, 68, 69, 70, 71, 72, 73, 74, 75, 76, 77, 78, 79, 80, 81, 82, 83, 84, 85, 86, 87, 88, 89, 90, 91, 92, 93, 94, 95, 96, 97, 98, 99, 100, 101, 102, 103, 104, 105, 106, 107, 108, 109, 110, 111, 112, 113, 114, 115, 116, 117, 118, 119, 120, 121, 122, 123, 124, 17, 125, 126, 127, 128, 129, 130, 131, 132, 24, 25, 26, 133, 134, 135, 136, 137, 138, 139, 140, 141, 142, 143, 144, 145, 146, 147, 148, 149, 150, 151, 152, 153, 154, 155, 156, 157] (by decide +kernel) (by decide +kernel)
set_option maxRecDepth 20000 in
theorem gX10_canCut_X10_fallsWithout : GoodIn wsX10_canCut (wsV RX10 160 RX10 yX10_fallsWithout wsX10_fallsWithout) := goodIn_app (goodIn_of _ (by decide +kernel)) ggX10_canCut_X10_fallsWithout
theorem dX10_canCut_0 : decode cX10_canCut 0 = .ok (.aload_n 0, 1) := by decide +kernel
theorem dX10_canCut_1 : decode cX10_canCut 1 = .ok (.getfield 10, 3) := by decide +kernel
theorem dX10_canCut_4 : decode cX10_canCut 4 = .ok (.invokevirtual 116, 3) := by decide +kernel
theorem dX10_canCut_7 : decode cX10_canCut 7 = .ok (.ifCond .eq 6, 3) := by decide +kernel
theorem dX10_canCut_10 : decode cX10_canCut 10 = .ok (.bipush (-3), 2) := by decide +kernel
theorem dX10_canCut_12 : decode cX10_canCut 12 = .ok (.ireturn, 1) := by decide +kernel
theorem dX10_canCut_13 : decode cX10_canCut 13 = .ok (.iconst 0, 1) := by decide +kernel
theorem dX10_canCut_14 : decode cX10_canCut 14 = .ok (.istore_n 1, 1) := by decide +kernel
theorem dX10_canCut_15 : decode cX10_canCut 15 = .ok (.aload_n 0, 1) := by decide +kernel
theorem dX10_canCut_16 : decode cX10_canCut 16 = .ok (.getfield 16, 3) := by decide +kernel
theorem dX10_canCut_19 : decode cX10_canCut 19 = .ok (.aload_n 0, 1) := by decide +kernel
theorem dX10_canCut_20 : decode cX10_canCut 20 = .ok (.getfield 10, 3) := by decide +kernel
theorem dX10_canCut_23 : decode cX10_canCut 23 = .ok (.invokevirtual 59, 3) := by decide +kernel
theorem dX10_canCut_26 : decode cX10_canCut 26 = .ok (.iconst 0, 1) := by decide +kernel
theorem dX10_canCut_27 : decode cX10_canCut 27 = .ok (.istore_n 2, 1) := by decide +kernel
theorem dX10_canCut_28 : decode cX10_canCut 28 = .ok (.iload_n 2, 1) := by decide +kernel
theorem dX10_canCut_29 : decode cX10_canCut 29 = .ok (.bipush 12, 2) := by decide +kernel
theorem dX10_canCut_31 : decode cX10_canCut 31 = .ok (.if_icmp .ge 45, 3) := by decide +kernel
theorem dX10_canCut_34 : decode cX10_canCut 34 = .ok (.aload_n 0, 1) := by decide +kernel
theorem dX10_canCut_35 : decode cX10_canCut 35 = .ok (.getfield 10, 3) := by decide +kernel
theorem dX10_canCut_38 : decode cX10_canCut 38 = .ok (.iload_n 2, 1) := by decide +kernel
theorem dX10_canCut_39 : decode cX10_canCut 39 = .ok (.aload_n 0, 1) := by decide +kernel
theorem dX10_canCut_40 : decode cX10_canCut 40 = .ok (.getfield 10, 3) := by decide +kernel
theorem dX10_canCut_43 : decode cX10_canCut 43 = .ok (.getfield 93, 3) := by decide +kernel
theorem dX10_canCut_46 : decode cX10_canCut 46 = .ok (.invokevirtual 96, 3) := by decide +kernel
theorem dX10_canCut_49 : decode cX10_canCut 49 = .ok (.ifCond .le 21, 3) := by decide +kernel
theorem dX10_canCut_52 : decode cX10_canCut 52 = .ok (.aload_n 0, 1) := by decide +kernel
theorem dX10_canCut_53 : decode cX10_canCut 53 = .ok (.iconst 1, 1) := by decide +kernel
theorem dX10_canCut_54 : decode cX10_canCut 54 = .ok (.iload_n 2, 1) := by decide +kernel
theorem dX10_canCut_55 : decode cX10_canCut 55 = .ok (.ishl, 1) := by decide +kernel
theorem dX10_canCut_56 : decode cX10_canCut 56 = .ok (.invokevirtual 160, 3) := by decide +kernel
theorem dX10_canCut_59 : decode cX10_canCut 59 = .ok (.bipush (-4), 2) := by decide +kernel
theorem dX10_canCut_61 : decode cX10_canCut 61 = .ok (.if_icmp .ne 9, 3) := by decide +kernel
theorem dX10_canCut_64 : decode cX10_canCut 64 = .ok (.iload_n 1, 1) := by decide +kernel
theorem dX10_canCut_65 : decode cX10_canCut 65 = .ok (.iconst 1, 1) := by decide +kernel
theorem dX10_canCut_66 : decode cX10_canCut 66 = .ok (.iload_n 2, 1) := by decide +kernel
theorem dX10_canCut_67 : decode cX10_canCut 67 = .ok (.ishl, 1) := by decide +kernel
theorem dX10_canCut_68 : decode cX10_canCut 68 = .ok (.ior, 1) := by decide +kernel
theorem dX10_canCut_69 : decode cX10_canCut 69 = .ok (.istore_n 1, 1) := by decide +kernel
theorem dX10_canCut_70 : decode cX10_canCut 70 = .ok (.iinc 2 1, 3) := by decide +kernel
theorem dX10_canCut_73 : decode cX10_canCut 73 = .ok (.goto (-45), 3) := by decide +kernel
theorem dX10_canCut_76 : decode cX10_canCut 76 = .ok (.iload_n 1, 1) := by decide +kernel
theorem dX10_canCut_77 : decode cX10_canCut 77 = .ok (.ireturn, 1) := by decide +kernel
/-! X10 canCut -/
def X10_canCut_p70 (k28 : XS → Int32 → Int32 → Option (Int32 × XS)) (xs : XS) (v1 : Int32) (v2 : Int32) : Option (Int32 × XS) :=
    nm (v2 + (1 : Int32)) fun x_1 =>
    k28 xs v1 x_1
def X10_canCut_p76 (xs : XS) (v1 : Int32) : Option (Int32 × XS) :=
    some (v1, xs)
def X10_canCut_p28 : Nat → XS → Int32 → Int32 → Option (Int32 × XS)
  | 0, _, _, _ => none
  | n + 1, xs, v1, v2 =>
    if (12 : Int32) ≤ v2 then
      (X10_canCut_p76 xs v1)
    else
    bnd (X8_bearsAt (xT xs 0) v2 (gF (xT xs 0) 8)) fun y_3 st_4 =>
    nm (uT xs 0 st_4) fun xs_6 =>
    if y_3 ≤ 0 then
      (X10_canCut_p70 (fun xs v1 v2 => X10_canCut_p28 n xs v1 v2) xs_6 v1 v2)
    else
    bnd (X10_fallsWithout xs_6 ((1 : Int32) <<< (v2 &&& 31))) fun y_8 xs_9 =>
    if y_8 = (-4 : Int32) then
      (nm ((v1 ||| ((1 : Int32) <<< (v2 &&& 31)))) fun x_14 =>
      X10_canCut_p70 (fun xs v1 v2 => X10_canCut_p28 n xs v1 v2) xs_9 x_14 v2)
    else
    X10_canCut_p70 (fun xs v1 v2 => X10_canCut_p28 n xs v1 v2) xs_9 v1 v2
theorem X10_canCut_p28_s (n : Nat) (xs : XS) (v1 : Int32) (v2 : Int32) : X10_canCut_p28 (n + 1) xs v1 v2 =
    (if (12 : Int32) ≤ v2 then
      (X10_canCut_p76 xs v1)
    else
    bnd (X8_bearsAt (xT xs 0) v2 (gF (xT xs 0) 8)) fun y_3 st_4 =>
    nm (uT xs 0 st_4) fun xs_6 =>
    if y_3 ≤ 0 then
      (X10_canCut_p70 (fun xs v1 v2 => X10_canCut_p28 n xs v1 v2) xs_6 v1 v2)
    else
    bnd (X10_fallsWithout xs_6 ((1 : Int32) <<< (v2 &&& 31))) fun y_8 xs_9 =>
    if y_8 = (-4 : Int32) then
      (nm ((v1 ||| ((1 : Int32) <<< (v2 &&& 31)))) fun x_14 =>
      X10_canCut_p70 (fun xs v1 v2 => X10_canCut_p28 n xs v1 v2) xs_9 x_14 v2)
    else
    X10_canCut_p70 (fun xs v1 v2 => X10_canCut_p28 n xs v1 v2) xs_9 v1 v2) := rfl
def X10_canCut (xs : XS) : Option (Int32 × XS) :=
    bnd (X8_isDown (xT xs 0)) fun y_15 st_16 =>
    nm (uT xs 0 st_16) fun xs_18 =>
    if y_15 = 0 then
      (bnd (X8_takeFrom_1_0 xs_18) fun _ xs_20 =>
      X10_canCut_p28 13 xs_20 (0 : Int32) (0 : Int32))
    else
    some ((-3 : Int32), xs_18)
abbrev rmX10_canCut : Room := { frames := 5, cells := 0, slots := 0, locals := 115 }
theorem hdX10_canCut : yX10_canCut.cls = RX10 ∧ yX10_canCut.cls ≠ "java/lang/invoke/MethodHandle" ∧ yX10_canCut.cls ≠ "java/lang/invoke/VarHandle" ∧ (parseMethodDescriptor yX10_canCut.desc).map (fun d => d.parameters.length) = some 0 := by decide +kernel
set_option maxRecDepth 100000 in
set_option maxHeartbeats 8000000 in
theorem okX10_canCut (z : Nat → Nat) (l : Launch) (D : va_G) (T : mT3) (b : Nat → Nat) {xa : XA} {xs : XS} {r : Int32} {xs' : XS} (hR : xRel b xa xs) (heq : X10_canCut xs = some (r, xs')) : hXi xSub z l D T b yX10_canCut wsX10_canCut rmX10_canCut [.ref (b 0)] xa xs r xs' := by
  refine xbody_i (plainFor_of_name (by decide)) rfl (Nat.le_of_ble_eq_true rfl) (fun p e s m args below meth c A Q hx hb hml hown hts hK hA hX hret ls hP hD hS hl => ?_)
  have hl : lv_has ls 3 [(0, .ref (b 0))] := hl
  have hin10 : ∀ w ∈ wsX100, w ∈ wsX10_canCut := by decide +kernel
  have hin8 : ∀ w ∈ wsX80, w ∈ wsX10_canCut := by decide +kernel
  have f10 : (Cond.fieldLink RX10 10 RX10 (TX10 0).2.1 (TX10 0).2.2.1).before args s = true := hts (.fieldLink RX10 10 RX10 "now" "LLaidDownTheLane$Town;") (by decide +kernel)
  have f16 : (Cond.fieldLink RX10 16 RX10 (TX10 1).2.1 (TX10 1).2.2.1).before args s = true := hts (.fieldLink RX10 16 RX10 "trial" "LLaidDownTheLane$Town;") (by decide +kernel)
  have f93 : (Cond.fieldLink RX10 93 RX8 (TX8 8).2.1 (TX8 8).2.2.1).before args s = true := hts (.fieldLink RX10 93 RX8 "minute" "I") (by decide +kernel)
  obtain ⟨xa0, hxa0⟩ : ∃ z : XA, z = xa := ⟨_, rfl⟩
  rw [← hxa0] at hret
  have hU : xSub xa0 xa := by rw [hxa0]; exact xSub.rf
  clear hxa0
  have b70 : ∀ (k28 : XS → Int32 → Int32 → Option (Int32 × XS)) (hk28 : ∀ (xs : XS) (v1 : Int32) (v2 : Int32) (xa : XA) (H : Heap) (locs : List Loc) (ls : Array Slot), xRel b xa xs → xSub xa0 xa → va_P D vwCl (xW b T xa xs) H → va_D A (xW b T xa xs) → va_S A s.heap H locs → lv_has ls 3 [(0, .ref (b 0)), (1, .int v1), (2, .int v2)] → k28 xs v1 v2 = some (r, xs') → W p l e rmX10_canCut s m args below meth c H locs 0 0 Q (F0 m 28 ls [])), ∀ (xs : XS) (v1 : Int32) (v2 : Int32) (xa : XA) (H : Heap) (locs : List Loc) (ls : Array Slot), xRel b xa xs → xSub xa0 xa → va_P D vwCl (xW b T xa xs) H → va_D A (xW b T xa xs) → va_S A s.heap H locs → lv_has ls 3 [(0, .ref (b 0)), (1, .int v1), (2, .int v2)] → X10_canCut_p70 k28 xs v1 v2 = some (r, xs') → W p l e rmX10_canCut s m args below meth c H locs 0 0 Q (F0 m 70 ls []) := by
    intro k28 hk28 xs v1 v2 xa H locs ls hR hU hP hD hS hl heq
    unfold X10_canCut_p70 at heq
    obtain ⟨x_1, ex_1⟩ : ∃ y : Int32, y = v2 + (1 : Int32) := ⟨_, rfl⟩
    have heq := nm_h ex_1 heq
    refine lv_iinc (v := x_1) (lv' := [(2, .int x_1), (0, .ref (b 0)), (1, .int v1)]) hx hb dX10_canCut_70 hl (k := 2) rfl (by rw [ex_1]; rfl) (by decide) rfl (fun ls hl => ?_)
    refine lv_goto (tgt := 28) hx hb dX10_canCut_73 (by decide) ?_
    exact hk28 xs v1 x_1 xa H locs ls hR hU hP hD hS (lv_sub hl [1, 2, 0] rfl) heq
  have b76 : ∀ (xs : XS) (v1 : Int32) (xa : XA) (H : Heap) (locs : List Loc) (ls : Array Slot), xRel b xa xs → xSub xa0 xa → va_P D vwCl (xW b T xa xs) H → va_D A (xW b T xa xs) → va_S A s.heap H locs → lv_has ls 3 [(1, .int v1)] → X10_canCut_p76 xs v1 = some (r, xs') → W p l e rmX10_canCut s m args below meth c H locs 0 0 Q (F0 m 76 ls []) := by
    intro xs v1 xa H locs ls hR hU hP hD hS hl heq
    unfold X10_canCut_p76 at heq
    refine lv_iload_n hx hb dX10_canCut_76 rfl (lv_at hl 0 rfl) ?_
    obtain ⟨heq, heq2⟩ := ret_h heq
    subst heq
    subst heq2
    exact hret 77 H locs ls xa hR hU hP hD hS rfl dX10_canCut_77
  have b28 : ∀ (n : Nat), ∀ (xs : XS) (v1 : Int32) (v2 : Int32) (xa : XA) (H : Heap) (locs : List Loc) (ls : Array Slot), xRel b xa xs → xSub xa0 xa → va_P D vwCl (xW b T xa xs) H → va_D A (xW b T xa xs) → va_S A s.heap H locs → lv_has ls 3 [(0, .ref (b 0)), (1, .int v1), (2, .int v2)] → X10_canCut_p28 n xs v1 v2 = some (r, xs') → W p l e rmX10_canCut s m args below meth c H locs 0 0 Q (F0 m 28 ls []) := by
    intro n
    induction n with
    | zero => intro xs v1 v2 xa H locs ls hR hU hP hD hS hl heq; cases heq
    | succ n ih =>
      intro xs v1 v2 xa H locs ls hR hU hP hD hS hl heq
      rw [X10_canCut_p28_s] at heq
      refine lv_iload_n hx hb dX10_canCut_28 rfl (lv_at hl 2 rfl) ?_
      refine lv_bipush (v := (12 : Int32)) hx hb dX10_canCut_29 (by decide) ?_
      refine lv_icmp_ge (tgt := 76) hx hb dX10_canCut_31 (by decide) (fun c_2 => ?_) (fun c_2 => ?_)
      · have heq := it_t c_2 heq
        exact b76 xs v1 xa H locs ls hR hU hP hD hS (lv_sub hl [1] rfl) heq
      have heq := it_f c_2 heq
      refine lv_aload_n hx hb dX10_canCut_34 rfl (lv_at hl 0 rfl) ?_
      refine va_get (D := D) (ci := 10) (v := .ref (b 3)) (C := RX10) (T := TX10) (N := 7) hx hb hts hin10 hown hK hP 0 rfl rfl 0 (by decide) f10 (fun _ h9 => h9) rfl dX10_canCut_35 ?_
      refine lv_iload_n hx hb dX10_canCut_38 rfl (lv_at hl 2 rfl) ?_
      refine lv_aload_n hx hb dX10_canCut_39 rfl (lv_at hl 0 rfl) ?_
      refine va_get (D := D) (ci := 10) (v := .ref (b 3)) (C := RX10) (T := TX10) (N := 7) hx hb hts hin10 hown hK hP 0 rfl rfl 0 (by decide) f10 (fun _ h9 => h9) rfl dX10_canCut_40 ?_
      refine va_get (D := D) (ci := 8) (v := .int (gF (xT xs 0) 8)) (C := RX8) (T := TX8) (N := 10) hx hb hts hin8 hown hK hP 3 rfl rfl 8 (by decide) f93 (fun _ h9 => h9) rfl dX10_canCut_43 ?_
      obtain ⟨y_3, st_4, h_5, heq⟩ := bnd_h heq
      refine h_vi (own := RX10) (As := [.int v2, .int (gF (xT xs 0) 8)]) (rest := []) (wr := xWr0 b T xa xs) hx hb hml hown hts (okX8_bearsAt z l D (fun j => b (3 + j)) T (fun j => some (xFo xa 0 j)) h_5) (cwV 2 hts gX10_canCut_X8_bearsAt rfl rfl rfl hdX8_bearsAt ⟨Nat.le_of_ble_eq_true rfl, Nat.le_of_ble_eq_true rfl⟩) hK hA hX hP hD hS (xp0 b T xa xs) (xq0 b T xa xs _) (ci := 8) (q0 := 0) rfl rfl rfl hl.1 rfl (Nat.le_of_ble_eq_true rfl) dX10_canCut_46 ⟨Nat.le_of_ble_eq_true rfl, Nat.le_of_ble_eq_true rfl⟩ (fun H locs hP hD hS => ?_)
      obtain ⟨xs_6, exs_6⟩ : ∃ z, z = uT xs 0 st_4 := ⟨_, rfl⟩
      have hR : xRel b xa (uT xs 0 st_4) := hR.uT _ _
      rw [← exs_6] at hP hD hR
      have heq := nm_h exs_6 heq
      refine lv_if_le (tgt := 70) hx hb dX10_canCut_49 (by decide) (fun c_7 => ?_) (fun c_7 => ?_)
      · have heq := it_t c_7 heq
        exact b70 (fun xs v1 v2 => X10_canCut_p28 n xs v1 v2) ih xs_6 v1 v2 xa H locs ls hR hU hP hD hS (lv_sub hl [0, 1, 2] rfl) heq
      have heq := it_f c_7 heq
      refine lv_aload_n hx hb dX10_canCut_52 rfl (lv_at hl 0 rfl) ?_
      refine lv_iconst (v := (1 : Int32)) hx hb dX10_canCut_53 (by decide) ?_
      refine lv_iload_n hx hb dX10_canCut_54 rfl (lv_at hl 2 rfl) ?_
      refine lv_ishl hx hb dX10_canCut_55 ?_
      obtain ⟨y_8, xs_9, h_10, heq⟩ := bnd_h heq
      refine x_vi (own := RX10) (As := [.int ((1 : Int32) <<< (v2 &&& 31))]) (rest := []) hx hb hml hown hts (okX10_fallsWithout z l D T b hR h_10) (cwV 1 hts gX10_canCut_X10_fallsWithout rfl rfl rfl hdX10_fallsWithout ⟨Nat.le_of_ble_eq_true rfl, Nat.le_of_ble_eq_true rfl⟩) hK hA hX hP hD hS (ci := 10) (q0 := 0) rfl rfl rfl hl.1 rfl (Nat.le_of_ble_eq_true rfl) dX10_canCut_56 ⟨Nat.le_of_ble_eq_true rfl, Nat.le_of_ble_eq_true rfl⟩ (fun xa_11 H locs hR hsxa_11 hP hD hS => ?_)
      have hU := xSub.tr hU hsxa_11
      refine lv_bipush (v := (-4 : Int32)) hx hb dX10_canCut_59 (by decide) ?_
      refine lv_icmp_ne (tgt := 70) hx hb dX10_canCut_61 (by decide) (fun c_13 => ?_) (fun c_13 => ?_)
      · have heq := it_f c_13 heq
        exact b70 (fun xs v1 v2 => X10_canCut_p28 n xs v1 v2) ih xs_9 v1 v2 xa_11 H locs ls hR hU hP hD hS (lv_sub hl [0, 1, 2] rfl) heq
      have heq := it_t c_13 heq
      refine lv_iload_n hx hb dX10_canCut_64 rfl (lv_at hl 1 rfl) ?_
      refine lv_iconst (v := (1 : Int32)) hx hb dX10_canCut_65 (by decide) ?_
      refine lv_iload_n hx hb dX10_canCut_66 rfl (lv_at hl 2 rfl) ?_
      refine lv_ishl hx hb dX10_canCut_67 ?_
      refine lv_ior hx hb dX10_canCut_68 ?_
      refine lv_topi (fun x_14 ex_14 => ?_)
      have heq := nm_h ex_14 heq
      refine lv_istore_n (lv' := [(1, .int x_14), (0, .ref (b 0)), (2, .int v2)]) hx hb dX10_canCut_69 rfl hl (by decide) rfl (fun ls hl => ?_)
      exact b70 (fun xs v1 v2 => X10_canCut_p28 n xs v1 v2) ih xs_9 x_14 v2 xa_11 H locs ls hR hU hP hD hS (lv_sub hl [1, 0, 2] rfl) heq
  obtain ⟨H, hH⟩ : ∃ H, H = s.heap := ⟨_, rfl⟩
  obtain ⟨locs, hlocs⟩ : ∃ z : List Loc, z = [] := ⟨_, rfl⟩
  have hS : va_S A s.heap H locs := by rw [hH, hlocs]; exact hS
  have hP : va_P D vwCl (xW b T xa xs) H := by rw [hH]; exact hP
  suffices h9 : W p l e rmX10_canCut s m args below meth c H locs 0 0 Q (F0 m 0 ls []) by rw [hH, hlocs] at h9; exact h9
  clear hH hlocs
  unfold X10_canCut at heq
  refine lv_aload_n hx hb dX10_canCut_0 rfl (lv_at hl 0 rfl) ?_
  refine va_get (D := D) (ci := 10) (v := .ref (b 3)) (C := RX10) (T := TX10) (N := 7) hx hb hts hin10 hown hK hP 0 rfl rfl 0 (by decide) f10 (fun _ h9 => h9) rfl dX10_canCut_1 ?_
  obtain ⟨y_15, st_16, h_17, heq⟩ := bnd_h heq
  refine h_vi (own := RX10) (As := []) (rest := []) (wr := xWr0 b T xa xs) hx hb hml hown hts (okX8_isDown z l D (fun j => b (3 + j)) T (fun j => some (xFo xa 0 j)) h_17) (cwV 0 hts gX10_canCut_X8_isDown rfl rfl rfl hdX8_isDown ⟨Nat.le_of_ble_eq_true rfl, Nat.le_of_ble_eq_true rfl⟩) hK hA hX hP hD hS (xp0 b T xa xs) (xq0 b T xa xs _) (ci := 8) (q0 := 0) rfl rfl rfl hl.1 rfl (Nat.le_of_ble_eq_true rfl) dX10_canCut_4 ⟨Nat.le_of_ble_eq_true rfl, Nat.le_of_ble_eq_true rfl⟩ (fun H locs hP hD hS => ?_)
  obtain ⟨xs_18, exs_18⟩ : ∃ z, z = uT xs 0 st_16 := ⟨_, rfl⟩
  have hR : xRel b xa (uT xs 0 st_16) := hR.uT _ _
  rw [← exs_18] at hP hD hR
  have heq := nm_h exs_18 heq
  refine lv_if_eq (tgt := 13) hx hb dX10_canCut_7 (by decide) (fun c_19 => ?_) (fun c_19 => ?_)
  · have heq := it_t c_19 heq
    refine lv_iconst (v := (0 : Int32)) hx hb dX10_canCut_13 (by decide) ?_
    refine lv_istore_n (lv' := [(1, .int (0 : Int32)), (0, .ref (b 0))]) hx hb dX10_canCut_14 rfl hl (by decide) rfl (fun ls hl => ?_)
    refine lv_aload_n hx hb dX10_canCut_15 rfl (lv_at hl 1 rfl) ?_
    refine va_get (D := D) (ci := 10) (v := .ref (b 10)) (C := RX10) (T := TX10) (N := 7) hx hb hts hin10 hown hK hP 0 rfl rfl 1 (by decide) f16 (fun _ h9 => h9) rfl dX10_canCut_16 ?_
    refine lv_aload_n hx hb dX10_canCut_19 rfl (lv_at hl 1 rfl) ?_
    refine va_get (D := D) (ci := 10) (v := .ref (b 3)) (C := RX10) (T := TX10) (N := 7) hx hb hts hin10 hown hK hP 0 rfl rfl 0 (by decide) f10 (fun _ h9 => h9) rfl dX10_canCut_20 ?_
    obtain ⟨⟨⟩, xs_20, h_21, heq⟩ := bnd_h heq
    refine x_vv (own := RX10) (As := [.ref (b 3)]) (rest := []) hx hb hml hown hts (okX8_takeFrom_1_0 z l D T b hR h_21) (cwV 1 hts gX10_canCut_X8_takeFrom rfl rfl rfl hdX8_takeFrom ⟨Nat.le_of_ble_eq_true rfl, Nat.le_of_ble_eq_true rfl⟩) hK hA hX hP hD hS (ci := 8) (q0 := 10) rfl rfl rfl hl.1 rfl (Nat.le_of_ble_eq_true rfl) dX10_canCut_23 ⟨Nat.le_of_ble_eq_true rfl, Nat.le_of_ble_eq_true rfl⟩ (fun xa_22 H locs hR hsxa_22 hP hD hS => ?_)
    have hU := xSub.tr hU hsxa_22
    refine lv_iconst (v := (0 : Int32)) hx hb dX10_canCut_26 (by decide) ?_
    refine lv_istore_n (lv' := [(2, .int (0 : Int32)), (1, .int (0 : Int32)), (0, .ref (b 0))]) hx hb dX10_canCut_27 rfl hl (by decide) rfl (fun ls hl => ?_)
    exact b28 13 xs_20 (0 : Int32) (0 : Int32) xa_22 H locs ls hR hU hP hD hS (lv_sub hl [2, 1, 0] rfl) heq
  have heq := it_f c_19 heq
  refine lv_bipush (v := (-3 : Int32)) hx hb dX10_canCut_10 (by decide) ?_
  obtain ⟨heq, heq2⟩ := ret_h heq
  subst heq
  subst heq2
  exact hret 12 H locs ls xa hR hU hP hD hS rfl dX10_canCut_12
set_option maxRecDepth 20000 in
theorem ggX10_weakest_X8_isDown : GoodIn wsX10_weakest wsX8_isDown := goodIn_r _ [6, 7, 42, 43, 44, 45, 46, 47, 48, 49, 50, 51] (by decide +kernel) (by decide +kernel)
set_option maxRecDepth 20000 in
theorem gX10_weakest_X8_isDown : GoodIn wsX10_weakest (wsV RX10 116 RX8 yX8_isDown wsX8_isDown) := goodIn_app (goodIn_of _ (by decide +kernel)) ggX10_weakest_X8_isDown
set_option maxRecDepth 20000 in
theorem ggX10_weakest_X8_weakestSide : GoodIn wsX10_weakest wsX8_weakestSide := goodIn_r _ [11, 12, 13, 14, 15, 5, 16, 17, 18, 19, 20, 21, 22, 23, 24, 25, 26, 27, 28, 29, 30, 31, 32, 33, 34, 42, 43, 44, 45, 46, 47, 48, 49, 50, 51] (by decide +kernel) (by decide +kernel)
set_option maxRecDepth 20000 in
theorem gX10_weakest_X8_weakestSide : GoodIn wsX10_weakest (wsV RX10 163 RX8 yX8_weakestSide wsX8_weakestSide) := goodIn_app (goodIn_of _ (by decide +kernel)) ggX10_weakest_X8_weakestSide
theorem dX10_weakest_0 : decode cX10_weakest 0 = .ok (.aload_n 0, 1) := by decide +kernel
theorem dX10_weakest_1 : decode cX10_weakest 1 = .ok (.getfield 10, 3) := by decide +kernel
theorem dX10_weakest_4 : decode cX10_weakest 4 = .ok (.invokevirtual 116, 3) := by decide +kernel
theorem dX10_weakest_7 : decode cX10_weakest 7 = .ok (.ifCond .eq 8, 3) := by decide +kernel
theorem dX10_weakest_10 : decode cX10_weakest 10 = .ok (.bipush (-3), 2) := by decide +kernel
theorem dX10_weakest_12 : decode cX10_weakest 12 = .ok (.goto 10, 3) := by decide +kernel
theorem dX10_weakest_15 : decode cX10_weakest 15 = .ok (.aload_n 0, 1) := by decide +kernel
theorem dX10_weakest_16 : decode cX10_weakest 16 = .ok (.getfield 10, 3) := by decide +kernel
theorem dX10_weakest_19 : decode cX10_weakest 19 = .ok (.invokevirtual 163, 3) := by decide +kernel
theorem dX10_weakest_22 : decode cX10_weakest 22 = .ok (.ireturn, 1) := by decide +kernel
/-! X10 weakest -/
def X10_weakest_p22 (xs : XS) (t0 : Int32) : Option (Int32 × XS) :=
    some (t0, xs)
def X10_weakest (xs : XS) : Option (Int32 × XS) :=
    bnd (X8_isDown (xT xs 0)) fun y_1 st_2 =>
    nm (uT xs 0 st_2) fun xs_4 =>
    if y_1 = 0 then
      (bnd (X8_weakestSide (xT xs_4 0)) fun y_6 st_7 =>
      nm (uT xs_4 0 st_7) fun xs_9 =>
      X10_weakest_p22 xs_9 y_6)
    else
    X10_weakest_p22 xs_4 (-3 : Int32)
abbrev rmX10_weakest : Room := { frames := 4, cells := 0, slots := 0, locals := 93 }
theorem hdX10_weakest : yX10_weakest.cls = RX10 ∧ yX10_weakest.cls ≠ "java/lang/invoke/MethodHandle" ∧ yX10_weakest.cls ≠ "java/lang/invoke/VarHandle" ∧ (parseMethodDescriptor yX10_weakest.desc).map (fun d => d.parameters.length) = some 0 := by decide +kernel
set_option maxRecDepth 100000 in
set_option maxHeartbeats 8000000 in
theorem okX10_weakest (z : Nat → Nat) (l : Launch) (D : va_G) (T : mT3) (b : Nat → Nat) {xa : XA} {xs : XS} {r : Int32} {xs' : XS} (hR : xRel b xa xs) (heq : X10_weakest xs = some (r, xs')) : hXi xSub z l D T b yX10_weakest wsX10_weakest rmX10_weakest [.ref (b 0)] xa xs r xs' := by
  refine xbody_i (plainFor_of_name (by decide)) rfl (Nat.le_of_ble_eq_true rfl) (fun p e s m args below meth c A Q hx hb hml hown hts hK hA hX hret ls hP hD hS hl => ?_)
  have hl : lv_has ls 1 [(0, .ref (b 0))] := hl
  have hin10 : ∀ w ∈ wsX100, w ∈ wsX10_weakest := by decide +kernel
  have f10 : (Cond.fieldLink RX10 10 RX10 (TX10 0).2.1 (TX10 0).2.2.1).before args s = true := hts (.fieldLink RX10 10 RX10 "now" "LLaidDownTheLane$Town;") (by decide +kernel)
  obtain ⟨xa0, hxa0⟩ : ∃ z : XA, z = xa := ⟨_, rfl⟩
  rw [← hxa0] at hret
  have hU : xSub xa0 xa := by rw [hxa0]; exact xSub.rf
  clear hxa0
  have b22 : ∀ (xs : XS) (t0 : Int32) (xa : XA) (H : Heap) (locs : List Loc) (ls : Array Slot), xRel b xa xs → xSub xa0 xa → va_P D vwCl (xW b T xa xs) H → va_D A (xW b T xa xs) → va_S A s.heap H locs → lv_has ls 1 [] → X10_weakest_p22 xs t0 = some (r, xs') → W p l e rmX10_weakest s m args below meth c H locs 0 0 Q (F0 m 22 ls [.int t0]) := by
    intro xs t0 xa H locs ls hR hU hP hD hS hl heq
    unfold X10_weakest_p22 at heq
    obtain ⟨heq, heq2⟩ := ret_h heq
    subst heq
    subst heq2
    exact hret 22 H locs ls xa hR hU hP hD hS rfl dX10_weakest_22
  obtain ⟨H, hH⟩ : ∃ H, H = s.heap := ⟨_, rfl⟩
  obtain ⟨locs, hlocs⟩ : ∃ z : List Loc, z = [] := ⟨_, rfl⟩
  have hS : va_S A s.heap H locs := by rw [hH, hlocs]; exact hS
  have hP : va_P D vwCl (xW b T xa xs) H := by rw [hH]; exact hP
  suffices h9 : W p l e rmX10_weakest s m args below meth c H locs 0 0 Q (F0 m 0 ls []) by rw [hH, hlocs] at h9; exact h9
  clear hH hlocs
  unfold X10_weakest at heq
  refine lv_aload_n hx hb dX10_weakest_0 rfl (lv_at hl 0 rfl) ?_
  refine va_get (D := D) (ci := 10) (v := .ref (b 3)) (C := RX10) (T := TX10) (N := 7) hx hb hts hin10 hown hK hP 0 rfl rfl 0 (by decide) f10 (fun _ h9 => h9) rfl dX10_weakest_1 ?_
  obtain ⟨y_1, st_2, h_3, heq⟩ := bnd_h heq
  refine h_vi (own := RX10) (As := []) (rest := []) (wr := xWr0 b T xa xs) hx hb hml hown hts (okX8_isDown z l D (fun j => b (3 + j)) T (fun j => some (xFo xa 0 j)) h_3) (cwV 0 hts gX10_weakest_X8_isDown rfl rfl rfl hdX8_isDown ⟨Nat.le_of_ble_eq_true rfl, Nat.le_of_ble_eq_true rfl⟩) hK hA hX hP hD hS (xp0 b T xa xs) (xq0 b T xa xs _) (ci := 8) (q0 := 0) rfl rfl rfl hl.1 rfl (Nat.le_of_ble_eq_true rfl) dX10_weakest_4 ⟨Nat.le_of_ble_eq_true rfl, Nat.le_of_ble_eq_true rfl⟩ (fun H locs hP hD hS => ?_)
  obtain ⟨xs_4, exs_4⟩ : ∃ z, z = uT xs 0 st_2 := ⟨_, rfl⟩
  have hR : xRel b xa (uT xs 0 st_2) := hR.uT _ _
  rw [← exs_4] at hP hD hR
  have heq := nm_h exs_4 heq
  refine lv_if_eq (tgt := 15) hx hb dX10_weakest_7 (by decide) (fun c_5 => ?_) (fun c_5 => ?_)
  · have heq := it_t c_5 heq
    refine lv_aload_n hx hb dX10_weakest_15 rfl (lv_at hl 0 rfl) ?_
    refine va_get (D := D) (ci := 10) (v := .ref (b 3)) (C := RX10) (T := TX10) (N := 7) hx hb hts hin10 hown hK hP 0 rfl rfl 0 (by decide) f10 (fun _ h9 => h9) rfl dX10_weakest_16 ?_
    obtain ⟨y_6, st_7, h_8, heq⟩ := bnd_h heq
    refine h_vi (own := RX10) (As := []) (rest := []) (wr := xWr0 b T xa xs_4) hx hb hml hown hts (okX8_weakestSide z l D (fun j => b (3 + j)) T (fun j => some (xFo xa 0 j)) h_8) (cwV 0 hts gX10_weakest_X8_weakestSide rfl rfl rfl hdX8_weakestSide ⟨Nat.le_of_ble_eq_true rfl, Nat.le_of_ble_eq_true rfl⟩) hK hA hX hP hD hS (xp0 b T xa xs_4) (xq0 b T xa xs_4 _) (ci := 8) (q0 := 0) rfl rfl rfl hl.1 rfl (Nat.le_of_ble_eq_true rfl) dX10_weakest_19 ⟨Nat.le_of_ble_eq_true rfl, Nat.le_of_ble_eq_true rfl⟩ (fun H locs hP hD hS => ?_)
    obtain ⟨xs_9, exs_9⟩ : ∃ z, z = uT xs_4 0 st_7 := ⟨_, rfl⟩
    have hR : xRel b xa (uT xs_4 0 st_7) := hR.uT _ _
    rw [← exs_9] at hP hD hR
    have heq := nm_h exs_9 heq
    exact b22 xs_9 y_6 xa H locs ls hR hU hP hD hS (lv_sub hl [] rfl) heq
  have heq := it_f c_5 heq
  refine lv_bipush (v := (-3 : Int32)) hx hb dX10_weakest_10 (by decide) ?_
  refine lv_goto (tgt := 22) hx hb dX10_weakest_12 (by decide) ?_
  exact b22 xs_4 (-3 : Int32) xa H locs ls hR hU hP hD hS (lv_sub hl [] rfl) heq
set_option maxRecDepth 20000 in
theorem ggX10_forLane_X8_isDown : GoodIn wsX10_forLane wsX8_isDown := goodIn_r _ [8, 9, 147, 148, 149, 150, 151, 152, 153, 154, 155, 156] (by decide +kernel) (by decide +kernel)
set_option maxRecDepth 20000 in
theorem gX10_forLane_X8_isDown : GoodIn wsX10_forLane (wsV RX10 116 RX8 yX8_isDown wsX8_isDown) := goodIn_app (goodIn_of _ (by decide +kernel)) ggX10_forLane_X8_isDown
set_option maxRecDepth 20000 in
theorem ggX10_forLane_X8_takeFrom : GoodIn wsX10_forLane wsX8_takeFrom := goodIn_r _ [13, 14, 15, 16, 17, 18, 19, 20, 21, 22, 9, 147, 148, 149, 150, 151, 152, 153, 154, 155, 156] (by decide +kernel) (by decide +kernel)
set_option maxRecDepth 20000 in
theorem gX10_forLane_X8_takeFrom : GoodIn wsX10_forLane (wsV RX10 59 RX8 yX8_takeFrom wsX8_takeFrom) := goodIn_app (goodIn_of _ (by decide +kernel)) ggX10_forLane_X8_takeFrom
set_option maxRecDepth 20000 in
theorem ggX10_forLane_J6_bitCount_0f7a4 : GoodIn wsX10_forLane wsJ6_bitCount_0f7a4 := goodIn_r _ [26, 27, 28, 29] (by decide +kernel) (by decide +kernel)
set_option maxRecDepth 20000 in
theorem gX10_forLane_J6_bitCount_0f7a4 : GoodIn wsX10_forLane (va_wsS RX10 166 yJ6_bitCount_0f7a4 wsJ6_bitCount_0f7a4) := goodIn_app (goodIn_of _ (by decide +kernel)) ggX10_forLane_J6_bitCount_0f7a4
set_option maxRecDepth 20000 in
theorem ggX10_forLane_X10_fallsWithout : GoodIn wsX10_forLane wsX10_fallsWithout := goodIn_r _ [34, 2, 35, 36, 37, 38, 33, 39, 40, 1, 41, 42, 43, 44, 7, 45, 14, 15, 16, 46, 47, 48, 49, 50, 51, 52, 53, 54, 55, 56, 57, 58, 59, 60, 61, 62, 63, 64, 65, 66, 67, 68, 69, 70, 71, 72, 73, 74, 75, 76, 77, 78, 79, 80, 81, 82, 83, 84, 85, 86, 87, 88, 89, 90, 91, 92, 93, 94, 95, 96, 97, 98, 99, 100, 101, 102, 103, 104, 105, 106, 107, 108, 109, 110, 111, 112, 113, 114, 115, 116, 117, 118, 119, 120, 121, 122, 123, 124, 125, 126, 127, 128, 17, 129, 130, 131, 132, 133, 134, 135, 136, 137, 138, 139, 140, 141, 142, 143, 144, 145, 146, 147, 148, 149, 150, 151, 152, 153, 154, 155, 156, 157, 158, 159, 160, 161, 162, 163, 164] (by decide +kernel) (by decide +kernel)
set_option maxRecDepth 20000 in
theorem gX10_forLane_X10_fallsWithout : GoodIn wsX10_forLane (wsV RX10 160 RX10 yX10_fallsWithout wsX10_fallsWithout) := goodIn_app (goodIn_of _ (by decide +kernel)) ggX10_forLane_X10_fallsWithout
theorem dX10_forLane_0 : decode cX10_forLane 0 = .ok (.aload_n 0, 1) := by decide +kernel
theorem dX10_forLane_1 : decode cX10_forLane 1 = .ok (.getfield 10, 3) := by decide +kernel
theorem dX10_forLane_4 : decode cX10_forLane 4 = .ok (.invokevirtual 116, 3) := by decide +kernel
theorem dX10_forLane_7 : decode cX10_forLane 7 = .ok (.ifCond .eq 6, 3) := by decide +kernel
theorem dX10_forLane_10 : decode cX10_forLane 10 = .ok (.bipush (-3), 2) := by decide +kernel
theorem dX10_forLane_12 : decode cX10_forLane 12 = .ok (.ireturn, 1) := by decide +kernel
theorem dX10_forLane_13 : decode cX10_forLane 13 = .ok (.aload_n 0, 1) := by decide +kernel
theorem dX10_forLane_14 : decode cX10_forLane 14 = .ok (.getfield 16, 3) := by decide +kernel
theorem dX10_forLane_17 : decode cX10_forLane 17 = .ok (.aload_n 0, 1) := by decide +kernel
theorem dX10_forLane_18 : decode cX10_forLane 18 = .ok (.getfield 10, 3) := by decide +kernel
theorem dX10_forLane_21 : decode cX10_forLane 21 = .ok (.invokevirtual 59, 3) := by decide +kernel
theorem dX10_forLane_24 : decode cX10_forLane 24 = .ok (.bipush (-4), 2) := by decide +kernel
theorem dX10_forLane_26 : decode cX10_forLane 26 = .ok (.istore_n 1, 1) := by decide +kernel
theorem dX10_forLane_27 : decode cX10_forLane 27 = .ok (.bipush 13, 2) := by decide +kernel
theorem dX10_forLane_29 : decode cX10_forLane 29 = .ok (.istore_n 2, 1) := by decide +kernel
theorem dX10_forLane_30 : decode cX10_forLane 30 = .ok (.iconst 1, 1) := by decide +kernel
theorem dX10_forLane_31 : decode cX10_forLane 31 = .ok (.istore_n 3, 1) := by decide +kernel
theorem dX10_forLane_32 : decode cX10_forLane 32 = .ok (.iload_n 3, 1) := by decide +kernel
theorem dX10_forLane_33 : decode cX10_forLane 33 = .ok (.sipush 4095, 3) := by decide +kernel
theorem dX10_forLane_36 : decode cX10_forLane 36 = .ok (.if_icmp .gt 44, 3) := by decide +kernel
theorem dX10_forLane_39 : decode cX10_forLane 39 = .ok (.iload_n 3, 1) := by decide +kernel
theorem dX10_forLane_40 : decode cX10_forLane 40 = .ok (.invokestatic 166, 3) := by decide +kernel
theorem dX10_forLane_43 : decode cX10_forLane 43 = .ok (.istore 4, 2) := by decide +kernel
theorem dX10_forLane_45 : decode cX10_forLane 45 = .ok (.iload 4, 2) := by decide +kernel
theorem dX10_forLane_47 : decode cX10_forLane 47 = .ok (.iload_n 2, 1) := by decide +kernel
theorem dX10_forLane_48 : decode cX10_forLane 48 = .ok (.if_icmp .ge 26, 3) := by decide +kernel
theorem dX10_forLane_51 : decode cX10_forLane 51 = .ok (.aload_n 0, 1) := by decide +kernel
theorem dX10_forLane_52 : decode cX10_forLane 52 = .ok (.iload_n 3, 1) := by decide +kernel
theorem dX10_forLane_53 : decode cX10_forLane 53 = .ok (.invokevirtual 160, 3) := by decide +kernel
theorem dX10_forLane_56 : decode cX10_forLane 56 = .ok (.aload_n 0, 1) := by decide +kernel
theorem dX10_forLane_57 : decode cX10_forLane 57 = .ok (.getfield 10, 3) := by decide +kernel
theorem dX10_forLane_60 : decode cX10_forLane 60 = .ok (.getfield 120, 3) := by decide +kernel
theorem dX10_forLane_63 : decode cX10_forLane 63 = .ok (.bipush 6, 2) := by decide +kernel
theorem dX10_forLane_65 : decode cX10_forLane 65 = .ok (.iaload, 1) := by decide +kernel
theorem dX10_forLane_66 : decode cX10_forLane 66 = .ok (.if_icmp .ne 8, 3) := by decide +kernel
theorem dX10_forLane_69 : decode cX10_forLane 69 = .ok (.iload_n 3, 1) := by decide +kernel
theorem dX10_forLane_70 : decode cX10_forLane 70 = .ok (.istore_n 1, 1) := by decide +kernel
theorem dX10_forLane_71 : decode cX10_forLane 71 = .ok (.iload 4, 2) := by decide +kernel
theorem dX10_forLane_73 : decode cX10_forLane 73 = .ok (.istore_n 2, 1) := by decide +kernel
theorem dX10_forLane_74 : decode cX10_forLane 74 = .ok (.iinc 3 1, 3) := by decide +kernel
theorem dX10_forLane_77 : decode cX10_forLane 77 = .ok (.goto (-45), 3) := by decide +kernel
theorem dX10_forLane_80 : decode cX10_forLane 80 = .ok (.iload_n 1, 1) := by decide +kernel
theorem dX10_forLane_81 : decode cX10_forLane 81 = .ok (.ireturn, 1) := by decide +kernel
/-! X10 forLane -/
def X10_forLane_p74 (k32 : XS → Int32 → Int32 → Int32 → Option (Int32 × XS)) (xs : XS) (v1 : Int32) (v2 : Int32) (v3 : Int32) : Option (Int32 × XS) :=
    nm (v3 + (1 : Int32)) fun x_1 =>
    k32 xs v1 v2 x_1
def X10_forLane_p80 (xs : XS) (v1 : Int32) : Option (Int32 × XS) :=
    some (v1, xs)
def X10_forLane_p32 : Nat → XS → Int32 → Int32 → Int32 → Option (Int32 × XS)
  | 0, _, _, _, _ => none
  | n + 1, xs, v1, v2, v3 =>
    if (4095 : Int32) < v3 then
      (X10_forLane_p80 xs v1)
    else
    bd1 (J6_bitCount_0f7a4 v3) fun y_3 =>
    if v2 ≤ y_3 then
      (X10_forLane_p74 (fun xs v1 v2 v3 => X10_forLane_p32 n xs v1 v2 v3) xs v1 v2 v3)
    else
    bnd (X10_fallsWithout xs v3) fun y_6 xs_7 =>
    inr (6 : Int32) 7 <|
    if y_6 = (gA (xT xs_7 0) 3 (6 : Int32).toNatClampNeg) then
      (X10_forLane_p74 (fun xs v1 v2 v3 => X10_forLane_p32 n xs v1 v2 v3) xs_7 v3 y_3 v3)
    else
    X10_forLane_p74 (fun xs v1 v2 v3 => X10_forLane_p32 n xs v1 v2 v3) xs_7 v1 v2 v3
theorem X10_forLane_p32_s (n : Nat) (xs : XS) (v1 : Int32) (v2 : Int32) (v3 : Int32) : X10_forLane_p32 (n + 1) xs v1 v2 v3 =
    (if (4095 : Int32) < v3 then
      (X10_forLane_p80 xs v1)
    else
    bd1 (J6_bitCount_0f7a4 v3) fun y_3 =>
    if v2 ≤ y_3 then
      (X10_forLane_p74 (fun xs v1 v2 v3 => X10_forLane_p32 n xs v1 v2 v3) xs v1 v2 v3)
    else
    bnd (X10_fallsWithout xs v3) fun y_6 xs_7 =>
    inr (6 : Int32) 7 <|
    if y_6 = (gA (xT xs_7 0) 3 (6 : Int32).toNatClampNeg) then
      (X10_forLane_p74 (fun xs v1 v2 v3 => X10_forLane_p32 n xs v1 v2 v3) xs_7 v3 y_3 v3)
    else
    X10_forLane_p74 (fun xs v1 v2 v3 => X10_forLane_p32 n xs v1 v2 v3) xs_7 v1 v2 v3) := rfl
def X10_forLane (xs : XS) : Option (Int32 × XS) :=
    bnd (X8_isDown (xT xs 0)) fun y_13 st_14 =>
    nm (uT xs 0 st_14) fun xs_16 =>
    if y_13 = 0 then
      (bnd (X8_takeFrom_1_0 xs_16) fun _ xs_18 =>
      X10_forLane_p32 4097 xs_18 (-4 : Int32) (13 : Int32) (1 : Int32))
    else
    some ((-3 : Int32), xs_16)
abbrev rmX10_forLane : Room := { frames := 5, cells := 0, slots := 0, locals := 115 }
theorem hdX10_forLane : yX10_forLane.cls = RX10 ∧ yX10_forLane.cls ≠ "java/lang/invoke/MethodHandle" ∧ yX10_forLane.cls ≠ "java/lang/invoke/VarHandle" ∧ (parseMethodDescriptor yX10_forLane.desc).map (fun d => d.parameters.length) = some 0 := by decide +kernel
set_option maxRecDepth 100000 in
set_option maxHeartbeats 8000000 in
theorem okX10_forLane (z : Nat → Nat) (l : Launch) (D : va_G) (T : mT3) (b : Nat → Nat) {xa : XA} {xs : XS} {r : Int32} {xs' : XS} (hR : xRel b xa xs) (heq : X10_forLane xs = some (r, xs')) : hXi xSub z l D T b yX10_forLane wsX10_forLane rmX10_forLane [.ref (b 0)] xa xs r xs' := by
  refine xbody_i (plainFor_of_name (by decide)) rfl (Nat.le_of_ble_eq_true rfl) (fun p e s m args below meth c A Q hx hb hml hown hts hK hA hX hret ls hP hD hS hl => ?_)
  have hl : lv_has ls 5 [(0, .ref (b 0))] := hl
  have hin10 : ∀ w ∈ wsX100, w ∈ wsX10_forLane := by decide +kernel
  have hin8 : ∀ w ∈ wsX80, w ∈ wsX10_forLane := by decide +kernel
  have f10 : (Cond.fieldLink RX10 10 RX10 (TX10 0).2.1 (TX10 0).2.2.1).before args s = true := hts (.fieldLink RX10 10 RX10 "now" "LLaidDownTheLane$Town;") (by decide +kernel)
  have f16 : (Cond.fieldLink RX10 16 RX10 (TX10 1).2.1 (TX10 1).2.2.1).before args s = true := hts (.fieldLink RX10 16 RX10 "trial" "LLaidDownTheLane$Town;") (by decide +kernel)
  have f120 : (Cond.fieldLink RX10 120 RX8 (TX8 3).2.1 (TX8 3).2.2.1).before args s = true := hts (.fieldLink RX10 120 RX8 "told" "[I") (by decide +kernel)
  obtain ⟨xa0, hxa0⟩ : ∃ z : XA, z = xa := ⟨_, rfl⟩
  rw [← hxa0] at hret
  have hU : xSub xa0 xa := by rw [hxa0]; exact xSub.rf
  clear hxa0
  have b74 : ∀ (k32 : XS → Int32 → Int32 → Int32 → Option (Int32 × XS)) (hk32 : ∀ (xs : XS) (v1 : Int32) (v2 : Int32) (v3 : Int32) (xa : XA) (H : Heap) (locs : List Loc) (ls : Array Slot), xRel b xa xs → xSub xa0 xa → va_P D vwCl (xW b T xa xs) H → va_D A (xW b T xa xs) → va_S A s.heap H locs → lv_has ls 5 [(0, .ref (b 0)), (1, .int v1), (2, .int v2), (3, .int v3)] → k32 xs v1 v2 v3 = some (r, xs') → W p l e rmX10_forLane s m args below meth c H locs 0 0 Q (F0 m 32 ls [])), ∀ (xs : XS) (v1 : Int32) (v2 : Int32) (v3 : Int32) (xa : XA) (H : Heap) (locs : List Loc) (ls : Array Slot), xRel b xa xs → xSub xa0 xa → va_P D vwCl (xW b T xa xs) H → va_D A (xW b T xa xs) → va_S A s.heap H locs → lv_has ls 5 [(0, .ref (b 0)), (1, .int v1), (2, .int v2), (3, .int v3)] → X10_forLane_p74 k32 xs v1 v2 v3 = some (r, xs') → W p l e rmX10_forLane s m args below meth c H locs 0 0 Q (F0 m 74 ls []) := by
    intro k32 hk32 xs v1 v2 v3 xa H locs ls hR hU hP hD hS hl heq
    unfold X10_forLane_p74 at heq
    obtain ⟨x_1, ex_1⟩ : ∃ y : Int32, y = v3 + (1 : Int32) := ⟨_, rfl⟩
    have heq := nm_h ex_1 heq
    refine lv_iinc (v := x_1) (lv' := [(3, .int x_1), (0, .ref (b 0)), (1, .int v1), (2, .int v2)]) hx hb dX10_forLane_74 hl (k := 3) rfl (by rw [ex_1]; rfl) (by decide) rfl (fun ls hl => ?_)
    refine lv_goto (tgt := 32) hx hb dX10_forLane_77 (by decide) ?_
    exact hk32 xs v1 v2 x_1 xa H locs ls hR hU hP hD hS (lv_sub hl [1, 2, 3, 0] rfl) heq
  have b80 : ∀ (xs : XS) (v1 : Int32) (xa : XA) (H : Heap) (locs : List Loc) (ls : Array Slot), xRel b xa xs → xSub xa0 xa → va_P D vwCl (xW b T xa xs) H → va_D A (xW b T xa xs) → va_S A s.heap H locs → lv_has ls 5 [(1, .int v1)] → X10_forLane_p80 xs v1 = some (r, xs') → W p l e rmX10_forLane s m args below meth c H locs 0 0 Q (F0 m 80 ls []) := by
    intro xs v1 xa H locs ls hR hU hP hD hS hl heq
    unfold X10_forLane_p80 at heq
    refine lv_iload_n hx hb dX10_forLane_80 rfl (lv_at hl 0 rfl) ?_
    obtain ⟨heq, heq2⟩ := ret_h heq
    subst heq
    subst heq2
    exact hret 81 H locs ls xa hR hU hP hD hS rfl dX10_forLane_81
  have b32 : ∀ (n : Nat), ∀ (xs : XS) (v1 : Int32) (v2 : Int32) (v3 : Int32) (xa : XA) (H : Heap) (locs : List Loc) (ls : Array Slot), xRel b xa xs → xSub xa0 xa → va_P D vwCl (xW b T xa xs) H → va_D A (xW b T xa xs) → va_S A s.heap H locs → lv_has ls 5 [(0, .ref (b 0)), (1, .int v1), (2, .int v2), (3, .int v3)] → X10_forLane_p32 n xs v1 v2 v3 = some (r, xs') → W p l e rmX10_forLane s m args below meth c H locs 0 0 Q (F0 m 32 ls []) := by
    intro n
    induction n with
    | zero => intro xs v1 v2 v3 xa H locs ls hR hU hP hD hS hl heq; cases heq
    | succ n ih =>
      intro xs v1 v2 v3 xa H locs ls hR hU hP hD hS hl heq
      rw [X10_forLane_p32_s] at heq
      refine lv_iload_n hx hb dX10_forLane_32 rfl (lv_at hl 3 rfl) ?_
      refine lv_sipush (v := (4095 : Int32)) hx hb dX10_forLane_33 (by decide) ?_
      refine lv_icmp_gt (tgt := 80) hx hb dX10_forLane_36 (by decide) (fun c_2 => ?_) (fun c_2 => ?_)
      · have heq := it_t c_2 heq
        exact b80 xs v1 xa H locs ls hR hU hP hD hS (lv_sub hl [1] rfl) heq
      have heq := it_f c_2 heq
      refine lv_iload_n hx hb dX10_forLane_39 rfl (lv_at hl 3 rfl) ?_
      obtain ⟨y_3, h_4, heq⟩ := bd1_h heq
      refine h_si (own := RX10) (As := [.int v3]) (rest := []) (w0 := []) (w1 := []) (wr := xW b T xa xs) hx hb hml hown hts (okJ6_bitCount_0f7a4 z l D h_4) (va_cwS 1 hts gX10_forLane_J6_bitCount_0f7a4 rfl rfl rfl (hdJ6_bitCount_0f7a4).2 ⟨Nat.le_of_ble_eq_true rfl, Nat.le_of_ble_eq_true rfl⟩) (hK.sub [] rfl) hA hX hP hD hS (List.Perm.refl _) (List.Perm.refl _) rfl hl.1 rfl (Nat.le_of_ble_eq_true rfl) dX10_forLane_40 ⟨Nat.le_of_ble_eq_true rfl, Nat.le_of_ble_eq_true rfl⟩ (fun H locs hP hD hS => ?_)
      refine lv_istore (lv' := [(4, .int y_3), (0, .ref (b 0)), (1, .int v1), (2, .int v2), (3, .int v3)]) hx hb dX10_forLane_43 hl (by decide) rfl (fun ls hl => ?_)
      refine lv_iload hx hb dX10_forLane_45 (lv_at hl 0 rfl) ?_
      refine lv_iload_n hx hb dX10_forLane_47 rfl (lv_at hl 3 rfl) ?_
      refine lv_icmp_ge (tgt := 74) hx hb dX10_forLane_48 (by decide) (fun c_5 => ?_) (fun c_5 => ?_)
      · have heq := it_t c_5 heq
        exact b74 (fun xs v1 v2 v3 => X10_forLane_p32 n xs v1 v2 v3) ih xs v1 v2 v3 xa H locs ls hR hU hP hD hS (lv_sub hl [1, 2, 3, 4] rfl) heq
      have heq := it_f c_5 heq
      refine lv_aload_n hx hb dX10_forLane_51 rfl (lv_at hl 1 rfl) ?_
      refine lv_iload_n hx hb dX10_forLane_52 rfl (lv_at hl 4 rfl) ?_
      obtain ⟨y_6, xs_7, h_8, heq⟩ := bnd_h heq
      refine x_vi (own := RX10) (As := [.int v3]) (rest := []) hx hb hml hown hts (okX10_fallsWithout z l D T b hR h_8) (cwV 1 hts gX10_forLane_X10_fallsWithout rfl rfl rfl hdX10_fallsWithout ⟨Nat.le_of_ble_eq_true rfl, Nat.le_of_ble_eq_true rfl⟩) hK hA hX hP hD hS (ci := 10) (q0 := 0) rfl rfl rfl hl.1 rfl (Nat.le_of_ble_eq_true rfl) dX10_forLane_53 ⟨Nat.le_of_ble_eq_true rfl, Nat.le_of_ble_eq_true rfl⟩ (fun xa_9 H locs hR hsxa_9 hP hD hS => ?_)
      have hU := xSub.tr hU hsxa_9
      refine lv_aload_n hx hb dX10_forLane_56 rfl (lv_at hl 1 rfl) ?_
      refine va_get (D := D) (ci := 10) (v := .ref (b 3)) (C := RX10) (T := TX10) (N := 7) hx hb hts hin10 hown hK hP 0 rfl rfl 0 (by decide) f10 (fun _ h9 => h9) rfl dX10_forLane_57 ?_
      refine va_get (D := D) (ci := 8) (v := .ref (b 7)) (C := RX8) (T := TX8) (N := 10) hx hb hts hin8 hown hK hP 3 rfl rfl 3 (by decide) f120 (fun _ h9 => h9) rfl dX10_forLane_60 ?_
      refine lv_bipush (v := (6 : Int32)) hx hb dX10_forLane_63 (by decide) ?_
      obtain ⟨n_11, heq⟩ := inr_h heq
      refine va_iald (f := gA (xT xs_7 0) 3) (n := 7) hx hb hK hP 7 0 rfl rfl n_11 dX10_forLane_65 ?_
      refine lv_icmp_ne (tgt := 74) hx hb dX10_forLane_66 (by decide) (fun c_12 => ?_) (fun c_12 => ?_)
      · have heq := it_f c_12 heq
        exact b74 (fun xs v1 v2 v3 => X10_forLane_p32 n xs v1 v2 v3) ih xs_7 v1 v2 v3 xa_9 H locs ls hR hU hP hD hS (lv_sub hl [1, 2, 3, 4] rfl) heq
      have heq := it_t c_12 heq
      refine lv_iload_n hx hb dX10_forLane_69 rfl (lv_at hl 4 rfl) ?_
      refine lv_istore_n (lv' := [(1, .int v3), (4, .int y_3), (0, .ref (b 0)), (2, .int v2), (3, .int v3)]) hx hb dX10_forLane_70 rfl hl (by decide) rfl (fun ls hl => ?_)
      refine lv_iload hx hb dX10_forLane_71 (lv_at hl 1 rfl) ?_
      refine lv_istore_n (lv' := [(2, .int y_3), (1, .int v3), (4, .int y_3), (0, .ref (b 0)), (3, .int v3)]) hx hb dX10_forLane_73 rfl hl (by decide) rfl (fun ls hl => ?_)
      exact b74 (fun xs v1 v2 v3 => X10_forLane_p32 n xs v1 v2 v3) ih xs_7 v3 y_3 v3 xa_9 H locs ls hR hU hP hD hS (lv_sub hl [3, 1, 0, 4] rfl) heq
  obtain ⟨H, hH⟩ : ∃ H, H = s.heap := ⟨_, rfl⟩
  obtain ⟨locs, hlocs⟩ : ∃ z : List Loc, z = [] := ⟨_, rfl⟩
  have hS : va_S A s.heap H locs := by rw [hH, hlocs]; exact hS
  have hP : va_P D vwCl (xW b T xa xs) H := by rw [hH]; exact hP
  suffices h9 : W p l e rmX10_forLane s m args below meth c H locs 0 0 Q (F0 m 0 ls []) by rw [hH, hlocs] at h9; exact h9
  clear hH hlocs
  unfold X10_forLane at heq
  refine lv_aload_n hx hb dX10_forLane_0 rfl (lv_at hl 0 rfl) ?_
  refine va_get (D := D) (ci := 10) (v := .ref (b 3)) (C := RX10) (T := TX10) (N := 7) hx hb hts hin10 hown hK hP 0 rfl rfl 0 (by decide) f10 (fun _ h9 => h9) rfl dX10_forLane_1 ?_
  obtain ⟨y_13, st_14, h_15, heq⟩ := bnd_h heq
  refine h_vi (own := RX10) (As := []) (rest := []) (wr := xWr0 b T xa xs) hx hb hml hown hts (okX8_isDown z l D (fun j => b (3 + j)) T (fun j => some (xFo xa 0 j)) h_15) (cwV 0 hts gX10_forLane_X8_isDown rfl rfl rfl hdX8_isDown ⟨Nat.le_of_ble_eq_true rfl, Nat.le_of_ble_eq_true rfl⟩) hK hA hX hP hD hS (xp0 b T xa xs) (xq0 b T xa xs _) (ci := 8) (q0 := 0) rfl rfl rfl hl.1 rfl (Nat.le_of_ble_eq_true rfl) dX10_forLane_4 ⟨Nat.le_of_ble_eq_true rfl, Nat.le_of_ble_eq_true rfl⟩ (fun H locs hP hD hS => ?_)
  obtain ⟨xs_16, exs_16⟩ : ∃ z, z = uT xs 0 st_14 := ⟨_, rfl⟩
  have hR : xRel b xa (uT xs 0 st_14) := hR.uT _ _
  rw [← exs_16] at hP hD hR
  have heq := nm_h exs_16 heq
  refine lv_if_eq (tgt := 13) hx hb dX10_forLane_7 (by decide) (fun c_17 => ?_) (fun c_17 => ?_)
  · have heq := it_t c_17 heq
    refine lv_aload_n hx hb dX10_forLane_13 rfl (lv_at hl 0 rfl) ?_
    refine va_get (D := D) (ci := 10) (v := .ref (b 10)) (C := RX10) (T := TX10) (N := 7) hx hb hts hin10 hown hK hP 0 rfl rfl 1 (by decide) f16 (fun _ h9 => h9) rfl dX10_forLane_14 ?_
    refine lv_aload_n hx hb dX10_forLane_17 rfl (lv_at hl 0 rfl) ?_
    refine va_get (D := D) (ci := 10) (v := .ref (b 3)) (C := RX10) (T := TX10) (N := 7) hx hb hts hin10 hown hK hP 0 rfl rfl 0 (by decide) f10 (fun _ h9 => h9) rfl dX10_forLane_18 ?_
    obtain ⟨⟨⟩, xs_18, h_19, heq⟩ := bnd_h heq
    refine x_vv (own := RX10) (As := [.ref (b 3)]) (rest := []) hx hb hml hown hts (okX8_takeFrom_1_0 z l D T b hR h_19) (cwV 1 hts gX10_forLane_X8_takeFrom rfl rfl rfl hdX8_takeFrom ⟨Nat.le_of_ble_eq_true rfl, Nat.le_of_ble_eq_true rfl⟩) hK hA hX hP hD hS (ci := 8) (q0 := 10) rfl rfl rfl hl.1 rfl (Nat.le_of_ble_eq_true rfl) dX10_forLane_21 ⟨Nat.le_of_ble_eq_true rfl, Nat.le_of_ble_eq_true rfl⟩ (fun xa_20 H locs hR hsxa_20 hP hD hS => ?_)
    have hU := xSub.tr hU hsxa_20
    refine lv_bipush (v := (-4 : Int32)) hx hb dX10_forLane_24 (by decide) ?_
    refine lv_istore_n (lv' := [(1, .int (-4 : Int32)), (0, .ref (b 0))]) hx hb dX10_forLane_26 rfl hl (by decide) rfl (fun ls hl => ?_)
    refine lv_bipush (v := (13 : Int32)) hx hb dX10_forLane_27 (by decide) ?_
    refine lv_istore_n (lv' := [(2, .int (13 : Int32)), (1, .int (-4 : Int32)), (0, .ref (b 0))]) hx hb dX10_forLane_29 rfl hl (by decide) rfl (fun ls hl => ?_)
    refine lv_iconst (v := (1 : Int32)) hx hb dX10_forLane_30 (by decide) ?_
    refine lv_istore_n (lv' := [(3, .int (1 : Int32)), (2, .int (13 : Int32)), (1, .int (-4 : Int32)), (0, .ref (b 0))]) hx hb dX10_forLane_31 rfl hl (by decide) rfl (fun ls hl => ?_)
    exact b32 4097 xs_18 (-4 : Int32) (13 : Int32) (1 : Int32) xa_20 H locs ls hR hU hP hD hS (lv_sub hl [3, 2, 1, 0] rfl) heq
  have heq := it_f c_17 heq
  refine lv_bipush (v := (-3 : Int32)) hx hb dX10_forLane_10 (by decide) ?_
  obtain ⟨heq, heq2⟩ := ret_h heq
  subst heq
  subst heq2
  exact hret 12 H locs ls xa hR hU hP hD hS rfl dX10_forLane_12
set_option maxRecDepth 20000 in
theorem ggX10_lastInOrder_X8_takeFrom : GoodIn wsX10_lastInOrder wsX8_takeFrom := goodIn_r _ [7, 8, 9, 10, 11, 12, 13, 14, 15, 16, 17, 135, 136, 137, 138, 139, 140, 141, 142, 143, 144] (by decide +kernel) (by decide +kernel)
set_option maxRecDepth 20000 in
theorem gX10_lastInOrder_X8_takeFrom : GoodIn wsX10_lastInOrder (wsV RX10 59 RX8 yX8_takeFrom wsX8_takeFrom) := goodIn_app (goodIn_of _ (by decide +kernel)) ggX10_lastInOrder_X8_takeFrom
set_option maxRecDepth 20000 in
theorem ggX10_lastInOrder_X10_fallsWithout : GoodIn wsX10_lastInOrder wsX10_fallsWithout := goodIn_r _ [22, 1, 23, 24, 25, 26, 21, 27, 28, 2, 29, 30, 31, 32, 6, 33, 8, 9, 10, 34, 35, 36, 37, 38, 39, 40, 41, 42, 43, 44, 45, 46, 47, 48, 49, 50, 51, 52, 53, 54, 55, 56, 57, 58, 59, 60, 61, 62, 63, 64, 65, 66, 67, 68, 69, 70, 71, 72, 73, 74, 75, 76, 77, 78, 79, 80, 81, 82, 83, 84, 85, 86, 87, 88, 89, 90, 91, 92, 93, 94, 95, 96, 97, 98, 99, 100, 101, 102, 103, 104, 105, 106, 107, 108, 109, 110, 111, 112, 113, 114, 115, 116, 11, 117, 118, 119, 120, 121, 122, 123, 124, 125, 126, 127, 128, 129, 130, 131, 132, 133, 134, 135, 136, 137, 138, 139, 140, 141, 142, 143, 144, 145, 146, 147, 148, 149, 150, 151, 152] (by decide +kernel) (by decide +kernel)
set_option maxRecDepth 20000 in
theorem gX10_lastInOrder_X10_fallsWithout : GoodIn wsX10_lastInOrder (wsV RX10 160 RX10 yX10_fallsWithout wsX10_fallsWithout) := goodIn_app (goodIn_of _ (by decide +kernel)) ggX10_lastInOrder_X10_fallsWithout
theorem dX10_lastInOrder_0 : decode cX10_lastInOrder 0 = .ok (.aload_n 0, 1) := by decide +kernel
theorem dX10_lastInOrder_1 : decode cX10_lastInOrder 1 = .ok (.getfield 16, 3) := by decide +kernel
theorem dX10_lastInOrder_4 : decode cX10_lastInOrder 4 = .ok (.aload_n 0, 1) := by decide +kernel
theorem dX10_lastInOrder_5 : decode cX10_lastInOrder 5 = .ok (.getfield 10, 3) := by decide +kernel
theorem dX10_lastInOrder_8 : decode cX10_lastInOrder 8 = .ok (.invokevirtual 59, 3) := by decide +kernel
theorem dX10_lastInOrder_11 : decode cX10_lastInOrder 11 = .ok (.bipush 11, 2) := by decide +kernel
theorem dX10_lastInOrder_13 : decode cX10_lastInOrder 13 = .ok (.istore_n 2, 1) := by decide +kernel
theorem dX10_lastInOrder_14 : decode cX10_lastInOrder 14 = .ok (.iload_n 2, 1) := by decide +kernel
theorem dX10_lastInOrder_15 : decode cX10_lastInOrder 15 = .ok (.ifCond .lt 36, 3) := by decide +kernel
theorem dX10_lastInOrder_18 : decode cX10_lastInOrder 18 = .ok (.iload_n 1, 1) := by decide +kernel
theorem dX10_lastInOrder_19 : decode cX10_lastInOrder 19 = .ok (.iload_n 2, 1) := by decide +kernel
theorem dX10_lastInOrder_20 : decode cX10_lastInOrder 20 = .ok (.ishr, 1) := by decide +kernel
theorem dX10_lastInOrder_21 : decode cX10_lastInOrder 21 = .ok (.iconst 1, 1) := by decide +kernel
theorem dX10_lastInOrder_22 : decode cX10_lastInOrder 22 = .ok (.iand, 1) := by decide +kernel
theorem dX10_lastInOrder_23 : decode cX10_lastInOrder 23 = .ok (.iconst 1, 1) := by decide +kernel
theorem dX10_lastInOrder_24 : decode cX10_lastInOrder 24 = .ok (.if_icmp .ne 21, 3) := by decide +kernel
theorem dX10_lastInOrder_27 : decode cX10_lastInOrder 27 = .ok (.aload_n 0, 1) := by decide +kernel
theorem dX10_lastInOrder_28 : decode cX10_lastInOrder 28 = .ok (.iload_n 1, 1) := by decide +kernel
theorem dX10_lastInOrder_29 : decode cX10_lastInOrder 29 = .ok (.iconst 1, 1) := by decide +kernel
theorem dX10_lastInOrder_30 : decode cX10_lastInOrder 30 = .ok (.iload_n 2, 1) := by decide +kernel
theorem dX10_lastInOrder_31 : decode cX10_lastInOrder 31 = .ok (.ishl, 1) := by decide +kernel
theorem dX10_lastInOrder_32 : decode cX10_lastInOrder 32 = .ok (.iconst (-1), 1) := by decide +kernel
theorem dX10_lastInOrder_33 : decode cX10_lastInOrder 33 = .ok (.ixor, 1) := by decide +kernel
theorem dX10_lastInOrder_34 : decode cX10_lastInOrder 34 = .ok (.iand, 1) := by decide +kernel
theorem dX10_lastInOrder_35 : decode cX10_lastInOrder 35 = .ok (.invokevirtual 160, 3) := by decide +kernel
theorem dX10_lastInOrder_38 : decode cX10_lastInOrder 38 = .ok (.bipush (-4), 2) := by decide +kernel
theorem dX10_lastInOrder_40 : decode cX10_lastInOrder 40 = .ok (.if_icmp .ne 5, 3) := by decide +kernel
theorem dX10_lastInOrder_43 : decode cX10_lastInOrder 43 = .ok (.iload_n 2, 1) := by decide +kernel
theorem dX10_lastInOrder_44 : decode cX10_lastInOrder 44 = .ok (.ireturn, 1) := by decide +kernel
theorem dX10_lastInOrder_45 : decode cX10_lastInOrder 45 = .ok (.iinc 2 (-1), 3) := by decide +kernel
theorem dX10_lastInOrder_48 : decode cX10_lastInOrder 48 = .ok (.goto (-34), 3) := by decide +kernel
theorem dX10_lastInOrder_51 : decode cX10_lastInOrder 51 = .ok (.bipush (-4), 2) := by decide +kernel
theorem dX10_lastInOrder_53 : decode cX10_lastInOrder 53 = .ok (.ireturn, 1) := by decide +kernel
/-! X10 lastInOrder -/
def X10_lastInOrder_p43 (xs : XS) (v2 : Int32) : Option (Int32 × XS) :=
    some (v2, xs)
def X10_lastInOrder_p45 (k14 : XS → Int32 → Int32 → Option (Int32 × XS)) (xs : XS) (v1 : Int32) (v2 : Int32) : Option (Int32 × XS) :=
    nm (v2 + (-1 : Int32)) fun x_1 =>
    k14 xs v1 x_1
def X10_lastInOrder_p14 : Nat → XS → Int32 → Int32 → Option (Int32 × XS)
  | 0, _, _, _ => none
  | n + 1, xs, v1, v2 =>
    if v2 < 0 then
      (some ((-4 : Int32), xs))
    else
    if ((v1 >>> (v2 &&& 31)) &&& (1 : Int32)) = (1 : Int32) then
      (bnd (X10_fallsWithout xs (v1 &&& (((1 : Int32) <<< (v2 &&& 31)) ^^^ (-1 : Int32)))) fun y_4 xs_5 =>
      if y_4 = (-4 : Int32) then
        (X10_lastInOrder_p43 xs_5 v2)
      else
      X10_lastInOrder_p45 (fun xs v1 v2 => X10_lastInOrder_p14 n xs v1 v2) xs_5 v1 v2)
    else
    X10_lastInOrder_p45 (fun xs v1 v2 => X10_lastInOrder_p14 n xs v1 v2) xs v1 v2
theorem X10_lastInOrder_p14_s (n : Nat) (xs : XS) (v1 : Int32) (v2 : Int32) : X10_lastInOrder_p14 (n + 1) xs v1 v2 =
    (if v2 < 0 then
      (some ((-4 : Int32), xs))
    else
    if ((v1 >>> (v2 &&& 31)) &&& (1 : Int32)) = (1 : Int32) then
      (bnd (X10_fallsWithout xs (v1 &&& (((1 : Int32) <<< (v2 &&& 31)) ^^^ (-1 : Int32)))) fun y_4 xs_5 =>
      if y_4 = (-4 : Int32) then
        (X10_lastInOrder_p43 xs_5 v2)
      else
      X10_lastInOrder_p45 (fun xs v1 v2 => X10_lastInOrder_p14 n xs v1 v2) xs_5 v1 v2)
    else
    X10_lastInOrder_p45 (fun xs v1 v2 => X10_lastInOrder_p14 n xs v1 v2) xs v1 v2) := rfl
def X10_lastInOrder (xs : XS) (v1 : Int32) : Option (Int32 × XS) :=
    bnd (X8_takeFrom_1_0 xs) fun _ xs_10 =>
    X10_lastInOrder_p14 5000 xs_10 v1 (11 : Int32)
abbrev rmX10_lastInOrder : Room := { frames := 5, cells := 0, slots := 0, locals := 115 }
theorem hdX10_lastInOrder : yX10_lastInOrder.cls = RX10 ∧ yX10_lastInOrder.cls ≠ "java/lang/invoke/MethodHandle" ∧ yX10_lastInOrder.cls ≠ "java/lang/invoke/VarHandle" ∧ (parseMethodDescriptor yX10_lastInOrder.desc).map (fun d => d.parameters.length) = some 1 := by decide +kernel
set_option maxRecDepth 100000 in
set_option maxHeartbeats 8000000 in
theorem okX10_lastInOrder (z : Nat → Nat) (l : Launch) (D : va_G) (T : mT3) (b : Nat → Nat) {xa : XA} {xs : XS} {v1 : Int32} {r : Int32} {xs' : XS} (hR : xRel b xa xs) (heq : X10_lastInOrder xs v1 = some (r, xs')) : hXi xSub z l D T b yX10_lastInOrder wsX10_lastInOrder rmX10_lastInOrder [.ref (b 0), .int v1] xa xs r xs' := by
  refine xbody_i (plainFor_of_name (by decide)) rfl (Nat.le_of_ble_eq_true rfl) (fun p e s m args below meth c A Q hx hb hml hown hts hK hA hX hret ls hP hD hS hl => ?_)
  have hl : lv_has ls 3 [(0, .ref (b 0)), (1, .int v1)] := hl
  have hin10 : ∀ w ∈ wsX100, w ∈ wsX10_lastInOrder := by decide +kernel
  have f10 : (Cond.fieldLink RX10 10 RX10 (TX10 0).2.1 (TX10 0).2.2.1).before args s = true := hts (.fieldLink RX10 10 RX10 "now" "LLaidDownTheLane$Town;") (by decide +kernel)
  have f16 : (Cond.fieldLink RX10 16 RX10 (TX10 1).2.1 (TX10 1).2.2.1).before args s = true := hts (.fieldLink RX10 16 RX10 "trial" "LLaidDownTheLane$Town;") (by decide +kernel)
  obtain ⟨xa0, hxa0⟩ : ∃ z : XA, z = xa := ⟨_, rfl⟩
  rw [← hxa0] at hret
  have hU : xSub xa0 xa := by rw [hxa0]; exact xSub.rf
  clear hxa0
  have b43 : ∀ (xs : XS) (v2 : Int32) (xa : XA) (H : Heap) (locs : List Loc) (ls : Array Slot), xRel b xa xs → xSub xa0 xa → va_P D vwCl (xW b T xa xs) H → va_D A (xW b T xa xs) → va_S A s.heap H locs → lv_has ls 3 [(2, .int v2)] → X10_lastInOrder_p43 xs v2 = some (r, xs') → W p l e rmX10_lastInOrder s m args below meth c H locs 0 0 Q (F0 m 43 ls []) := by
    intro xs v2 xa H locs ls hR hU hP hD hS hl heq
    unfold X10_lastInOrder_p43 at heq
    refine lv_iload_n hx hb dX10_lastInOrder_43 rfl (lv_at hl 0 rfl) ?_
    obtain ⟨heq, heq2⟩ := ret_h heq
    subst heq
    subst heq2
    exact hret 44 H locs ls xa hR hU hP hD hS rfl dX10_lastInOrder_44
  have b45 : ∀ (k14 : XS → Int32 → Int32 → Option (Int32 × XS)) (hk14 : ∀ (xs : XS) (v1 : Int32) (v2 : Int32) (xa : XA) (H : Heap) (locs : List Loc) (ls : Array Slot), xRel b xa xs → xSub xa0 xa → va_P D vwCl (xW b T xa xs) H → va_D A (xW b T xa xs) → va_S A s.heap H locs → lv_has ls 3 [(0, .ref (b 0)), (1, .int v1), (2, .int v2)] → k14 xs v1 v2 = some (r, xs') → W p l e rmX10_lastInOrder s m args below meth c H locs 0 0 Q (F0 m 14 ls [])), ∀ (xs : XS) (v1 : Int32) (v2 : Int32) (xa : XA) (H : Heap) (locs : List Loc) (ls : Array Slot), xRel b xa xs → xSub xa0 xa → va_P D vwCl (xW b T xa xs) H → va_D A (xW b T xa xs) → va_S A s.heap H locs → lv_has ls 3 [(0, .ref (b 0)), (1, .int v1), (2, .int v2)] → X10_lastInOrder_p45 k14 xs v1 v2 = some (r, xs') → W p l e rmX10_lastInOrder s m args below meth c H locs 0 0 Q (F0 m 45 ls []) := by
    intro k14 hk14 xs v1 v2 xa H locs ls hR hU hP hD hS hl heq
    unfold X10_lastInOrder_p45 at heq
    obtain ⟨x_1, ex_1⟩ : ∃ y : Int32, y = v2 + (-1 : Int32) := ⟨_, rfl⟩
    have heq := nm_h ex_1 heq
    refine lv_iinc (v := x_1) (lv' := [(2, .int x_1), (0, .ref (b 0)), (1, .int v1)]) hx hb dX10_lastInOrder_45 hl (k := 2) rfl (by rw [ex_1]; rfl) (by decide) rfl (fun ls hl => ?_)
    refine lv_goto (tgt := 14) hx hb dX10_lastInOrder_48 (by decide) ?_
    exact hk14 xs v1 x_1 xa H locs ls hR hU hP hD hS (lv_sub hl [1, 2, 0] rfl) heq
  have b14 : ∀ (n : Nat), ∀ (xs : XS) (v1 : Int32) (v2 : Int32) (xa : XA) (H : Heap) (locs : List Loc) (ls : Array Slot), xRel b xa xs → xSub xa0 xa → va_P D vwCl (xW b T xa xs) H → va_D A (xW b T xa xs) → va_S A s.heap H locs → lv_has ls 3 [(0, .ref (b 0)), (1, .int v1), (2, .int v2)] → X10_lastInOrder_p14 n xs v1 v2 = some (r, xs') → W p l e rmX10_lastInOrder s m args below meth c H locs 0 0 Q (F0 m 14 ls []) := by
    intro n
    induction n with
    | zero => intro xs v1 v2 xa H locs ls hR hU hP hD hS hl heq; cases heq
    | succ n ih =>
      intro xs v1 v2 xa H locs ls hR hU hP hD hS hl heq
      rw [X10_lastInOrder_p14_s] at heq
      refine lv_iload_n hx hb dX10_lastInOrder_14 rfl (lv_at hl 2 rfl) ?_
      refine lv_if_lt (tgt := 51) hx hb dX10_lastInOrder_15 (by decide) (fun c_2 => ?_) (fun c_2 => ?_)
      · have heq := it_t c_2 heq
        refine lv_bipush (v := (-4 : Int32)) hx hb dX10_lastInOrder_51 (by decide) ?_
        obtain ⟨heq, heq2⟩ := ret_h heq
        subst heq
        subst heq2
        exact hret 53 H locs ls xa hR hU hP hD hS rfl dX10_lastInOrder_53
      have heq := it_f c_2 heq
      refine lv_iload_n hx hb dX10_lastInOrder_18 rfl (lv_at hl 1 rfl) ?_
      refine lv_iload_n hx hb dX10_lastInOrder_19 rfl (lv_at hl 2 rfl) ?_
      refine lv_ishr hx hb dX10_lastInOrder_20 ?_
      refine lv_iconst (v := (1 : Int32)) hx hb dX10_lastInOrder_21 (by decide) ?_
      refine lv_iand hx hb dX10_lastInOrder_22 ?_
      refine lv_iconst (v := (1 : Int32)) hx hb dX10_lastInOrder_23 (by decide) ?_
      refine lv_icmp_ne (tgt := 45) hx hb dX10_lastInOrder_24 (by decide) (fun c_3 => ?_) (fun c_3 => ?_)
      · have heq := it_f c_3 heq
        exact b45 (fun xs v1 v2 => X10_lastInOrder_p14 n xs v1 v2) ih xs v1 v2 xa H locs ls hR hU hP hD hS (lv_sub hl [0, 1, 2] rfl) heq
      have heq := it_t c_3 heq
      refine lv_aload_n hx hb dX10_lastInOrder_27 rfl (lv_at hl 0 rfl) ?_
      refine lv_iload_n hx hb dX10_lastInOrder_28 rfl (lv_at hl 1 rfl) ?_
      refine lv_iconst (v := (1 : Int32)) hx hb dX10_lastInOrder_29 (by decide) ?_
      refine lv_iload_n hx hb dX10_lastInOrder_30 rfl (lv_at hl 2 rfl) ?_
      refine lv_ishl hx hb dX10_lastInOrder_31 ?_
      refine lv_iconst (v := (-1 : Int32)) hx hb dX10_lastInOrder_32 (by decide) ?_
      refine lv_ixor hx hb dX10_lastInOrder_33 ?_
      refine lv_iand hx hb dX10_lastInOrder_34 ?_
      obtain ⟨y_4, xs_5, h_6, heq⟩ := bnd_h heq
      refine x_vi (own := RX10) (As := [.int (v1 &&& (((1 : Int32) <<< (v2 &&& 31)) ^^^ (-1 : Int32)))]) (rest := []) hx hb hml hown hts (okX10_fallsWithout z l D T b hR h_6) (cwV 1 hts gX10_lastInOrder_X10_fallsWithout rfl rfl rfl hdX10_fallsWithout ⟨Nat.le_of_ble_eq_true rfl, Nat.le_of_ble_eq_true rfl⟩) hK hA hX hP hD hS (ci := 10) (q0 := 0) rfl rfl rfl hl.1 rfl (Nat.le_of_ble_eq_true rfl) dX10_lastInOrder_35 ⟨Nat.le_of_ble_eq_true rfl, Nat.le_of_ble_eq_true rfl⟩ (fun xa_7 H locs hR hsxa_7 hP hD hS => ?_)
      have hU := xSub.tr hU hsxa_7
      refine lv_bipush (v := (-4 : Int32)) hx hb dX10_lastInOrder_38 (by decide) ?_
      refine lv_icmp_ne (tgt := 45) hx hb dX10_lastInOrder_40 (by decide) (fun c_9 => ?_) (fun c_9 => ?_)
      · have heq := it_f c_9 heq
        exact b45 (fun xs v1 v2 => X10_lastInOrder_p14 n xs v1 v2) ih xs_5 v1 v2 xa_7 H locs ls hR hU hP hD hS (lv_sub hl [0, 1, 2] rfl) heq
      have heq := it_t c_9 heq
      exact b43 xs_5 v2 xa_7 H locs ls hR hU hP hD hS (lv_sub hl [2] rfl) heq
  obtain ⟨H, hH⟩ : ∃ H, H = s.heap := ⟨_, rfl⟩
  obtain ⟨locs, hlocs⟩ : ∃ z : List Loc, z = [] := ⟨_, rfl⟩
  have hS : va_S A s.heap H locs := by rw [hH, hlocs]; exact hS
  have hP : va_P D vwCl (xW b T xa xs) H := by rw [hH]; exact hP
  suffices h9 : W p l e rmX10_lastInOrder s m args below meth c H locs 0 0 Q (F0 m 0 ls []) by rw [hH, hlocs] at h9; exact h9
  clear hH hlocs
  unfold X10_lastInOrder at heq
  refine lv_aload_n hx hb dX10_lastInOrder_0 rfl (lv_at hl 0 rfl) ?_
  refine va_get (D := D) (ci := 10) (v := .ref (b 10)) (C := RX10) (T := TX10) (N := 7) hx hb hts hin10 hown hK hP 0 rfl rfl 1 (by decide) f16 (fun _ h9 => h9) rfl dX10_lastInOrder_1 ?_
  refine lv_aload_n hx hb dX10_lastInOrder_4 rfl (lv_at hl 0 rfl) ?_
  refine va_get (D := D) (ci := 10) (v := .ref (b 3)) (C := RX10) (T := TX10) (N := 7) hx hb hts hin10 hown hK hP 0 rfl rfl 0 (by decide) f10 (fun _ h9 => h9) rfl dX10_lastInOrder_5 ?_
  obtain ⟨⟨⟩, xs_10, h_11, heq⟩ := bnd_h heq
  refine x_vv (own := RX10) (As := [.ref (b 3)]) (rest := []) hx hb hml hown hts (okX8_takeFrom_1_0 z l D T b hR h_11) (cwV 1 hts gX10_lastInOrder_X8_takeFrom rfl rfl rfl hdX8_takeFrom ⟨Nat.le_of_ble_eq_true rfl, Nat.le_of_ble_eq_true rfl⟩) hK hA hX hP hD hS (ci := 8) (q0 := 10) rfl rfl rfl hl.1 rfl (Nat.le_of_ble_eq_true rfl) dX10_lastInOrder_8 ⟨Nat.le_of_ble_eq_true rfl, Nat.le_of_ble_eq_true rfl⟩ (fun xa_12 H locs hR hsxa_12 hP hD hS => ?_)
  have hU := xSub.tr hU hsxa_12
  refine lv_bipush (v := (11 : Int32)) hx hb dX10_lastInOrder_11 (by decide) ?_
  refine lv_istore_n (lv' := [(2, .int (11 : Int32)), (0, .ref (b 0)), (1, .int v1)]) hx hb dX10_lastInOrder_13 rfl hl (by decide) rfl (fun ls hl => ?_)
  exact b14 5000 xs_10 v1 (11 : Int32) xa_12 H locs ls hR hU hP hD hS (lv_sub hl [1, 2, 0] rfl) heq
