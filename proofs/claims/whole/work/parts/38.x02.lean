set_option maxRecDepth 20000 in
theorem ggX10_tellsPair_X7_number : GoodIn wsX10_tellsPair wsX7_number := goodIn_r _ [5, 6, 7, 8, 4, 9, 10, 11, 12, 13, 14, 26, 27] (by decide +kernel) (by decide +kernel)
set_option maxRecDepth 20000 in
theorem gX10_tellsPair_X7_number : GoodIn wsX10_tellsPair (wsV RX10 331 RX7 yX7_number wsX7_number) := goodIn_app (goodIn_of _ (by decide +kernel)) ggX10_tellsPair_X7_number
set_option maxRecDepth 20000 in
theorem ggX10_tellsPair_X8_isTold : GoodIn wsX10_tellsPair wsX8_isTold := goodIn_r _ [19, 20, 21, 22, 23, 24, 25, 28, 29, 30, 31, 32, 33, 34, 35, 36, 37] (by decide +kernel) (by decide +kernel)
set_option maxRecDepth 20000 in
theorem gX10_tellsPair_X8_isTold : GoodIn wsX10_tellsPair (wsV RX10 341 RX8 yX8_isTold wsX8_isTold) := goodIn_app (goodIn_of _ (by decide +kernel)) ggX10_tellsPair_X8_isTold
theorem dX10_tellsPair_0 : decode cX10_tellsPair 0 = .ok (.aload_n 0, 1) := by decide +kernel
theorem dX10_tellsPair_1 : decode cX10_tellsPair 1 = .ok (.iload_n 1, 1) := by decide +kernel
theorem dX10_tellsPair_2 : decode cX10_tellsPair 2 = .ok (.aload_n 2, 1) := by decide +kernel
theorem dX10_tellsPair_3 : decode cX10_tellsPair 3 = .ok (.iload_n 3, 1) := by decide +kernel
theorem dX10_tellsPair_4 : decode cX10_tellsPair 4 = .ok (.iconst 1, 1) := by decide +kernel
theorem dX10_tellsPair_5 : decode cX10_tellsPair 5 = .ok (.iadd, 1) := by decide +kernel
theorem dX10_tellsPair_6 : decode cX10_tellsPair 6 = .ok (.iconst 2, 1) := by decide +kernel
theorem dX10_tellsPair_7 : decode cX10_tellsPair 7 = .ok (.invokevirtual 331, 3) := by decide +kernel
theorem dX10_tellsPair_10 : decode cX10_tellsPair 10 = .ok (.invokevirtual 341, 3) := by decide +kernel
theorem dX10_tellsPair_13 : decode cX10_tellsPair 13 = .ok (.ifCond .eq 25, 3) := by decide +kernel
theorem dX10_tellsPair_16 : decode cX10_tellsPair 16 = .ok (.aload_n 0, 1) := by decide +kernel
theorem dX10_tellsPair_17 : decode cX10_tellsPair 17 = .ok (.iload_n 1, 1) := by decide +kernel
theorem dX10_tellsPair_18 : decode cX10_tellsPair 18 = .ok (.iconst 1, 1) := by decide +kernel
theorem dX10_tellsPair_19 : decode cX10_tellsPair 19 = .ok (.iadd, 1) := by decide +kernel
theorem dX10_tellsPair_20 : decode cX10_tellsPair 20 = .ok (.aload_n 2, 1) := by decide +kernel
theorem dX10_tellsPair_21 : decode cX10_tellsPair 21 = .ok (.iload_n 3, 1) := by decide +kernel
theorem dX10_tellsPair_22 : decode cX10_tellsPair 22 = .ok (.iconst 3, 1) := by decide +kernel
theorem dX10_tellsPair_23 : decode cX10_tellsPair 23 = .ok (.iadd, 1) := by decide +kernel
theorem dX10_tellsPair_24 : decode cX10_tellsPair 24 = .ok (.iconst 2, 1) := by decide +kernel
theorem dX10_tellsPair_25 : decode cX10_tellsPair 25 = .ok (.invokevirtual 331, 3) := by decide +kernel
theorem dX10_tellsPair_28 : decode cX10_tellsPair 28 = .ok (.invokevirtual 341, 3) := by decide +kernel
theorem dX10_tellsPair_31 : decode cX10_tellsPair 31 = .ok (.ifCond .eq 7, 3) := by decide +kernel
theorem dX10_tellsPair_34 : decode cX10_tellsPair 34 = .ok (.iconst 1, 1) := by decide +kernel
theorem dX10_tellsPair_35 : decode cX10_tellsPair 35 = .ok (.goto 4, 3) := by decide +kernel
theorem dX10_tellsPair_38 : decode cX10_tellsPair 38 = .ok (.iconst 0, 1) := by decide +kernel
theorem dX10_tellsPair_39 : decode cX10_tellsPair 39 = .ok (.ireturn, 1) := by decide +kernel
/-! X10 tellsPair -/
def X10_tellsPair_p39 (xs : XS) (t0 : Int32) : Option (Int32 × XS) :=
    gz t0 <|
    some (t0, xs)
def X10_tellsPair (xs : XS) (v1 : Int32) (v2 : Nat) (v3 : Int32) : Option (Int32 × XS) :=
    bd1 (xR xs v2) fun rz_2 =>
    bnd (X7_number rz_2.1 rz_2.2 (v3 + (1 : Int32)) (2 : Int32)) fun y_4 st_5 =>
    nm (uR xs v2 (some (rz_2.1, st_5))) fun xs_7 =>
    bnd (X8_isTold (xT xs_7 1) v1 y_4) fun y_8 st_9 =>
    nm (uT xs_7 1 st_9) fun xs_11 =>
    if y_8 = 0 then
      (X10_tellsPair_p39 xs_11 (0 : Int32))
    else
    bd1 (xR xs_11 v2) fun rz_13 =>
    bnd (X7_number rz_13.1 rz_13.2 (v3 + (3 : Int32)) (2 : Int32)) fun y_15 st_16 =>
    nm (uR xs_11 v2 (some (rz_13.1, st_16))) fun xs_18 =>
    bnd (X8_isTold (xT xs_18 1) (v1 + (1 : Int32)) y_15) fun y_19 st_20 =>
    nm (uT xs_18 1 st_20) fun xs_22 =>
    if y_19 = 0 then
      (X10_tellsPair_p39 xs_22 (0 : Int32))
    else
    X10_tellsPair_p39 xs_22 (1 : Int32)
abbrev rmX10_tellsPair : Room := { frames := 3, cells := 0, slots := 0, locals := 67 }
theorem hdX10_tellsPair : yX10_tellsPair.cls = RX10 ∧ yX10_tellsPair.cls ≠ "java/lang/invoke/MethodHandle" ∧ yX10_tellsPair.cls ≠ "java/lang/invoke/VarHandle" ∧ (parseMethodDescriptor yX10_tellsPair.desc).map (fun d => d.parameters.length) = some 4 := by decide +kernel
set_option maxRecDepth 100000 in
set_option maxHeartbeats 8000000 in
theorem okX10_tellsPair (z : Nat → Nat) (l : Launch) (D : va_G) (T : mT3) (b : Nat → Nat) {xa : XA} {xs : XS} {v1 : Int32} {v2 : Nat} {v3 : Int32} {r : Int32} {xs' : XS} (hR : xRel b xa xs) (v2h : v2 < 8) (heq : X10_tellsPair xs v1 v2 v3 = some (r, xs')) : hXi xSub z l D T b yX10_tellsPair wsX10_tellsPair rmX10_tellsPair [.ref (b 10), .int v1, .ref (xRa xa v2 0), .int v3] xa xs r xs' := by
  refine xbody_i (plainFor_of_name (by decide)) rfl (Nat.le_of_ble_eq_true rfl) (fun p e s m args below meth c A Q hx hb hml hown hts hK hA hX hret ls hP hD hS hl => ?_)
  have hl : lv_has ls 4 [(0, .ref (b 10)), (1, .int v1), (2, .ref (xRa xa v2 0)), (3, .int v3)] := hl
  obtain ⟨xa0, hxa0⟩ : ∃ z : XA, z = xa := ⟨_, rfl⟩
  rw [← hxa0] at hret
  have hU : xSub xa0 xa := by rw [hxa0]; exact xSub.rf
  clear hxa0
  have b39 : ∀ (xs : XS) (t0 : Int32) (xa : XA) (H : Heap) (locs : List Loc) (ls : Array Slot), xRel b xa xs → xSub xa0 xa → va_P D vwCl (xW b T xa xs) H → va_D A (xW b T xa xs) → va_S A s.heap H locs → lv_has ls 4 [] → X10_tellsPair_p39 xs t0 = some (r, xs') → W p l e rmX10_tellsPair s m args below meth c H locs 0 0 Q (F0 m 39 ls [.int t0]) := by
    intro xs t0 xa H locs ls hR hU hP hD hS hl heq
    unfold X10_tellsPair_p39 at heq
    obtain ⟨n_1, _, heq⟩ := gz_h heq
    obtain ⟨heq, heq2⟩ := ret_h heq
    subst heq
    subst heq2
    exact hret 39 H locs ls xa hR hU hP hD hS n_1 dX10_tellsPair_39
  obtain ⟨H, hH⟩ : ∃ H, H = s.heap := ⟨_, rfl⟩
  obtain ⟨locs, hlocs⟩ : ∃ z : List Loc, z = [] := ⟨_, rfl⟩
  have hS : va_S A s.heap H locs := by rw [hH, hlocs]; exact hS
  have hP : va_P D vwCl (xW b T xa xs) H := by rw [hH]; exact hP
  suffices h9 : W p l e rmX10_tellsPair s m args below meth c H locs 0 0 Q (F0 m 0 ls []) by rw [hH, hlocs] at h9; exact h9
  clear hH hlocs
  unfold X10_tellsPair at heq
  refine lv_aload_n hx hb dX10_tellsPair_0 rfl (lv_at hl 0 rfl) ?_
  refine lv_iload_n hx hb dX10_tellsPair_1 rfl (lv_at hl 1 rfl) ?_
  refine lv_aload_n hx hb dX10_tellsPair_2 rfl (lv_at hl 2 rfl) ?_
  refine lv_iload_n hx hb dX10_tellsPair_3 rfl (lv_at hl 3 rfl) ?_
  refine lv_iconst (v := (1 : Int32)) hx hb dX10_tellsPair_4 (by decide) ?_
  refine lv_iadd hx hb dX10_tellsPair_5 ?_
  refine lv_iconst (v := (2 : Int32)) hx hb dX10_tellsPair_6 (by decide) ?_
  obtain ⟨rz_2, hz_3, heq⟩ := bd1_h heq
  obtain ⟨y_4, st_5, h_6, heq⟩ := bnd_h heq
  refine h_vi (own := RX10) (As := [.int (v3 + (1 : Int32)), .int (2 : Int32)]) (rest := [.int v1, .ref (b 10)]) (wr := xWrR b T xa xs v2) hx hb hml hown hts (okX7_number z l D (xRa xa v2) T h_6) (cwV 2 hts gX10_tellsPair_X7_number rfl rfl rfl hdX7_number ⟨Nat.le_of_ble_eq_true rfl, Nat.le_of_ble_eq_true rfl⟩) hK hA hX hP hD hS (xpR b T xa xs v2h hz_3) (xqR b T xa xs v2h _ _) (ci := 7) (q0 := 0) rfl rfl rfl hl.1 rfl (Nat.le_of_ble_eq_true rfl) dX10_tellsPair_7 ⟨Nat.le_of_ble_eq_true rfl, Nat.le_of_ble_eq_true rfl⟩ (fun H locs hP hD hS => ?_)
  obtain ⟨xs_7, exs_7⟩ : ∃ z, z = uR xs v2 (some (rz_2.1, st_5)) := ⟨_, rfl⟩
  have hR : xRel b xa (uR xs v2 (some (rz_2.1, st_5))) := hR.uR hz_3
  rw [← exs_7] at hP hD hR
  have heq := nm_h exs_7 heq
  obtain ⟨y_8, st_9, h_10, heq⟩ := bnd_h heq
  refine h_vi (own := RX10) (As := [.int v1, .int y_4]) (rest := []) (wr := xWr1 b T xa xs_7) hx hb hml hown hts (okX8_isTold z l D (fun j => b (10 + j)) T (fun j => some (xFo xa 1 j)) h_10) (cwV 2 hts gX10_tellsPair_X8_isTold rfl rfl rfl hdX8_isTold ⟨Nat.le_of_ble_eq_true rfl, Nat.le_of_ble_eq_true rfl⟩) hK hA hX hP hD hS (xp1 b T xa xs_7) (xq1 b T xa xs_7 _) (ci := 8) (q0 := 0) rfl rfl rfl hl.1 rfl (Nat.le_of_ble_eq_true rfl) dX10_tellsPair_10 ⟨Nat.le_of_ble_eq_true rfl, Nat.le_of_ble_eq_true rfl⟩ (fun H locs hP hD hS => ?_)
  obtain ⟨xs_11, exs_11⟩ : ∃ z, z = uT xs_7 1 st_9 := ⟨_, rfl⟩
  have hR : xRel b xa (uT xs_7 1 st_9) := hR.uT _ _
  rw [← exs_11] at hP hD hR
  have heq := nm_h exs_11 heq
  refine lv_if_eq (tgt := 38) hx hb dX10_tellsPair_13 (by decide) (fun c_12 => ?_) (fun c_12 => ?_)
  · have heq := it_t c_12 heq
    refine lv_iconst (v := (0 : Int32)) hx hb dX10_tellsPair_38 (by decide) ?_
    exact b39 xs_11 (0 : Int32) xa H locs ls hR hU hP hD hS (lv_sub hl [] rfl) heq
  have heq := it_f c_12 heq
  refine lv_aload_n hx hb dX10_tellsPair_16 rfl (lv_at hl 0 rfl) ?_
  refine lv_iload_n hx hb dX10_tellsPair_17 rfl (lv_at hl 1 rfl) ?_
  refine lv_iconst (v := (1 : Int32)) hx hb dX10_tellsPair_18 (by decide) ?_
  refine lv_iadd hx hb dX10_tellsPair_19 ?_
  refine lv_aload_n hx hb dX10_tellsPair_20 rfl (lv_at hl 2 rfl) ?_
  refine lv_iload_n hx hb dX10_tellsPair_21 rfl (lv_at hl 3 rfl) ?_
  refine lv_iconst (v := (3 : Int32)) hx hb dX10_tellsPair_22 (by decide) ?_
  refine lv_iadd hx hb dX10_tellsPair_23 ?_
  refine lv_iconst (v := (2 : Int32)) hx hb dX10_tellsPair_24 (by decide) ?_
  obtain ⟨rz_13, hz_14, heq⟩ := bd1_h heq
  obtain ⟨y_15, st_16, h_17, heq⟩ := bnd_h heq
  refine h_vi (own := RX10) (As := [.int (v3 + (3 : Int32)), .int (2 : Int32)]) (rest := [.int (v1 + (1 : Int32)), .ref (b 10)]) (wr := xWrR b T xa xs_11 v2) hx hb hml hown hts (okX7_number z l D (xRa xa v2) T h_17) (cwV 2 hts gX10_tellsPair_X7_number rfl rfl rfl hdX7_number ⟨Nat.le_of_ble_eq_true rfl, Nat.le_of_ble_eq_true rfl⟩) hK hA hX hP hD hS (xpR b T xa xs_11 v2h hz_14) (xqR b T xa xs_11 v2h _ _) (ci := 7) (q0 := 0) rfl rfl rfl hl.1 rfl (Nat.le_of_ble_eq_true rfl) dX10_tellsPair_25 ⟨Nat.le_of_ble_eq_true rfl, Nat.le_of_ble_eq_true rfl⟩ (fun H locs hP hD hS => ?_)
  obtain ⟨xs_18, exs_18⟩ : ∃ z, z = uR xs_11 v2 (some (rz_13.1, st_16)) := ⟨_, rfl⟩
  have hR : xRel b xa (uR xs_11 v2 (some (rz_13.1, st_16))) := hR.uR hz_14
  rw [← exs_18] at hP hD hR
  have heq := nm_h exs_18 heq
  obtain ⟨y_19, st_20, h_21, heq⟩ := bnd_h heq
  refine h_vi (own := RX10) (As := [.int (v1 + (1 : Int32)), .int y_15]) (rest := []) (wr := xWr1 b T xa xs_18) hx hb hml hown hts (okX8_isTold z l D (fun j => b (10 + j)) T (fun j => some (xFo xa 1 j)) h_21) (cwV 2 hts gX10_tellsPair_X8_isTold rfl rfl rfl hdX8_isTold ⟨Nat.le_of_ble_eq_true rfl, Nat.le_of_ble_eq_true rfl⟩) hK hA hX hP hD hS (xp1 b T xa xs_18) (xq1 b T xa xs_18 _) (ci := 8) (q0 := 0) rfl rfl rfl hl.1 rfl (Nat.le_of_ble_eq_true rfl) dX10_tellsPair_28 ⟨Nat.le_of_ble_eq_true rfl, Nat.le_of_ble_eq_true rfl⟩ (fun H locs hP hD hS => ?_)
  obtain ⟨xs_22, exs_22⟩ : ∃ z, z = uT xs_18 1 st_20 := ⟨_, rfl⟩
  have hR : xRel b xa (uT xs_18 1 st_20) := hR.uT _ _
  rw [← exs_22] at hP hD hR
  have heq := nm_h exs_22 heq
  refine lv_if_eq (tgt := 38) hx hb dX10_tellsPair_31 (by decide) (fun c_23 => ?_) (fun c_23 => ?_)
  · have heq := it_t c_23 heq
    refine lv_iconst (v := (0 : Int32)) hx hb dX10_tellsPair_38 (by decide) ?_
    exact b39 xs_22 (0 : Int32) xa H locs ls hR hU hP hD hS (lv_sub hl [] rfl) heq
  have heq := it_f c_23 heq
  refine lv_iconst (v := (1 : Int32)) hx hb dX10_tellsPair_34 (by decide) ?_
  refine lv_goto (tgt := 39) hx hb dX10_tellsPair_35 (by decide) ?_
  exact b39 xs_22 (1 : Int32) xa H locs ls hR hU hP hD hS (lv_sub hl [] rfl) heq
set_option maxRecDepth 20000 in
theorem ggX10_obeys_X7_at : GoodIn wsX10_obeys wsX7_at := goodIn_r _ [5, 6, 7, 8, 9, 4, 10, 214, 215] (by decide +kernel) (by decide +kernel)
set_option maxRecDepth 20000 in
theorem gX10_obeys_X7_at : GoodIn wsX10_obeys (wsV RX10 74 RX7 yX7_at wsX7_at) := goodIn_app (goodIn_of _ (by decide +kernel)) ggX10_obeys_X7_at
set_option maxRecDepth 20000 in
theorem ggX10_obeys_X7_number : GoodIn wsX10_obeys wsX7_number := goodIn_r _ [14, 15, 2, 3, 4, 5, 6, 7, 8, 9, 10, 214, 215] (by decide +kernel) (by decide +kernel)
set_option maxRecDepth 20000 in
theorem gX10_obeys_X7_number : GoodIn wsX10_obeys (wsV RX10 331 RX7 yX7_number wsX7_number) := goodIn_app (goodIn_of _ (by decide +kernel)) ggX10_obeys_X7_number
set_option maxRecDepth 20000 in
theorem ggX10_obeys_X8_addHouse : GoodIn wsX10_obeys wsX8_addHouse := goodIn_r _ [20, 21, 22, 23, 24, 25, 26, 216, 217, 218, 219, 220, 221, 222, 223, 224, 225] (by decide +kernel) (by decide +kernel)
set_option maxRecDepth 20000 in
theorem gX10_obeys_X8_addHouse : GoodIn wsX10_obeys (wsV RX10 123 RX8 yX8_addHouse wsX8_addHouse) := goodIn_app (goodIn_of _ (by decide +kernel)) ggX10_obeys_X8_addHouse
set_option maxRecDepth 20000 in
theorem ggX10_obeys_X8_isDown : GoodIn wsX10_obeys wsX8_isDown := goodIn_r _ [30, 31, 216, 217, 218, 219, 220, 221, 222, 223, 224, 225] (by decide +kernel) (by decide +kernel)
set_option maxRecDepth 20000 in
theorem gX10_obeys_X8_isDown : GoodIn wsX10_obeys (wsV RX10 116 RX8 yX8_isDown wsX8_isDown) := goodIn_app (goodIn_of _ (by decide +kernel)) ggX10_obeys_X8_isDown
set_option maxRecDepth 20000 in
theorem ggX10_obeys_X10_placesCell : GoodIn wsX10_obeys wsX10_placesCell := goodIn_r _ [34, 11, 12, 13, 4, 14, 15, 2, 3, 5, 6, 7, 8, 9, 10, 35, 36, 25, 37, 38, 39, 40, 41, 42, 43, 44, 45, 46, 47, 48, 49, 50, 51, 52, 53, 54, 55, 56, 57, 58, 59, 60, 61, 62, 63, 64, 65, 66, 67, 68, 69, 70, 71, 72, 73, 74, 75, 76, 77, 78, 79, 80, 81, 82, 83, 84, 85, 86, 87, 88, 89, 90, 91, 92, 93, 94, 95, 96, 97, 24, 26, 98, 99, 100, 19, 101, 102, 103, 104, 105, 106, 107, 108, 109, 110, 111, 112, 113, 114, 115, 116, 117, 118, 119, 120, 121, 122, 123, 124, 125, 126, 127, 128, 129, 130, 131, 132, 133, 134, 135, 136, 137, 138, 139, 140, 141, 142, 143, 144, 145, 146, 147, 148, 149, 150, 151, 152, 153, 154, 155, 156, 157, 158, 159, 160, 161, 162, 163, 164, 165, 166, 167, 214, 215, 226, 227, 228, 229, 230, 231, 232, 233, 216, 217, 218, 219, 220, 221, 222, 223, 224, 225] (by decide +kernel) (by decide +kernel)
set_option maxRecDepth 20000 in
theorem gX10_obeys_X10_placesCell : GoodIn wsX10_obeys (va_wsS RX10 334 yX10_placesCell wsX10_placesCell) := goodIn_app (goodIn_of _ (by decide +kernel)) ggX10_obeys_X10_placesCell
set_option maxRecDepth 20000 in
theorem ggX10_obeys_X10_tellsPair : GoodIn wsX10_obeys wsX10_tellsPair := goodIn_r _ [170, 11, 12, 13, 4, 14, 15, 2, 3, 5, 6, 7, 8, 9, 10, 171, 172, 173, 19, 174, 175, 176, 25, 177, 178, 179, 214, 215, 216, 217, 218, 219, 220, 221, 222, 223, 224, 225] (by decide +kernel) (by decide +kernel)
set_option maxRecDepth 20000 in
theorem gX10_obeys_X10_tellsPair : GoodIn wsX10_obeys (va_wsS RX10 337 yX10_tellsPair wsX10_tellsPair) := goodIn_app (goodIn_of _ (by decide +kernel)) ggX10_obeys_X10_tellsPair
set_option maxRecDepth 20000 in
theorem ggX10_obeys_X8_isTold : GoodIn wsX10_obeys wsX8_isTold := goodIn_r _ [174, 175, 176, 25, 177, 178, 179, 216, 217, 218, 219, 220, 221, 222, 223, 224, 225] (by decide +kernel) (by decide +kernel)
set_option maxRecDepth 20000 in
theorem gX10_obeys_X8_isTold : GoodIn wsX10_obeys (wsV RX10 341 RX8 yX8_isTold wsX8_isTold) := goodIn_app (goodIn_of _ (by decide +kernel)) ggX10_obeys_X8_isTold
set_option maxRecDepth 20000 in
theorem ggX10_obeys_X8_kindle : GoodIn wsX10_obeys wsX8_kindle := goodIn_r _ [183, 184, 185, 28, 29, 19, 30, 31, 216, 217, 218, 219, 220, 221, 222, 223, 224, 225] (by decide +kernel) (by decide +kernel)
set_option maxRecDepth 20000 in
theorem gX10_obeys_X8_kindle : GoodIn wsX10_obeys (wsV RX10 135 RX8 yX8_kindle wsX8_kindle) := goodIn_app (goodIn_of _ (by decide +kernel)) ggX10_obeys_X8_kindle
set_option maxRecDepth 20000 in
theorem ggX10_obeys_X8_passes : GoodIn wsX10_obeys wsX8_passes := goodIn_r _ [189, 184, 190, 31, 185, 28, 29, 19, 30, 191, 192, 193, 194, 195, 196, 197, 198, 199, 200, 201, 202, 175, 203, 204, 205, 206, 207, 208, 209, 210, 211, 212, 213, 104, 103, 216, 217, 218, 219, 220, 221, 222, 223, 224, 225] (by decide +kernel) (by decide +kernel)
set_option maxRecDepth 20000 in
theorem gX10_obeys_X8_passes : GoodIn wsX10_obeys (wsV RX10 141 RX8 yX8_passes wsX8_passes) := goodIn_app (goodIn_of _ (by decide +kernel)) ggX10_obeys_X8_passes
theorem dX10_obeys_0 : decode cX10_obeys 0 = .ok (.aload_n 1, 1) := by decide +kernel
theorem dX10_obeys_1 : decode cX10_obeys 1 = .ok (.iload_n 2, 1) := by decide +kernel
theorem dX10_obeys_2 : decode cX10_obeys 2 = .ok (.invokevirtual 74, 3) := by decide +kernel
theorem dX10_obeys_5 : decode cX10_obeys 5 = .ok (.istore_n 3, 1) := by decide +kernel
theorem dX10_obeys_6 : decode cX10_obeys 6 = .ok (.iload_n 3, 1) := by decide +kernel
theorem dX10_obeys_7 : decode cX10_obeys 7 = .ok (.bipush 111, 2) := by decide +kernel
theorem dX10_obeys_9 : decode cX10_obeys 9 = .ok (.if_icmp .ne 24, 3) := by decide +kernel
theorem dX10_obeys_12 : decode cX10_obeys 12 = .ok (.aload_n 0, 1) := by decide +kernel
theorem dX10_obeys_13 : decode cX10_obeys 13 = .ok (.aload_n 1, 1) := by decide +kernel
theorem dX10_obeys_14 : decode cX10_obeys 14 = .ok (.iload_n 2, 1) := by decide +kernel
theorem dX10_obeys_15 : decode cX10_obeys 15 = .ok (.iconst 1, 1) := by decide +kernel
theorem dX10_obeys_16 : decode cX10_obeys 16 = .ok (.iadd, 1) := by decide +kernel
theorem dX10_obeys_17 : decode cX10_obeys 17 = .ok (.iconst 2, 1) := by decide +kernel
theorem dX10_obeys_18 : decode cX10_obeys 18 = .ok (.invokevirtual 331, 3) := by decide +kernel
theorem dX10_obeys_21 : decode cX10_obeys 21 = .ok (.aload_n 1, 1) := by decide +kernel
theorem dX10_obeys_22 : decode cX10_obeys 22 = .ok (.iload_n 2, 1) := by decide +kernel
theorem dX10_obeys_23 : decode cX10_obeys 23 = .ok (.iconst 3, 1) := by decide +kernel
theorem dX10_obeys_24 : decode cX10_obeys 24 = .ok (.iadd, 1) := by decide +kernel
theorem dX10_obeys_25 : decode cX10_obeys 25 = .ok (.iconst 3, 1) := by decide +kernel
theorem dX10_obeys_26 : decode cX10_obeys 26 = .ok (.invokevirtual 331, 3) := by decide +kernel
theorem dX10_obeys_29 : decode cX10_obeys 29 = .ok (.invokevirtual 123, 3) := by decide +kernel
theorem dX10_obeys_32 : decode cX10_obeys 32 = .ok (.ireturn, 1) := by decide +kernel
theorem dX10_obeys_33 : decode cX10_obeys 33 = .ok (.aload_n 0, 1) := by decide +kernel
theorem dX10_obeys_34 : decode cX10_obeys 34 = .ok (.invokevirtual 116, 3) := by decide +kernel
theorem dX10_obeys_37 : decode cX10_obeys 37 = .ok (.ifCond .eq 5, 3) := by decide +kernel
theorem dX10_obeys_40 : decode cX10_obeys 40 = .ok (.iconst 0, 1) := by decide +kernel
theorem dX10_obeys_41 : decode cX10_obeys 41 = .ok (.ireturn, 1) := by decide +kernel
theorem dX10_obeys_42 : decode cX10_obeys 42 = .ok (.iload_n 3, 1) := by decide +kernel
theorem dX10_obeys_43 : decode cX10_obeys 43 = .ok (.tableswitch 189 97 119 #[156, 189, 105, 189, 189, 171, 128, 142, 189, 189, 189, 112, 189, 176, 189, 189, 189, 189, 189, 189, 189, 189, 120], 105) := by decide +kernel
theorem dX10_obeys_148 : decode cX10_obeys 148 = .ok (.aload_n 0, 1) := by decide +kernel
theorem dX10_obeys_149 : decode cX10_obeys 149 = .ok (.aload_n 1, 1) := by decide +kernel
theorem dX10_obeys_150 : decode cX10_obeys 150 = .ok (.iload_n 2, 1) := by decide +kernel
theorem dX10_obeys_151 : decode cX10_obeys 151 = .ok (.invokestatic 334, 3) := by decide +kernel
theorem dX10_obeys_154 : decode cX10_obeys 154 = .ok (.ireturn, 1) := by decide +kernel
theorem dX10_obeys_155 : decode cX10_obeys 155 = .ok (.aload_n 0, 1) := by decide +kernel
theorem dX10_obeys_156 : decode cX10_obeys 156 = .ok (.iconst 0, 1) := by decide +kernel
theorem dX10_obeys_157 : decode cX10_obeys 157 = .ok (.aload_n 1, 1) := by decide +kernel
theorem dX10_obeys_158 : decode cX10_obeys 158 = .ok (.iload_n 2, 1) := by decide +kernel
theorem dX10_obeys_159 : decode cX10_obeys 159 = .ok (.invokestatic 337, 3) := by decide +kernel
theorem dX10_obeys_162 : decode cX10_obeys 162 = .ok (.ireturn, 1) := by decide +kernel
theorem dX10_obeys_163 : decode cX10_obeys 163 = .ok (.aload_n 0, 1) := by decide +kernel
theorem dX10_obeys_164 : decode cX10_obeys 164 = .ok (.iconst 2, 1) := by decide +kernel
theorem dX10_obeys_165 : decode cX10_obeys 165 = .ok (.aload_n 1, 1) := by decide +kernel
theorem dX10_obeys_166 : decode cX10_obeys 166 = .ok (.iload_n 2, 1) := by decide +kernel
theorem dX10_obeys_167 : decode cX10_obeys 167 = .ok (.invokestatic 337, 3) := by decide +kernel
theorem dX10_obeys_170 : decode cX10_obeys 170 = .ok (.ireturn, 1) := by decide +kernel
theorem dX10_obeys_171 : decode cX10_obeys 171 = .ok (.aload_n 0, 1) := by decide +kernel
theorem dX10_obeys_172 : decode cX10_obeys 172 = .ok (.iconst 4, 1) := by decide +kernel
theorem dX10_obeys_173 : decode cX10_obeys 173 = .ok (.aload_n 1, 1) := by decide +kernel
theorem dX10_obeys_174 : decode cX10_obeys 174 = .ok (.iload_n 2, 1) := by decide +kernel
theorem dX10_obeys_175 : decode cX10_obeys 175 = .ok (.iconst 1, 1) := by decide +kernel
theorem dX10_obeys_176 : decode cX10_obeys 176 = .ok (.iadd, 1) := by decide +kernel
theorem dX10_obeys_177 : decode cX10_obeys 177 = .ok (.iconst 3, 1) := by decide +kernel
theorem dX10_obeys_178 : decode cX10_obeys 178 = .ok (.invokevirtual 331, 3) := by decide +kernel
theorem dX10_obeys_181 : decode cX10_obeys 181 = .ok (.invokevirtual 341, 3) := by decide +kernel
theorem dX10_obeys_184 : decode cX10_obeys 184 = .ok (.ireturn, 1) := by decide +kernel
theorem dX10_obeys_185 : decode cX10_obeys 185 = .ok (.aload_n 0, 1) := by decide +kernel
theorem dX10_obeys_186 : decode cX10_obeys 186 = .ok (.iconst 5, 1) := by decide +kernel
theorem dX10_obeys_187 : decode cX10_obeys 187 = .ok (.aload_n 1, 1) := by decide +kernel
theorem dX10_obeys_188 : decode cX10_obeys 188 = .ok (.iload_n 2, 1) := by decide +kernel
theorem dX10_obeys_189 : decode cX10_obeys 189 = .ok (.iconst 1, 1) := by decide +kernel
theorem dX10_obeys_190 : decode cX10_obeys 190 = .ok (.iadd, 1) := by decide +kernel
theorem dX10_obeys_191 : decode cX10_obeys 191 = .ok (.iconst 3, 1) := by decide +kernel
theorem dX10_obeys_192 : decode cX10_obeys 192 = .ok (.invokevirtual 331, 3) := by decide +kernel
theorem dX10_obeys_195 : decode cX10_obeys 195 = .ok (.invokevirtual 341, 3) := by decide +kernel
theorem dX10_obeys_198 : decode cX10_obeys 198 = .ok (.ireturn, 1) := by decide +kernel
theorem dX10_obeys_199 : decode cX10_obeys 199 = .ok (.aload_n 0, 1) := by decide +kernel
theorem dX10_obeys_200 : decode cX10_obeys 200 = .ok (.bipush 6, 2) := by decide +kernel
theorem dX10_obeys_202 : decode cX10_obeys 202 = .ok (.aload_n 1, 1) := by decide +kernel
theorem dX10_obeys_203 : decode cX10_obeys 203 = .ok (.iload_n 2, 1) := by decide +kernel
theorem dX10_obeys_204 : decode cX10_obeys 204 = .ok (.iconst 1, 1) := by decide +kernel
theorem dX10_obeys_205 : decode cX10_obeys 205 = .ok (.iadd, 1) := by decide +kernel
theorem dX10_obeys_206 : decode cX10_obeys 206 = .ok (.iconst 2, 1) := by decide +kernel
theorem dX10_obeys_207 : decode cX10_obeys 207 = .ok (.invokevirtual 331, 3) := by decide +kernel
theorem dX10_obeys_210 : decode cX10_obeys 210 = .ok (.invokevirtual 341, 3) := by decide +kernel
theorem dX10_obeys_213 : decode cX10_obeys 213 = .ok (.ireturn, 1) := by decide +kernel
theorem dX10_obeys_214 : decode cX10_obeys 214 = .ok (.aload_n 0, 1) := by decide +kernel
theorem dX10_obeys_215 : decode cX10_obeys 215 = .ok (.invokevirtual 135, 3) := by decide +kernel
theorem dX10_obeys_218 : decode cX10_obeys 218 = .ok (.ireturn, 1) := by decide +kernel
theorem dX10_obeys_219 : decode cX10_obeys 219 = .ok (.aload_n 0, 1) := by decide +kernel
theorem dX10_obeys_220 : decode cX10_obeys 220 = .ok (.aload_n 1, 1) := by decide +kernel
theorem dX10_obeys_221 : decode cX10_obeys 221 = .ok (.iload_n 2, 1) := by decide +kernel
theorem dX10_obeys_222 : decode cX10_obeys 222 = .ok (.iconst 1, 1) := by decide +kernel
theorem dX10_obeys_223 : decode cX10_obeys 223 = .ok (.iadd, 1) := by decide +kernel
theorem dX10_obeys_224 : decode cX10_obeys 224 = .ok (.iconst 2, 1) := by decide +kernel
theorem dX10_obeys_225 : decode cX10_obeys 225 = .ok (.invokevirtual 331, 3) := by decide +kernel
theorem dX10_obeys_228 : decode cX10_obeys 228 = .ok (.invokevirtual 141, 3) := by decide +kernel
theorem dX10_obeys_231 : decode cX10_obeys 231 = .ok (.ireturn, 1) := by decide +kernel
theorem dX10_obeys_232 : decode cX10_obeys 232 = .ok (.iconst 0, 1) := by decide +kernel
theorem dX10_obeys_233 : decode cX10_obeys 233 = .ok (.ireturn, 1) := by decide +kernel
/-! X10 obeys -/
def X10_obeys (xs : XS) (v1 : Nat) (v2 : Int32) : Option (Int32 × XS) :=
    bd1 (xR xs v1) fun rz_1 =>
    bnd (X7_at rz_1.1 rz_1.2 v2) fun y_3 st_4 =>
    nm (uR xs v1 (some (rz_1.1, st_4))) fun xs_6 =>
    if y_3 = (111 : Int32) then
      (bd1 (xR xs_6 v1) fun rz_120 =>
      bnd (X7_number rz_120.1 rz_120.2 (v2 + (1 : Int32)) (2 : Int32)) fun y_122 st_123 =>
      nm (uR xs_6 v1 (some (rz_120.1, st_123))) fun xs_125 =>
      bd1 (xR xs_125 v1) fun rz_126 =>
      bnd (X7_number rz_126.1 rz_126.2 (v2 + (3 : Int32)) (3 : Int32)) fun y_128 st_129 =>
      nm (uR xs_125 v1 (some (rz_126.1, st_129))) fun xs_131 =>
      bnd (X8_addHouse (xT xs_131 1) y_122 y_128) fun y_132 st_133 =>
      nm (uT xs_131 1 st_133) fun xs_135 =>
      gz y_132 <|
      some (y_132, xs_135))
    else
    bnd (X8_isDown (xT xs_6 1)) fun y_8 st_9 =>
    nm (uT xs_6 1 st_9) fun xs_11 =>
    if y_8 = 0 then
      (if y_3 = (97 : Int32) then
        (bd1 (xR xs_11 v1) fun rz_14 =>
        bnd (X7_number rz_14.1 rz_14.2 (v2 + (1 : Int32)) (2 : Int32)) fun y_16 st_17 =>
        nm (uR xs_11 v1 (some (rz_14.1, st_17))) fun xs_19 =>
        bnd (X8_isTold (xT xs_19 1) (6 : Int32) y_16) fun y_20 st_21 =>
        nm (uT xs_19 1 st_21) fun xs_23 =>
        gz y_20 <|
        some (y_20, xs_23))
      else
      if y_3 = (98 : Int32) then
        (gz (0 : Int32) <|
        some ((0 : Int32), xs_11))
      else
      if y_3 = (99 : Int32) then
        (bnd (X10_placesCell xs_11 v1 v2) fun y_28 xs_29 =>
        gz y_28 <|
        some (y_28, xs_29))
      else
      if y_3 = (100 : Int32) then
        (gz (0 : Int32) <|
        some ((0 : Int32), xs_11))
      else
      if y_3 = (101 : Int32) then
        (gz (0 : Int32) <|
        some ((0 : Int32), xs_11))
      else
      if y_3 = (102 : Int32) then
        (bnd (X8_kindle (xT xs_11 1)) fun y_39 st_40 =>
        nm (uT xs_11 1 st_40) fun xs_42 =>
        gz y_39 <|
        some (y_39, xs_42))
      else
      if y_3 = (103 : Int32) then
        (bd1 (xR xs_11 v1) fun rz_45 =>
        bnd (X7_number rz_45.1 rz_45.2 (v2 + (1 : Int32)) (3 : Int32)) fun y_47 st_48 =>
        nm (uR xs_11 v1 (some (rz_45.1, st_48))) fun xs_50 =>
        bnd (X8_isTold (xT xs_50 1) (4 : Int32) y_47) fun y_51 st_52 =>
        nm (uT xs_50 1 st_52) fun xs_54 =>
        gz y_51 <|
        some (y_51, xs_54))
      else
      if y_3 = (104 : Int32) then
        (bd1 (xR xs_11 v1) fun rz_57 =>
        bnd (X7_number rz_57.1 rz_57.2 (v2 + (1 : Int32)) (3 : Int32)) fun y_59 st_60 =>
        nm (uR xs_11 v1 (some (rz_57.1, st_60))) fun xs_62 =>
        bnd (X8_isTold (xT xs_62 1) (5 : Int32) y_59) fun y_63 st_64 =>
        nm (uT xs_62 1 st_64) fun xs_66 =>
        gz y_63 <|
        some (y_63, xs_66))
      else
      if y_3 = (105 : Int32) then
        (gz (0 : Int32) <|
        some ((0 : Int32), xs_11))
      else
      if y_3 = (106 : Int32) then
        (gz (0 : Int32) <|
        some ((0 : Int32), xs_11))
      else
      if y_3 = (107 : Int32) then
        (gz (0 : Int32) <|
        some ((0 : Int32), xs_11))
      else
      if y_3 = (108 : Int32) then
        (bnd (X10_tellsPair xs_11 (0 : Int32) v1 v2) fun y_75 xs_76 =>
        gz y_75 <|
        some (y_75, xs_76))
      else
      if y_3 = (109 : Int32) then
        (gz (0 : Int32) <|
        some ((0 : Int32), xs_11))
      else
      if y_3 = (110 : Int32) then
        (bd1 (xR xs_11 v1) fun rz_84 =>
        bnd (X7_number rz_84.1 rz_84.2 (v2 + (1 : Int32)) (2 : Int32)) fun y_86 st_87 =>
        nm (uR xs_11 v1 (some (rz_84.1, st_87))) fun xs_89 =>
        bnd (X8_passes (xT xs_89 1) y_86) fun y_90 st_91 =>
        nm (uT xs_89 1 st_91) fun xs_93 =>
        gz y_90 <|
        some (y_90, xs_93))
      else
      if y_3 = (111 : Int32) then
        (gz (0 : Int32) <|
        some ((0 : Int32), xs_11))
      else
      if y_3 = (112 : Int32) then
        (gz (0 : Int32) <|
        some ((0 : Int32), xs_11))
      else
      if y_3 = (113 : Int32) then
        (gz (0 : Int32) <|
        some ((0 : Int32), xs_11))
      else
      if y_3 = (114 : Int32) then
        (gz (0 : Int32) <|
        some ((0 : Int32), xs_11))
      else
      if y_3 = (115 : Int32) then
        (gz (0 : Int32) <|
        some ((0 : Int32), xs_11))
      else
      if y_3 = (116 : Int32) then
        (gz (0 : Int32) <|
        some ((0 : Int32), xs_11))
      else
      if y_3 = (117 : Int32) then
        (gz (0 : Int32) <|
        some ((0 : Int32), xs_11))
      else
      if y_3 = (118 : Int32) then
        (gz (0 : Int32) <|
        some ((0 : Int32), xs_11))
      else
      if y_3 = (119 : Int32) then
        (bnd (X10_tellsPair xs_11 (2 : Int32) v1 v2) fun y_112 xs_113 =>
        gz y_112 <|
        some (y_112, xs_113))
      else
      gz (0 : Int32) <|
      some ((0 : Int32), xs_11))
    else
    gz (0 : Int32) <|
    some ((0 : Int32), xs_11)
abbrev rmX10_obeys : Room := { frames := 6, cells := 1, slots := 1, locals := 120 }
theorem hdX10_obeys : yX10_obeys.cls = RX10 ∧ yX10_obeys.cls ≠ "java/lang/invoke/MethodHandle" ∧ yX10_obeys.cls ≠ "java/lang/invoke/VarHandle" ∧ (parseMethodDescriptor yX10_obeys.desc).map (fun d => d.parameters.length) = some 3 := by decide +kernel
set_option maxRecDepth 100000 in
set_option maxHeartbeats 8000000 in
theorem okX10_obeys (z : Nat → Nat) (l : Launch) (D : va_G) (T : mT3) (b : Nat → Nat) {xa : XA} {xs : XS} {v1 : Nat} {v2 : Int32} {r : Int32} {xs' : XS} (hR : xRel b xa xs) (v1h : v1 < 8) (heq : X10_obeys xs v1 v2 = some (r, xs')) : hXi xSub z l D T b yX10_obeys wsX10_obeys rmX10_obeys [.ref (b 10), .ref (xRa xa v1 0), .int v2] xa xs r xs' := by
  refine xbody_i (plainFor_of_name (by decide)) rfl (Nat.le_of_ble_eq_true rfl) (fun p e s m args below meth c A Q hx hb hml hown hts hK hA hX hret ls hP hD hS hl => ?_)
  have hl : lv_has ls 4 [(0, .ref (b 10)), (1, .ref (xRa xa v1 0)), (2, .int v2)] := hl
  obtain ⟨xa0, hxa0⟩ : ∃ z : XA, z = xa := ⟨_, rfl⟩
  rw [← hxa0] at hret
  have hU : xSub xa0 xa := by rw [hxa0]; exact xSub.rf
  clear hxa0
  obtain ⟨H, hH⟩ : ∃ H, H = s.heap := ⟨_, rfl⟩
  obtain ⟨locs, hlocs⟩ : ∃ z : List Loc, z = [] := ⟨_, rfl⟩
  have hS : va_S A s.heap H locs := by rw [hH, hlocs]; exact hS
  have hP : va_P D vwCl (xW b T xa xs) H := by rw [hH]; exact hP
  suffices h9 : W p l e rmX10_obeys s m args below meth c H locs 0 0 Q (F0 m 0 ls []) by rw [hH, hlocs] at h9; exact h9
  clear hH hlocs
  unfold X10_obeys at heq
  refine lv_aload_n hx hb dX10_obeys_0 rfl (lv_at hl 1 rfl) ?_
  refine lv_iload_n hx hb dX10_obeys_1 rfl (lv_at hl 2 rfl) ?_
  obtain ⟨rz_1, hz_2, heq⟩ := bd1_h heq
  obtain ⟨y_3, st_4, h_5, heq⟩ := bnd_h heq
  refine h_vi (own := RX10) (As := [.int v2]) (rest := []) (wr := xWrR b T xa xs v1) hx hb hml hown hts (okX7_at z l D (xRa xa v1) T h_5) (cwV 1 hts gX10_obeys_X7_at rfl rfl rfl hdX7_at ⟨Nat.le_of_ble_eq_true rfl, Nat.le_of_ble_eq_true rfl⟩) hK hA hX hP hD hS (xpR b T xa xs v1h hz_2) (xqR b T xa xs v1h _ _) (ci := 7) (q0 := 0) rfl rfl rfl hl.1 rfl (Nat.le_of_ble_eq_true rfl) dX10_obeys_2 ⟨by show 0 + 0 ≤ 1; omega, by show 0 + 0 ≤ 1; omega⟩ (fun H locs hP hD hS => ?_)
  obtain ⟨xs_6, exs_6⟩ : ∃ z, z = uR xs v1 (some (rz_1.1, st_4)) := ⟨_, rfl⟩
  refine W.widen (k := 0) (n := 0) (Nat.le_refl _) (Nat.le_refl _) ?_
  have hR : xRel b xa (uR xs v1 (some (rz_1.1, st_4))) := hR.uR hz_2
  rw [← exs_6] at hP hD hR
  have heq := nm_h exs_6 heq
  refine lv_istore_n (lv' := [(3, .int y_3), (0, .ref (b 10)), (1, .ref (xRa xa v1 0)), (2, .int v2)]) hx hb dX10_obeys_5 rfl hl (by decide) rfl (fun ls hl => ?_)
  refine lv_iload_n hx hb dX10_obeys_6 rfl (lv_at hl 0 rfl) ?_
  refine lv_bipush (v := (111 : Int32)) hx hb dX10_obeys_7 (by decide) ?_
  refine lv_icmp_ne (tgt := 33) hx hb dX10_obeys_9 (by decide) (fun c_7 => ?_) (fun c_7 => ?_)
  · have heq := it_f c_7 heq
    refine lv_aload_n hx hb dX10_obeys_33 rfl (lv_at hl 1 rfl) ?_
    obtain ⟨y_8, st_9, h_10, heq⟩ := bnd_h heq
    refine h_vi (own := RX10) (As := []) (rest := []) (wr := xWr1 b T xa xs_6) hx hb hml hown hts (okX8_isDown z l D (fun j => b (10 + j)) T (fun j => some (xFo xa 1 j)) h_10) (cwV 0 hts gX10_obeys_X8_isDown rfl rfl rfl hdX8_isDown ⟨Nat.le_of_ble_eq_true rfl, Nat.le_of_ble_eq_true rfl⟩) hK hA hX hP hD hS (xp1 b T xa xs_6) (xq1 b T xa xs_6 _) (ci := 8) (q0 := 0) rfl rfl rfl hl.1 rfl (Nat.le_of_ble_eq_true rfl) dX10_obeys_34 ⟨by show 0 + 0 ≤ 1; omega, by show 0 + 0 ≤ 1; omega⟩ (fun H locs hP hD hS => ?_)
    obtain ⟨xs_11, exs_11⟩ : ∃ z, z = uT xs_6 1 st_9 := ⟨_, rfl⟩
    refine W.widen (k := 0) (n := 0) (Nat.le_refl _) (Nat.le_refl _) ?_
    have hR : xRel b xa (uT xs_6 1 st_9) := hR.uT _ _
    rw [← exs_11] at hP hD hR
    have heq := nm_h exs_11 heq
    refine lv_if_eq (tgt := 42) hx hb dX10_obeys_37 (by decide) (fun c_12 => ?_) (fun c_12 => ?_)
    · have heq := it_t c_12 heq
      refine lv_iload_n hx hb dX10_obeys_42 rfl (lv_at hl 0 rfl) ?_
      by_cases c_13 : y_3 = (97 : Int32)
      · have heq := it_t c_13 heq
        refine lv_tableIn (tgt := 199) hx hb dX10_obeys_43 (by rw [c_13]; decide) (by rw [c_13]; decide) (by rw [c_13]; rfl) (by decide) ?_
        refine lv_aload_n hx hb dX10_obeys_199 rfl (lv_at hl 1 rfl) ?_
        refine lv_bipush (v := (6 : Int32)) hx hb dX10_obeys_200 (by decide) ?_
        refine lv_aload_n hx hb dX10_obeys_202 rfl (lv_at hl 2 rfl) ?_
        refine lv_iload_n hx hb dX10_obeys_203 rfl (lv_at hl 3 rfl) ?_
        refine lv_iconst (v := (1 : Int32)) hx hb dX10_obeys_204 (by decide) ?_
        refine lv_iadd hx hb dX10_obeys_205 ?_
        refine lv_iconst (v := (2 : Int32)) hx hb dX10_obeys_206 (by decide) ?_
        obtain ⟨rz_14, hz_15, heq⟩ := bd1_h heq
        obtain ⟨y_16, st_17, h_18, heq⟩ := bnd_h heq
        refine h_vi (own := RX10) (As := [.int (v2 + (1 : Int32)), .int (2 : Int32)]) (rest := [.int (6 : Int32), .ref (b 10)]) (wr := xWrR b T xa xs_11 v1) hx hb hml hown hts (okX7_number z l D (xRa xa v1) T h_18) (cwV 2 hts gX10_obeys_X7_number rfl rfl rfl hdX7_number ⟨Nat.le_of_ble_eq_true rfl, Nat.le_of_ble_eq_true rfl⟩) hK hA hX hP hD hS (xpR b T xa xs_11 v1h hz_15) (xqR b T xa xs_11 v1h _ _) (ci := 7) (q0 := 0) rfl rfl rfl hl.1 rfl (Nat.le_of_ble_eq_true rfl) dX10_obeys_207 ⟨by show 0 + 0 ≤ 1; omega, by show 0 + 0 ≤ 1; omega⟩ (fun H locs hP hD hS => ?_)
        obtain ⟨xs_19, exs_19⟩ : ∃ z, z = uR xs_11 v1 (some (rz_14.1, st_17)) := ⟨_, rfl⟩
        refine W.widen (k := 0) (n := 0) (Nat.le_refl _) (Nat.le_refl _) ?_
        have hR : xRel b xa (uR xs_11 v1 (some (rz_14.1, st_17))) := hR.uR hz_15
        rw [← exs_19] at hP hD hR
        have heq := nm_h exs_19 heq
        obtain ⟨y_20, st_21, h_22, heq⟩ := bnd_h heq
        refine h_vi (own := RX10) (As := [.int (6 : Int32), .int y_16]) (rest := []) (wr := xWr1 b T xa xs_19) hx hb hml hown hts (okX8_isTold z l D (fun j => b (10 + j)) T (fun j => some (xFo xa 1 j)) h_22) (cwV 2 hts gX10_obeys_X8_isTold rfl rfl rfl hdX8_isTold ⟨Nat.le_of_ble_eq_true rfl, Nat.le_of_ble_eq_true rfl⟩) hK hA hX hP hD hS (xp1 b T xa xs_19) (xq1 b T xa xs_19 _) (ci := 8) (q0 := 0) rfl rfl rfl hl.1 rfl (Nat.le_of_ble_eq_true rfl) dX10_obeys_210 ⟨by show 0 + 0 ≤ 1; omega, by show 0 + 0 ≤ 1; omega⟩ (fun H locs hP hD hS => ?_)
        obtain ⟨xs_23, exs_23⟩ : ∃ z, z = uT xs_19 1 st_21 := ⟨_, rfl⟩
        refine W.widen (k := 0) (n := 0) (Nat.le_refl _) (Nat.le_refl _) ?_
        have hR : xRel b xa (uT xs_19 1 st_21) := hR.uT _ _
        rw [← exs_23] at hP hD hR
        have heq := nm_h exs_23 heq
        obtain ⟨n_24, _, heq⟩ := gz_h heq
        obtain ⟨heq, heq2⟩ := ret_h heq
        subst heq
        subst heq2
        refine W.widen (k := 1) (n := 1) (by first | decide | omega) (by first | decide | omega) ?_
        exact hret 213 H locs ls xa hR hU hP hD hS n_24 dX10_obeys_213
      have heq := it_f c_13 heq
      by_cases c_25 : y_3 = (98 : Int32)
      · have heq := it_t c_25 heq
        refine lv_tableIn (tgt := 232) hx hb dX10_obeys_43 (by rw [c_25]; decide) (by rw [c_25]; decide) (by rw [c_25]; rfl) (by decide) ?_
        refine lv_iconst (v := (0 : Int32)) hx hb dX10_obeys_232 (by decide) ?_
        obtain ⟨n_26, _, heq⟩ := gz_h heq
        obtain ⟨heq, heq2⟩ := ret_h heq
        subst heq
        subst heq2
        refine W.widen (k := 1) (n := 1) (by first | decide | omega) (by first | decide | omega) ?_
        exact hret 233 H locs ls xa hR hU hP hD hS n_26 dX10_obeys_233
      have heq := it_f c_25 heq
      by_cases c_27 : y_3 = (99 : Int32)
      · have heq := it_t c_27 heq
        refine lv_tableIn (tgt := 148) hx hb dX10_obeys_43 (by rw [c_27]; decide) (by rw [c_27]; decide) (by rw [c_27]; rfl) (by decide) ?_
        refine lv_aload_n hx hb dX10_obeys_148 rfl (lv_at hl 1 rfl) ?_
        refine lv_aload_n hx hb dX10_obeys_149 rfl (lv_at hl 2 rfl) ?_
        refine lv_iload_n hx hb dX10_obeys_150 rfl (lv_at hl 3 rfl) ?_
        obtain ⟨y_28, xs_29, h_30, heq⟩ := bnd_h heq
        refine x_si (own := RX10) (As := [.ref (b 10), .ref (xRa xa v1 0), .int v2]) (rest := []) hx hb hml hown hts (okX10_placesCell z l D T b hR v1h h_30) (va_cwS 3 hts gX10_obeys_X10_placesCell rfl rfl rfl (hdX10_placesCell).2 ⟨Nat.le_of_ble_eq_true rfl, Nat.le_of_ble_eq_true rfl⟩) hK hA hX hP hD hS rfl hl.1 rfl (Nat.le_of_ble_eq_true rfl) dX10_obeys_151 ⟨by show 0 + 1 ≤ 1; omega, by show 0 + 1 ≤ 1; omega⟩ (fun xa_31 H locs hR hsxa_31 hP hD hS => ?_)
        refine W.widen (k := (0 + 1)) (n := (0 + 1)) (Nat.le_refl _) (Nat.le_refl _) ?_
        have hU := xSub.tr hU hsxa_31
        have hl : lv_has ls 4 [(3, .int y_3), (0, .ref (b 10)), (1, .ref (xRa xa_31 v1 0)), (2, .int v2)] := by rw [hsxa_31.2.2]; exact hl
        obtain ⟨n_33, _, heq⟩ := gz_h heq
        obtain ⟨heq, heq2⟩ := ret_h heq
        subst heq
        subst heq2
        refine W.widen (k := 1) (n := 1) (by first | decide | omega) (by first | decide | omega) ?_
        exact hret 154 H locs ls xa_31 hR hU hP hD hS n_33 dX10_obeys_154
      have heq := it_f c_27 heq
      by_cases c_34 : y_3 = (100 : Int32)
      · have heq := it_t c_34 heq
        refine lv_tableIn (tgt := 232) hx hb dX10_obeys_43 (by rw [c_34]; decide) (by rw [c_34]; decide) (by rw [c_34]; rfl) (by decide) ?_
        refine lv_iconst (v := (0 : Int32)) hx hb dX10_obeys_232 (by decide) ?_
        obtain ⟨n_35, _, heq⟩ := gz_h heq
        obtain ⟨heq, heq2⟩ := ret_h heq
        subst heq
        subst heq2
        refine W.widen (k := 1) (n := 1) (by first | decide | omega) (by first | decide | omega) ?_
        exact hret 233 H locs ls xa hR hU hP hD hS n_35 dX10_obeys_233
      have heq := it_f c_34 heq
      by_cases c_36 : y_3 = (101 : Int32)
      · have heq := it_t c_36 heq
        refine lv_tableIn (tgt := 232) hx hb dX10_obeys_43 (by rw [c_36]; decide) (by rw [c_36]; decide) (by rw [c_36]; rfl) (by decide) ?_
        refine lv_iconst (v := (0 : Int32)) hx hb dX10_obeys_232 (by decide) ?_
        obtain ⟨n_37, _, heq⟩ := gz_h heq
        obtain ⟨heq, heq2⟩ := ret_h heq
        subst heq
        subst heq2
        refine W.widen (k := 1) (n := 1) (by first | decide | omega) (by first | decide | omega) ?_
        exact hret 233 H locs ls xa hR hU hP hD hS n_37 dX10_obeys_233
      have heq := it_f c_36 heq
      by_cases c_38 : y_3 = (102 : Int32)
      · have heq := it_t c_38 heq
        refine lv_tableIn (tgt := 214) hx hb dX10_obeys_43 (by rw [c_38]; decide) (by rw [c_38]; decide) (by rw [c_38]; rfl) (by decide) ?_
        refine lv_aload_n hx hb dX10_obeys_214 rfl (lv_at hl 1 rfl) ?_
        obtain ⟨y_39, st_40, h_41, heq⟩ := bnd_h heq
        refine h_vi (own := RX10) (As := []) (rest := []) (wr := xWr1 b T xa xs_11) hx hb hml hown hts (okX8_kindle z l D (fun j => b (10 + j)) T (fun j => some (xFo xa 1 j)) h_41) (cwV 0 hts gX10_obeys_X8_kindle rfl rfl rfl hdX8_kindle ⟨Nat.le_of_ble_eq_true rfl, Nat.le_of_ble_eq_true rfl⟩) hK hA hX hP hD hS (xp1 b T xa xs_11) (xq1 b T xa xs_11 _) (ci := 8) (q0 := 0) rfl rfl rfl hl.1 rfl (Nat.le_of_ble_eq_true rfl) dX10_obeys_215 ⟨by show 0 + 0 ≤ 1; omega, by show 0 + 0 ≤ 1; omega⟩ (fun H locs hP hD hS => ?_)
        obtain ⟨xs_42, exs_42⟩ : ∃ z, z = uT xs_11 1 st_40 := ⟨_, rfl⟩
        refine W.widen (k := 0) (n := 0) (Nat.le_refl _) (Nat.le_refl _) ?_
        have hR : xRel b xa (uT xs_11 1 st_40) := hR.uT _ _
        rw [← exs_42] at hP hD hR
        have heq := nm_h exs_42 heq
        obtain ⟨n_43, _, heq⟩ := gz_h heq
        obtain ⟨heq, heq2⟩ := ret_h heq
        subst heq
        subst heq2
        refine W.widen (k := 1) (n := 1) (by first | decide | omega) (by first | decide | omega) ?_
        exact hret 218 H locs ls xa hR hU hP hD hS n_43 dX10_obeys_218
      have heq := it_f c_38 heq
      by_cases c_44 : y_3 = (103 : Int32)
      · have heq := it_t c_44 heq
        refine lv_tableIn (tgt := 171) hx hb dX10_obeys_43 (by rw [c_44]; decide) (by rw [c_44]; decide) (by rw [c_44]; rfl) (by decide) ?_
        refine lv_aload_n hx hb dX10_obeys_171 rfl (lv_at hl 1 rfl) ?_
        refine lv_iconst (v := (4 : Int32)) hx hb dX10_obeys_172 (by decide) ?_
        refine lv_aload_n hx hb dX10_obeys_173 rfl (lv_at hl 2 rfl) ?_
        refine lv_iload_n hx hb dX10_obeys_174 rfl (lv_at hl 3 rfl) ?_
        refine lv_iconst (v := (1 : Int32)) hx hb dX10_obeys_175 (by decide) ?_
        refine lv_iadd hx hb dX10_obeys_176 ?_
        refine lv_iconst (v := (3 : Int32)) hx hb dX10_obeys_177 (by decide) ?_
        obtain ⟨rz_45, hz_46, heq⟩ := bd1_h heq
        obtain ⟨y_47, st_48, h_49, heq⟩ := bnd_h heq
        refine h_vi (own := RX10) (As := [.int (v2 + (1 : Int32)), .int (3 : Int32)]) (rest := [.int (4 : Int32), .ref (b 10)]) (wr := xWrR b T xa xs_11 v1) hx hb hml hown hts (okX7_number z l D (xRa xa v1) T h_49) (cwV 2 hts gX10_obeys_X7_number rfl rfl rfl hdX7_number ⟨Nat.le_of_ble_eq_true rfl, Nat.le_of_ble_eq_true rfl⟩) hK hA hX hP hD hS (xpR b T xa xs_11 v1h hz_46) (xqR b T xa xs_11 v1h _ _) (ci := 7) (q0 := 0) rfl rfl rfl hl.1 rfl (Nat.le_of_ble_eq_true rfl) dX10_obeys_178 ⟨by show 0 + 0 ≤ 1; omega, by show 0 + 0 ≤ 1; omega⟩ (fun H locs hP hD hS => ?_)
        obtain ⟨xs_50, exs_50⟩ : ∃ z, z = uR xs_11 v1 (some (rz_45.1, st_48)) := ⟨_, rfl⟩
        refine W.widen (k := 0) (n := 0) (Nat.le_refl _) (Nat.le_refl _) ?_
        have hR : xRel b xa (uR xs_11 v1 (some (rz_45.1, st_48))) := hR.uR hz_46
        rw [← exs_50] at hP hD hR
        have heq := nm_h exs_50 heq
        obtain ⟨y_51, st_52, h_53, heq⟩ := bnd_h heq
        refine h_vi (own := RX10) (As := [.int (4 : Int32), .int y_47]) (rest := []) (wr := xWr1 b T xa xs_50) hx hb hml hown hts (okX8_isTold z l D (fun j => b (10 + j)) T (fun j => some (xFo xa 1 j)) h_53) (cwV 2 hts gX10_obeys_X8_isTold rfl rfl rfl hdX8_isTold ⟨Nat.le_of_ble_eq_true rfl, Nat.le_of_ble_eq_true rfl⟩) hK hA hX hP hD hS (xp1 b T xa xs_50) (xq1 b T xa xs_50 _) (ci := 8) (q0 := 0) rfl rfl rfl hl.1 rfl (Nat.le_of_ble_eq_true rfl) dX10_obeys_181 ⟨by show 0 + 0 ≤ 1; omega, by show 0 + 0 ≤ 1; omega⟩ (fun H locs hP hD hS => ?_)
        obtain ⟨xs_54, exs_54⟩ : ∃ z, z = uT xs_50 1 st_52 := ⟨_, rfl⟩
        refine W.widen (k := 0) (n := 0) (Nat.le_refl _) (Nat.le_refl _) ?_
        have hR : xRel b xa (uT xs_50 1 st_52) := hR.uT _ _
        rw [← exs_54] at hP hD hR
        have heq := nm_h exs_54 heq
        obtain ⟨n_55, _, heq⟩ := gz_h heq
        obtain ⟨heq, heq2⟩ := ret_h heq
        subst heq
        subst heq2
        refine W.widen (k := 1) (n := 1) (by first | decide | omega) (by first | decide | omega) ?_
        exact hret 184 H locs ls xa hR hU hP hD hS n_55 dX10_obeys_184
      have heq := it_f c_44 heq
      by_cases c_56 : y_3 = (104 : Int32)
      · have heq := it_t c_56 heq
        refine lv_tableIn (tgt := 185) hx hb dX10_obeys_43 (by rw [c_56]; decide) (by rw [c_56]; decide) (by rw [c_56]; rfl) (by decide) ?_
        refine lv_aload_n hx hb dX10_obeys_185 rfl (lv_at hl 1 rfl) ?_
        refine lv_iconst (v := (5 : Int32)) hx hb dX10_obeys_186 (by decide) ?_
        refine lv_aload_n hx hb dX10_obeys_187 rfl (lv_at hl 2 rfl) ?_
        refine lv_iload_n hx hb dX10_obeys_188 rfl (lv_at hl 3 rfl) ?_
        refine lv_iconst (v := (1 : Int32)) hx hb dX10_obeys_189 (by decide) ?_
        refine lv_iadd hx hb dX10_obeys_190 ?_
        refine lv_iconst (v := (3 : Int32)) hx hb dX10_obeys_191 (by decide) ?_
        obtain ⟨rz_57, hz_58, heq⟩ := bd1_h heq
        obtain ⟨y_59, st_60, h_61, heq⟩ := bnd_h heq
        refine h_vi (own := RX10) (As := [.int (v2 + (1 : Int32)), .int (3 : Int32)]) (rest := [.int (5 : Int32), .ref (b 10)]) (wr := xWrR b T xa xs_11 v1) hx hb hml hown hts (okX7_number z l D (xRa xa v1) T h_61) (cwV 2 hts gX10_obeys_X7_number rfl rfl rfl hdX7_number ⟨Nat.le_of_ble_eq_true rfl, Nat.le_of_ble_eq_true rfl⟩) hK hA hX hP hD hS (xpR b T xa xs_11 v1h hz_58) (xqR b T xa xs_11 v1h _ _) (ci := 7) (q0 := 0) rfl rfl rfl hl.1 rfl (Nat.le_of_ble_eq_true rfl) dX10_obeys_192 ⟨by show 0 + 0 ≤ 1; omega, by show 0 + 0 ≤ 1; omega⟩ (fun H locs hP hD hS => ?_)
        obtain ⟨xs_62, exs_62⟩ : ∃ z, z = uR xs_11 v1 (some (rz_57.1, st_60)) := ⟨_, rfl⟩
        refine W.widen (k := 0) (n := 0) (Nat.le_refl _) (Nat.le_refl _) ?_
        have hR : xRel b xa (uR xs_11 v1 (some (rz_57.1, st_60))) := hR.uR hz_58
        rw [← exs_62] at hP hD hR
        have heq := nm_h exs_62 heq
        obtain ⟨y_63, st_64, h_65, heq⟩ := bnd_h heq
        refine h_vi (own := RX10) (As := [.int (5 : Int32), .int y_59]) (rest := []) (wr := xWr1 b T xa xs_62) hx hb hml hown hts (okX8_isTold z l D (fun j => b (10 + j)) T (fun j => some (xFo xa 1 j)) h_65) (cwV 2 hts gX10_obeys_X8_isTold rfl rfl rfl hdX8_isTold ⟨Nat.le_of_ble_eq_true rfl, Nat.le_of_ble_eq_true rfl⟩) hK hA hX hP hD hS (xp1 b T xa xs_62) (xq1 b T xa xs_62 _) (ci := 8) (q0 := 0) rfl rfl rfl hl.1 rfl (Nat.le_of_ble_eq_true rfl) dX10_obeys_195 ⟨by show 0 + 0 ≤ 1; omega, by show 0 + 0 ≤ 1; omega⟩ (fun H locs hP hD hS => ?_)
        obtain ⟨xs_66, exs_66⟩ : ∃ z, z = uT xs_62 1 st_64 := ⟨_, rfl⟩
        refine W.widen (k := 0) (n := 0) (Nat.le_refl _) (Nat.le_refl _) ?_
        have hR : xRel b xa (uT xs_62 1 st_64) := hR.uT _ _
        rw [← exs_66] at hP hD hR
        have heq := nm_h exs_66 heq
        obtain ⟨n_67, _, heq⟩ := gz_h heq
        obtain ⟨heq, heq2⟩ := ret_h heq
        subst heq
        subst heq2
        refine W.widen (k := 1) (n := 1) (by first | decide | omega) (by first | decide | omega) ?_
        exact hret 198 H locs ls xa hR hU hP hD hS n_67 dX10_obeys_198
      have heq := it_f c_56 heq
      by_cases c_68 : y_3 = (105 : Int32)
      · have heq := it_t c_68 heq
        refine lv_tableIn (tgt := 232) hx hb dX10_obeys_43 (by rw [c_68]; decide) (by rw [c_68]; decide) (by rw [c_68]; rfl) (by decide) ?_
        refine lv_iconst (v := (0 : Int32)) hx hb dX10_obeys_232 (by decide) ?_
        obtain ⟨n_69, _, heq⟩ := gz_h heq
        obtain ⟨heq, heq2⟩ := ret_h heq
        subst heq
        subst heq2
        refine W.widen (k := 1) (n := 1) (by first | decide | omega) (by first | decide | omega) ?_
        exact hret 233 H locs ls xa hR hU hP hD hS n_69 dX10_obeys_233
      have heq := it_f c_68 heq
      by_cases c_70 : y_3 = (106 : Int32)
      · have heq := it_t c_70 heq
        refine lv_tableIn (tgt := 232) hx hb dX10_obeys_43 (by rw [c_70]; decide) (by rw [c_70]; decide) (by rw [c_70]; rfl) (by decide) ?_
        refine lv_iconst (v := (0 : Int32)) hx hb dX10_obeys_232 (by decide) ?_
        obtain ⟨n_71, _, heq⟩ := gz_h heq
        obtain ⟨heq, heq2⟩ := ret_h heq
        subst heq
        subst heq2
        refine W.widen (k := 1) (n := 1) (by first | decide | omega) (by first | decide | omega) ?_
        exact hret 233 H locs ls xa hR hU hP hD hS n_71 dX10_obeys_233
      have heq := it_f c_70 heq
      by_cases c_72 : y_3 = (107 : Int32)
      · have heq := it_t c_72 heq
        refine lv_tableIn (tgt := 232) hx hb dX10_obeys_43 (by rw [c_72]; decide) (by rw [c_72]; decide) (by rw [c_72]; rfl) (by decide) ?_
        refine lv_iconst (v := (0 : Int32)) hx hb dX10_obeys_232 (by decide) ?_
        obtain ⟨n_73, _, heq⟩ := gz_h heq
        obtain ⟨heq, heq2⟩ := ret_h heq
        subst heq
        subst heq2
        refine W.widen (k := 1) (n := 1) (by first | decide | omega) (by first | decide | omega) ?_
        exact hret 233 H locs ls xa hR hU hP hD hS n_73 dX10_obeys_233
      have heq := it_f c_72 heq
      by_cases c_74 : y_3 = (108 : Int32)
      · have heq := it_t c_74 heq
        refine lv_tableIn (tgt := 155) hx hb dX10_obeys_43 (by rw [c_74]; decide) (by rw [c_74]; decide) (by rw [c_74]; rfl) (by decide) ?_
        refine lv_aload_n hx hb dX10_obeys_155 rfl (lv_at hl 1 rfl) ?_
        refine lv_iconst (v := (0 : Int32)) hx hb dX10_obeys_156 (by decide) ?_
        refine lv_aload_n hx hb dX10_obeys_157 rfl (lv_at hl 2 rfl) ?_
        refine lv_iload_n hx hb dX10_obeys_158 rfl (lv_at hl 3 rfl) ?_
        obtain ⟨y_75, xs_76, h_77, heq⟩ := bnd_h heq
        refine x_si (own := RX10) (As := [.ref (b 10), .int (0 : Int32), .ref (xRa xa v1 0), .int v2]) (rest := []) hx hb hml hown hts (okX10_tellsPair z l D T b hR v1h h_77) (va_cwS 4 hts gX10_obeys_X10_tellsPair rfl rfl rfl (hdX10_tellsPair).2 ⟨Nat.le_of_ble_eq_true rfl, Nat.le_of_ble_eq_true rfl⟩) hK hA hX hP hD hS rfl hl.1 rfl (Nat.le_of_ble_eq_true rfl) dX10_obeys_159 ⟨by show 0 + 0 ≤ 1; omega, by show 0 + 0 ≤ 1; omega⟩ (fun xa_78 H locs hR hsxa_78 hP hD hS => ?_)
        refine W.widen (k := 0) (n := 0) (Nat.le_refl _) (Nat.le_refl _) ?_
        have hU := xSub.tr hU hsxa_78
        have hl : lv_has ls 4 [(3, .int y_3), (0, .ref (b 10)), (1, .ref (xRa xa_78 v1 0)), (2, .int v2)] := by rw [hsxa_78.2.2]; exact hl
        obtain ⟨n_80, _, heq⟩ := gz_h heq
        obtain ⟨heq, heq2⟩ := ret_h heq
        subst heq
        subst heq2
        refine W.widen (k := 1) (n := 1) (by first | decide | omega) (by first | decide | omega) ?_
        exact hret 162 H locs ls xa_78 hR hU hP hD hS n_80 dX10_obeys_162
      have heq := it_f c_74 heq
      by_cases c_81 : y_3 = (109 : Int32)
      · have heq := it_t c_81 heq
        refine lv_tableIn (tgt := 232) hx hb dX10_obeys_43 (by rw [c_81]; decide) (by rw [c_81]; decide) (by rw [c_81]; rfl) (by decide) ?_
        refine lv_iconst (v := (0 : Int32)) hx hb dX10_obeys_232 (by decide) ?_
        obtain ⟨n_82, _, heq⟩ := gz_h heq
        obtain ⟨heq, heq2⟩ := ret_h heq
        subst heq
        subst heq2
        refine W.widen (k := 1) (n := 1) (by first | decide | omega) (by first | decide | omega) ?_
        exact hret 233 H locs ls xa hR hU hP hD hS n_82 dX10_obeys_233
      have heq := it_f c_81 heq
      by_cases c_83 : y_3 = (110 : Int32)
      · have heq := it_t c_83 heq
        refine lv_tableIn (tgt := 219) hx hb dX10_obeys_43 (by rw [c_83]; decide) (by rw [c_83]; decide) (by rw [c_83]; rfl) (by decide) ?_
        refine lv_aload_n hx hb dX10_obeys_219 rfl (lv_at hl 1 rfl) ?_
        refine lv_aload_n hx hb dX10_obeys_220 rfl (lv_at hl 2 rfl) ?_
        refine lv_iload_n hx hb dX10_obeys_221 rfl (lv_at hl 3 rfl) ?_
        refine lv_iconst (v := (1 : Int32)) hx hb dX10_obeys_222 (by decide) ?_
        refine lv_iadd hx hb dX10_obeys_223 ?_
        refine lv_iconst (v := (2 : Int32)) hx hb dX10_obeys_224 (by decide) ?_
        obtain ⟨rz_84, hz_85, heq⟩ := bd1_h heq
        obtain ⟨y_86, st_87, h_88, heq⟩ := bnd_h heq
        refine h_vi (own := RX10) (As := [.int (v2 + (1 : Int32)), .int (2 : Int32)]) (rest := [.ref (b 10)]) (wr := xWrR b T xa xs_11 v1) hx hb hml hown hts (okX7_number z l D (xRa xa v1) T h_88) (cwV 2 hts gX10_obeys_X7_number rfl rfl rfl hdX7_number ⟨Nat.le_of_ble_eq_true rfl, Nat.le_of_ble_eq_true rfl⟩) hK hA hX hP hD hS (xpR b T xa xs_11 v1h hz_85) (xqR b T xa xs_11 v1h _ _) (ci := 7) (q0 := 0) rfl rfl rfl hl.1 rfl (Nat.le_of_ble_eq_true rfl) dX10_obeys_225 ⟨by show 0 + 0 ≤ 1; omega, by show 0 + 0 ≤ 1; omega⟩ (fun H locs hP hD hS => ?_)
        obtain ⟨xs_89, exs_89⟩ : ∃ z, z = uR xs_11 v1 (some (rz_84.1, st_87)) := ⟨_, rfl⟩
        refine W.widen (k := 0) (n := 0) (Nat.le_refl _) (Nat.le_refl _) ?_
        have hR : xRel b xa (uR xs_11 v1 (some (rz_84.1, st_87))) := hR.uR hz_85
        rw [← exs_89] at hP hD hR
        have heq := nm_h exs_89 heq
        obtain ⟨y_90, st_91, h_92, heq⟩ := bnd_h heq
        refine h_vi (own := RX10) (As := [.int y_86]) (rest := []) (wr := xWr1 b T xa xs_89) hx hb hml hown hts (okX8_passes z l D (fun j => b (10 + j)) T (fun j => some (xFo xa 1 j)) h_92) (cwV 1 hts gX10_obeys_X8_passes rfl rfl rfl hdX8_passes ⟨Nat.le_of_ble_eq_true rfl, Nat.le_of_ble_eq_true rfl⟩) hK hA hX hP hD hS (xp1 b T xa xs_89) (xq1 b T xa xs_89 _) (ci := 8) (q0 := 0) rfl rfl rfl hl.1 rfl (Nat.le_of_ble_eq_true rfl) dX10_obeys_228 ⟨by show 0 + 0 ≤ 1; omega, by show 0 + 0 ≤ 1; omega⟩ (fun H locs hP hD hS => ?_)
        obtain ⟨xs_93, exs_93⟩ : ∃ z, z = uT xs_89 1 st_91 := ⟨_, rfl⟩
        refine W.widen (k := 0) (n := 0) (Nat.le_refl _) (Nat.le_refl _) ?_
        have hR : xRel b xa (uT xs_89 1 st_91) := hR.uT _ _
        rw [← exs_93] at hP hD hR
        have heq := nm_h exs_93 heq
        obtain ⟨n_94, _, heq⟩ := gz_h heq
        obtain ⟨heq, heq2⟩ := ret_h heq
        subst heq
        subst heq2
        refine W.widen (k := 1) (n := 1) (by first | decide | omega) (by first | decide | omega) ?_
        exact hret 231 H locs ls xa hR hU hP hD hS n_94 dX10_obeys_231
      have heq := it_f c_83 heq
      by_cases c_95 : y_3 = (111 : Int32)
      · have heq := it_t c_95 heq
        refine lv_tableIn (tgt := 232) hx hb dX10_obeys_43 (by rw [c_95]; decide) (by rw [c_95]; decide) (by rw [c_95]; rfl) (by decide) ?_
        refine lv_iconst (v := (0 : Int32)) hx hb dX10_obeys_232 (by decide) ?_
        obtain ⟨n_96, _, heq⟩ := gz_h heq
        obtain ⟨heq, heq2⟩ := ret_h heq
        subst heq
        subst heq2
        refine W.widen (k := 1) (n := 1) (by first | decide | omega) (by first | decide | omega) ?_
        exact hret 233 H locs ls xa hR hU hP hD hS n_96 dX10_obeys_233
      have heq := it_f c_95 heq
      by_cases c_97 : y_3 = (112 : Int32)
      · have heq := it_t c_97 heq
        refine lv_tableIn (tgt := 232) hx hb dX10_obeys_43 (by rw [c_97]; decide) (by rw [c_97]; decide) (by rw [c_97]; rfl) (by decide) ?_
        refine lv_iconst (v := (0 : Int32)) hx hb dX10_obeys_232 (by decide) ?_
        obtain ⟨n_98, _, heq⟩ := gz_h heq
        obtain ⟨heq, heq2⟩ := ret_h heq
        subst heq
        subst heq2
        refine W.widen (k := 1) (n := 1) (by first | decide | omega) (by first | decide | omega) ?_
        exact hret 233 H locs ls xa hR hU hP hD hS n_98 dX10_obeys_233
      have heq := it_f c_97 heq
      by_cases c_99 : y_3 = (113 : Int32)
      · have heq := it_t c_99 heq
        refine lv_tableIn (tgt := 232) hx hb dX10_obeys_43 (by rw [c_99]; decide) (by rw [c_99]; decide) (by rw [c_99]; rfl) (by decide) ?_
        refine lv_iconst (v := (0 : Int32)) hx hb dX10_obeys_232 (by decide) ?_
        obtain ⟨n_100, _, heq⟩ := gz_h heq
        obtain ⟨heq, heq2⟩ := ret_h heq
        subst heq
        subst heq2
        refine W.widen (k := 1) (n := 1) (by first | decide | omega) (by first | decide | omega) ?_
        exact hret 233 H locs ls xa hR hU hP hD hS n_100 dX10_obeys_233
      have heq := it_f c_99 heq
      by_cases c_101 : y_3 = (114 : Int32)
      · have heq := it_t c_101 heq
        refine lv_tableIn (tgt := 232) hx hb dX10_obeys_43 (by rw [c_101]; decide) (by rw [c_101]; decide) (by rw [c_101]; rfl) (by decide) ?_
        refine lv_iconst (v := (0 : Int32)) hx hb dX10_obeys_232 (by decide) ?_
        obtain ⟨n_102, _, heq⟩ := gz_h heq
        obtain ⟨heq, heq2⟩ := ret_h heq
        subst heq
        subst heq2
        refine W.widen (k := 1) (n := 1) (by first | decide | omega) (by first | decide | omega) ?_
        exact hret 233 H locs ls xa hR hU hP hD hS n_102 dX10_obeys_233
      have heq := it_f c_101 heq
      by_cases c_103 : y_3 = (115 : Int32)
      · have heq := it_t c_103 heq
        refine lv_tableIn (tgt := 232) hx hb dX10_obeys_43 (by rw [c_103]; decide) (by rw [c_103]; decide) (by rw [c_103]; rfl) (by decide) ?_
        refine lv_iconst (v := (0 : Int32)) hx hb dX10_obeys_232 (by decide) ?_
        obtain ⟨n_104, _, heq⟩ := gz_h heq
        obtain ⟨heq, heq2⟩ := ret_h heq
        subst heq
        subst heq2
        refine W.widen (k := 1) (n := 1) (by first | decide | omega) (by first | decide | omega) ?_
        exact hret 233 H locs ls xa hR hU hP hD hS n_104 dX10_obeys_233
      have heq := it_f c_103 heq
      by_cases c_105 : y_3 = (116 : Int32)
      · have heq := it_t c_105 heq
        refine lv_tableIn (tgt := 232) hx hb dX10_obeys_43 (by rw [c_105]; decide) (by rw [c_105]; decide) (by rw [c_105]; rfl) (by decide) ?_
        refine lv_iconst (v := (0 : Int32)) hx hb dX10_obeys_232 (by decide) ?_
        obtain ⟨n_106, _, heq⟩ := gz_h heq
        obtain ⟨heq, heq2⟩ := ret_h heq
        subst heq
        subst heq2
        refine W.widen (k := 1) (n := 1) (by first | decide | omega) (by first | decide | omega) ?_
        exact hret 233 H locs ls xa hR hU hP hD hS n_106 dX10_obeys_233
      have heq := it_f c_105 heq
      by_cases c_107 : y_3 = (117 : Int32)
      · have heq := it_t c_107 heq
        refine lv_tableIn (tgt := 232) hx hb dX10_obeys_43 (by rw [c_107]; decide) (by rw [c_107]; decide) (by rw [c_107]; rfl) (by decide) ?_
        refine lv_iconst (v := (0 : Int32)) hx hb dX10_obeys_232 (by decide) ?_
        obtain ⟨n_108, _, heq⟩ := gz_h heq
        obtain ⟨heq, heq2⟩ := ret_h heq
        subst heq
        subst heq2
        refine W.widen (k := 1) (n := 1) (by first | decide | omega) (by first | decide | omega) ?_
        exact hret 233 H locs ls xa hR hU hP hD hS n_108 dX10_obeys_233
      have heq := it_f c_107 heq
      by_cases c_109 : y_3 = (118 : Int32)
      · have heq := it_t c_109 heq
        refine lv_tableIn (tgt := 232) hx hb dX10_obeys_43 (by rw [c_109]; decide) (by rw [c_109]; decide) (by rw [c_109]; rfl) (by decide) ?_
        refine lv_iconst (v := (0 : Int32)) hx hb dX10_obeys_232 (by decide) ?_
        obtain ⟨n_110, _, heq⟩ := gz_h heq
        obtain ⟨heq, heq2⟩ := ret_h heq
        subst heq
        subst heq2
        refine W.widen (k := 1) (n := 1) (by first | decide | omega) (by first | decide | omega) ?_
        exact hret 233 H locs ls xa hR hU hP hD hS n_110 dX10_obeys_233
      have heq := it_f c_109 heq
      by_cases c_111 : y_3 = (119 : Int32)
      · have heq := it_t c_111 heq
        refine lv_tableIn (tgt := 163) hx hb dX10_obeys_43 (by rw [c_111]; decide) (by rw [c_111]; decide) (by rw [c_111]; rfl) (by decide) ?_
        refine lv_aload_n hx hb dX10_obeys_163 rfl (lv_at hl 1 rfl) ?_
        refine lv_iconst (v := (2 : Int32)) hx hb dX10_obeys_164 (by decide) ?_
        refine lv_aload_n hx hb dX10_obeys_165 rfl (lv_at hl 2 rfl) ?_
        refine lv_iload_n hx hb dX10_obeys_166 rfl (lv_at hl 3 rfl) ?_
        obtain ⟨y_112, xs_113, h_114, heq⟩ := bnd_h heq
        refine x_si (own := RX10) (As := [.ref (b 10), .int (2 : Int32), .ref (xRa xa v1 0), .int v2]) (rest := []) hx hb hml hown hts (okX10_tellsPair z l D T b hR v1h h_114) (va_cwS 4 hts gX10_obeys_X10_tellsPair rfl rfl rfl (hdX10_tellsPair).2 ⟨Nat.le_of_ble_eq_true rfl, Nat.le_of_ble_eq_true rfl⟩) hK hA hX hP hD hS rfl hl.1 rfl (Nat.le_of_ble_eq_true rfl) dX10_obeys_167 ⟨by show 0 + 0 ≤ 1; omega, by show 0 + 0 ≤ 1; omega⟩ (fun xa_115 H locs hR hsxa_115 hP hD hS => ?_)
        refine W.widen (k := 0) (n := 0) (Nat.le_refl _) (Nat.le_refl _) ?_
        have hU := xSub.tr hU hsxa_115
        have hl : lv_has ls 4 [(3, .int y_3), (0, .ref (b 10)), (1, .ref (xRa xa_115 v1 0)), (2, .int v2)] := by rw [hsxa_115.2.2]; exact hl
        obtain ⟨n_117, _, heq⟩ := gz_h heq
        obtain ⟨heq, heq2⟩ := ret_h heq
        subst heq
        subst heq2
        refine W.widen (k := 1) (n := 1) (by first | decide | omega) (by first | decide | omega) ?_
        exact hret 170 H locs ls xa_115 hR hU hP hD hS n_117 dX10_obeys_170
      have heq := it_f c_111 heq
      refine lv_tableOut (tgt := 232) hx hb dX10_obeys_43 (sw_out fun k h1 h2 => ?_) (by decide) ?_
      · rcases (show k = 97 ∨ k = 98 ∨ k = 99 ∨ k = 100 ∨ k = 101 ∨ k = 102 ∨ k = 103 ∨ k = 104 ∨ k = 105 ∨ k = 106 ∨ k = 107 ∨ k = 108 ∨ k = 109 ∨ k = 110 ∨ k = 111 ∨ k = 112 ∨ k = 113 ∨ k = 114 ∨ k = 115 ∨ k = 116 ∨ k = 117 ∨ k = 118 ∨ k = 119 by omega) with rfl | rfl | rfl | rfl | rfl | rfl | rfl | rfl | rfl | rfl | rfl | rfl | rfl | rfl | rfl | rfl | rfl | rfl | rfl | rfl | rfl | rfl | rfl
        · exact c_13
        · exact c_25
        · exact c_27
        · exact c_34
        · exact c_36
        · exact c_38
        · exact c_44
        · exact c_56
        · exact c_68
        · exact c_70
        · exact c_72
        · exact c_74
        · exact c_81
        · exact c_83
        · exact c_95
        · exact c_97
        · exact c_99
        · exact c_101
        · exact c_103
        · exact c_105
        · exact c_107
        · exact c_109
        · exact c_111
      refine lv_iconst (v := (0 : Int32)) hx hb dX10_obeys_232 (by decide) ?_
      obtain ⟨n_118, _, heq⟩ := gz_h heq
      obtain ⟨heq, heq2⟩ := ret_h heq
      subst heq
      subst heq2
      refine W.widen (k := 1) (n := 1) (by first | decide | omega) (by first | decide | omega) ?_
      exact hret 233 H locs ls xa hR hU hP hD hS n_118 dX10_obeys_233
    have heq := it_f c_12 heq
    refine lv_iconst (v := (0 : Int32)) hx hb dX10_obeys_40 (by decide) ?_
    obtain ⟨n_119, _, heq⟩ := gz_h heq
    obtain ⟨heq, heq2⟩ := ret_h heq
    subst heq
    subst heq2
    refine W.widen (k := 1) (n := 1) (by first | decide | omega) (by first | decide | omega) ?_
    exact hret 41 H locs ls xa hR hU hP hD hS n_119 dX10_obeys_41
  have heq := it_t c_7 heq
  refine lv_aload_n hx hb dX10_obeys_12 rfl (lv_at hl 1 rfl) ?_
  refine lv_aload_n hx hb dX10_obeys_13 rfl (lv_at hl 2 rfl) ?_
  refine lv_iload_n hx hb dX10_obeys_14 rfl (lv_at hl 3 rfl) ?_
  refine lv_iconst (v := (1 : Int32)) hx hb dX10_obeys_15 (by decide) ?_
  refine lv_iadd hx hb dX10_obeys_16 ?_
  refine lv_iconst (v := (2 : Int32)) hx hb dX10_obeys_17 (by decide) ?_
  obtain ⟨rz_120, hz_121, heq⟩ := bd1_h heq
  obtain ⟨y_122, st_123, h_124, heq⟩ := bnd_h heq
  refine h_vi (own := RX10) (As := [.int (v2 + (1 : Int32)), .int (2 : Int32)]) (rest := [.ref (b 10)]) (wr := xWrR b T xa xs_6 v1) hx hb hml hown hts (okX7_number z l D (xRa xa v1) T h_124) (cwV 2 hts gX10_obeys_X7_number rfl rfl rfl hdX7_number ⟨Nat.le_of_ble_eq_true rfl, Nat.le_of_ble_eq_true rfl⟩) hK hA hX hP hD hS (xpR b T xa xs_6 v1h hz_121) (xqR b T xa xs_6 v1h _ _) (ci := 7) (q0 := 0) rfl rfl rfl hl.1 rfl (Nat.le_of_ble_eq_true rfl) dX10_obeys_18 ⟨by show 0 + 0 ≤ 1; omega, by show 0 + 0 ≤ 1; omega⟩ (fun H locs hP hD hS => ?_)
  obtain ⟨xs_125, exs_125⟩ : ∃ z, z = uR xs_6 v1 (some (rz_120.1, st_123)) := ⟨_, rfl⟩
  refine W.widen (k := 0) (n := 0) (Nat.le_refl _) (Nat.le_refl _) ?_
  have hR : xRel b xa (uR xs_6 v1 (some (rz_120.1, st_123))) := hR.uR hz_121
  rw [← exs_125] at hP hD hR
  have heq := nm_h exs_125 heq
  refine lv_aload_n hx hb dX10_obeys_21 rfl (lv_at hl 2 rfl) ?_
  refine lv_iload_n hx hb dX10_obeys_22 rfl (lv_at hl 3 rfl) ?_
  refine lv_iconst (v := (3 : Int32)) hx hb dX10_obeys_23 (by decide) ?_
  refine lv_iadd hx hb dX10_obeys_24 ?_
  refine lv_iconst (v := (3 : Int32)) hx hb dX10_obeys_25 (by decide) ?_
  obtain ⟨rz_126, hz_127, heq⟩ := bd1_h heq
  obtain ⟨y_128, st_129, h_130, heq⟩ := bnd_h heq
  refine h_vi (own := RX10) (As := [.int (v2 + (3 : Int32)), .int (3 : Int32)]) (rest := [.int y_122, .ref (b 10)]) (wr := xWrR b T xa xs_125 v1) hx hb hml hown hts (okX7_number z l D (xRa xa v1) T h_130) (cwV 2 hts gX10_obeys_X7_number rfl rfl rfl hdX7_number ⟨Nat.le_of_ble_eq_true rfl, Nat.le_of_ble_eq_true rfl⟩) hK hA hX hP hD hS (xpR b T xa xs_125 v1h hz_127) (xqR b T xa xs_125 v1h _ _) (ci := 7) (q0 := 0) rfl rfl rfl hl.1 rfl (Nat.le_of_ble_eq_true rfl) dX10_obeys_26 ⟨by show 0 + 0 ≤ 1; omega, by show 0 + 0 ≤ 1; omega⟩ (fun H locs hP hD hS => ?_)
  obtain ⟨xs_131, exs_131⟩ : ∃ z, z = uR xs_125 v1 (some (rz_126.1, st_129)) := ⟨_, rfl⟩
  refine W.widen (k := 0) (n := 0) (Nat.le_refl _) (Nat.le_refl _) ?_
  have hR : xRel b xa (uR xs_125 v1 (some (rz_126.1, st_129))) := hR.uR hz_127
  rw [← exs_131] at hP hD hR
  have heq := nm_h exs_131 heq
  obtain ⟨y_132, st_133, h_134, heq⟩ := bnd_h heq
  refine h_vi (own := RX10) (As := [.int y_122, .int y_128]) (rest := []) (wr := xWr1 b T xa xs_131) hx hb hml hown hts (okX8_addHouse z l D (fun j => b (10 + j)) T (fun j => some (xFo xa 1 j)) h_134) (cwV 2 hts gX10_obeys_X8_addHouse rfl rfl rfl hdX8_addHouse ⟨Nat.le_of_ble_eq_true rfl, Nat.le_of_ble_eq_true rfl⟩) hK hA hX hP hD hS (xp1 b T xa xs_131) (xq1 b T xa xs_131 _) (ci := 8) (q0 := 0) rfl rfl rfl hl.1 rfl (Nat.le_of_ble_eq_true rfl) dX10_obeys_29 ⟨by show 0 + 0 ≤ 1; omega, by show 0 + 0 ≤ 1; omega⟩ (fun H locs hP hD hS => ?_)
  obtain ⟨xs_135, exs_135⟩ : ∃ z, z = uT xs_131 1 st_133 := ⟨_, rfl⟩
  refine W.widen (k := 0) (n := 0) (Nat.le_refl _) (Nat.le_refl _) ?_
  have hR : xRel b xa (uT xs_131 1 st_133) := hR.uT _ _
  rw [← exs_135] at hP hD hR
  have heq := nm_h exs_135 heq
  obtain ⟨n_136, _, heq⟩ := gz_h heq
  obtain ⟨heq, heq2⟩ := ret_h heq
  subst heq
  subst heq2
  refine W.widen (k := 1) (n := 1) (by first | decide | omega) (by first | decide | omega) ?_
  exact hret 32 H locs ls xa hR hU hP hD hS n_136 dX10_obeys_32
set_option maxRecDepth 20000 in
theorem ggX10_town_X10_rowOn : GoodIn wsX10_town wsX10_rowOn := goodIn_r _ [8, 9, 10, 11, 7, 12, 268, 269, 270, 271, 272, 273, 274] (by decide +kernel) (by decide +kernel)
set_option maxRecDepth 20000 in
theorem gX10_town_X10_rowOn : GoodIn wsX10_town (wsV RX10 43 RX10 yX10_rowOn wsX10_rowOn) := goodIn_app (goodIn_of _ (by decide +kernel)) ggX10_town_X10_rowOn
set_option maxRecDepth 20000 in
theorem ggX10_town_X10_refusal : GoodIn wsX10_town wsX10_refusal := goodIn_r _ [16, 10, 11, 7, 12, 17, 18, 19, 20, 21, 9, 268, 269, 270, 271, 272, 273, 274] (by decide +kernel) (by decide +kernel)
set_option maxRecDepth 20000 in
theorem gX10_town_X10_refusal : GoodIn wsX10_town (wsV RX10 47 RX10 yX10_refusal wsX10_refusal) := goodIn_app (goodIn_of _ (by decide +kernel)) ggX10_town_X10_refusal
set_option maxRecDepth 20000 in
theorem ggX10_town_X10_firstUnread : GoodIn wsX10_town wsX10_firstUnread := goodIn_r _ [24, 25, 26, 27, 28, 29, 30, 31, 32, 33, 34, 35, 36, 7, 37, 38, 39, 40, 41, 42, 43, 44, 45, 46, 266, 267] (by decide +kernel) (by decide +kernel)
set_option maxRecDepth 20000 in
theorem gX10_town_X10_firstUnread : GoodIn wsX10_town (va_wsS RX10 55 yX10_firstUnread wsX10_firstUnread) := goodIn_app (goodIn_of _ (by decide +kernel)) ggX10_town_X10_firstUnread
set_option maxRecDepth 20000 in
theorem ggX10_town_X8_takeFrom : GoodIn wsX10_town wsX8_takeFrom := goodIn_r _ [51, 52, 53, 54, 55, 56, 57, 58, 59, 60, 61, 275, 276, 277, 278, 279, 280, 281, 282, 283, 284] (by decide +kernel) (by decide +kernel)
set_option maxRecDepth 20000 in
theorem gX10_town_X8_takeFrom : GoodIn wsX10_town (wsV RX10 59 RX8 yX8_takeFrom wsX8_takeFrom) := goodIn_app (goodIn_of _ (by decide +kernel)) ggX10_town_X8_takeFrom
set_option maxRecDepth 20000 in
theorem ggX10_town_X7_size : GoodIn wsX10_town wsX7_size := goodIn_r _ [46, 30, 266, 267] (by decide +kernel) (by decide +kernel)
set_option maxRecDepth 20000 in
theorem gX10_town_X7_size : GoodIn wsX10_town (wsV RX10 63 RX7 yX7_size wsX7_size) := goodIn_app (goodIn_of _ (by decide +kernel)) ggX10_town_X7_size
set_option maxRecDepth 20000 in
theorem ggX10_town_X10_obeys : GoodIn wsX10_town wsX10_obeys := goodIn_r _ [64, 25, 26, 27, 28, 29, 30, 31, 32, 33, 34, 65, 66, 67, 68, 42, 69, 70, 71, 50, 72, 58, 56, 57, 73, 7, 74, 75, 76, 77, 78, 61, 79, 80, 81, 82, 83, 84, 85, 86, 87, 88, 89, 90, 91, 92, 93, 94, 95, 96, 97, 98, 99, 100, 101, 102, 103, 104, 105, 106, 107, 108, 109, 110, 111, 112, 113, 114, 115, 116, 117, 118, 119, 120, 121, 122, 123, 124, 125, 126, 127, 128, 129, 130, 131, 132, 133, 134, 135, 136, 137, 138, 139, 140, 141, 142, 143, 144, 145, 146, 147, 148, 52, 53, 54, 149, 150, 151, 152, 153, 154, 155, 156, 157, 158, 159, 160, 161, 162, 163, 164, 165, 166, 167, 168, 169, 170, 171, 172, 173, 174, 175, 176, 177, 178, 179, 180, 181, 182, 183, 184, 185, 186, 187, 188, 189, 190, 191, 192, 193, 194, 195, 196, 197, 198, 199, 200, 201, 202, 203, 204, 205, 206, 207, 208, 209, 210, 211, 212, 213, 214, 215, 216, 217, 218, 55, 219, 220, 221, 222, 223, 224, 225, 226, 59, 227, 228, 229, 230, 231, 60, 232, 233, 234, 235, 236, 237, 238, 239, 240, 241, 242, 243, 244, 245, 246, 247, 248, 249, 250, 251, 252, 253, 254, 266, 267, 275, 276, 277, 278, 279, 280, 281, 282, 283, 284, 285, 286, 287, 288, 289, 290, 291, 292] (by decide +kernel) (by decide +kernel)
set_option maxRecDepth 20000 in
theorem gX10_town_X10_obeys : GoodIn wsX10_town (va_wsS RX10 67 yX10_obeys wsX10_obeys) := goodIn_app (goodIn_of _ (by decide +kernel)) ggX10_town_X10_obeys
set_option maxRecDepth 20000 in
theorem ggX10_town_X8_settle : GoodIn wsX10_town wsX8_settle := goodIn_r _ [258, 60, 61, 227, 76, 77, 50, 78, 232, 233, 234, 235, 236, 237, 238, 239, 240, 241, 242, 243, 55, 244, 245, 246, 247, 248, 249, 250, 251, 252, 253, 254, 54, 53, 275, 276, 277, 278, 279, 280, 281, 282, 283, 284] (by decide +kernel) (by decide +kernel)
set_option maxRecDepth 20000 in
theorem gX10_town_X8_settle : GoodIn wsX10_town (wsV RX10 71 RX8 yX8_settle wsX8_settle) := goodIn_app (goodIn_of _ (by decide +kernel)) ggX10_town_X8_settle
set_option maxRecDepth 20000 in
theorem ggX10_town_X7_at : GoodIn wsX10_town wsX7_at := goodIn_r _ [29, 30, 31, 32, 33, 28, 34, 266, 267] (by decide +kernel) (by decide +kernel)
set_option maxRecDepth 20000 in
theorem gX10_town_X7_at : GoodIn wsX10_town (wsV RX10 74 RX7 yX7_at wsX7_at) := goodIn_app (goodIn_of _ (by decide +kernel)) ggX10_town_X7_at
set_option maxRecDepth 20000 in
theorem ggX10_town_X10_lengthOf : GoodIn wsX10_town wsX10_lengthOf := goodIn_r _ [261, 262, 263, 264, 265, 35, 36, 7, 37] (by decide +kernel) (by decide +kernel)
set_option maxRecDepth 20000 in
theorem gX10_town_X10_lengthOf : GoodIn wsX10_town (va_wsS RX10 77 yX10_lengthOf wsX10_lengthOf) := goodIn_app (goodIn_of _ (by decide +kernel)) ggX10_town_X10_lengthOf
theorem dX10_town_0 : decode cX10_town 0 = .ok (.aload_n 0, 1) := by decide +kernel
theorem dX10_town_1 : decode cX10_town 1 = .ok (.iload_n 1, 1) := by decide +kernel
theorem dX10_town_2 : decode cX10_town 2 = .ok (.invokevirtual 43, 3) := by decide +kernel
theorem dX10_town_5 : decode cX10_town 5 = .ok (.astore_n 2, 1) := by decide +kernel
theorem dX10_town_6 : decode cX10_town 6 = .ok (.aload_n 2, 1) := by decide +kernel
theorem dX10_town_7 : decode cX10_town 7 = .ok (.ifnonnull 9, 3) := by decide +kernel
theorem dX10_town_10 : decode cX10_town 10 = .ok (.aload_n 0, 1) := by decide +kernel
theorem dX10_town_11 : decode cX10_town 11 = .ok (.iload_n 1, 1) := by decide +kernel
theorem dX10_town_12 : decode cX10_town 12 = .ok (.invokevirtual 47, 3) := by decide +kernel
theorem dX10_town_15 : decode cX10_town 15 = .ok (.ireturn, 1) := by decide +kernel
theorem dX10_town_16 : decode cX10_town 16 = .ok (.aload_n 2, 1) := by decide +kernel
theorem dX10_town_17 : decode cX10_town 17 = .ok (.getfield 51, 3) := by decide +kernel
theorem dX10_town_20 : decode cX10_town 20 = .ok (.ifCond .eq 6, 3) := by decide +kernel
theorem dX10_town_23 : decode cX10_town 23 = .ok (.bipush (-12), 2) := by decide +kernel
theorem dX10_town_25 : decode cX10_town 25 = .ok (.ireturn, 1) := by decide +kernel
theorem dX10_town_26 : decode cX10_town 26 = .ok (.aload_n 2, 1) := by decide +kernel
theorem dX10_town_27 : decode cX10_town 27 = .ok (.invokestatic 55, 3) := by decide +kernel
theorem dX10_town_30 : decode cX10_town 30 = .ok (.istore_n 3, 1) := by decide +kernel
theorem dX10_town_31 : decode cX10_town 31 = .ok (.iload_n 3, 1) := by decide +kernel
theorem dX10_town_32 : decode cX10_town 32 = .ok (.bipush (-4), 2) := by decide +kernel
theorem dX10_town_34 : decode cX10_town 34 = .ok (.if_icmp .eq 9, 3) := by decide +kernel
theorem dX10_town_37 : decode cX10_town 37 = .ok (.sipush (-1000), 3) := by decide +kernel
theorem dX10_town_40 : decode cX10_town 40 = .ok (.iload_n 3, 1) := by decide +kernel
theorem dX10_town_41 : decode cX10_town 41 = .ok (.isub, 1) := by decide +kernel
theorem dX10_town_42 : decode cX10_town 42 = .ok (.ireturn, 1) := by decide +kernel
theorem dX10_town_43 : decode cX10_town 43 = .ok (.aload_n 0, 1) := by decide +kernel
theorem dX10_town_44 : decode cX10_town 44 = .ok (.getfield 16, 3) := by decide +kernel
theorem dX10_town_47 : decode cX10_town 47 = .ok (.aload_n 0, 1) := by decide +kernel
theorem dX10_town_48 : decode cX10_town 48 = .ok (.getfield 10, 3) := by decide +kernel
theorem dX10_town_51 : decode cX10_town 51 = .ok (.invokevirtual 59, 3) := by decide +kernel
theorem dX10_town_54 : decode cX10_town 54 = .ok (.iconst 0, 1) := by decide +kernel
theorem dX10_town_55 : decode cX10_town 55 = .ok (.istore 4, 2) := by decide +kernel
theorem dX10_town_57 : decode cX10_town 57 = .ok (.iconst 0, 1) := by decide +kernel
theorem dX10_town_58 : decode cX10_town 58 = .ok (.istore 5, 2) := by decide +kernel
theorem dX10_town_60 : decode cX10_town 60 = .ok (.iload 5, 2) := by decide +kernel
theorem dX10_town_62 : decode cX10_town 62 = .ok (.aload_n 2, 1) := by decide +kernel
theorem dX10_town_63 : decode cX10_town 63 = .ok (.invokevirtual 63, 3) := by decide +kernel
theorem dX10_town_66 : decode cX10_town 66 = .ok (.if_icmp .ge 57, 3) := by decide +kernel
theorem dX10_town_69 : decode cX10_town 69 = .ok (.iload 4, 2) := by decide +kernel
theorem dX10_town_71 : decode cX10_town 71 = .ok (.bipush 100, 2) := by decide +kernel
theorem dX10_town_73 : decode cX10_town 73 = .ok (.if_icmp .ge 50, 3) := by decide +kernel
theorem dX10_town_76 : decode cX10_town 76 = .ok (.aload_n 0, 1) := by decide +kernel
theorem dX10_town_77 : decode cX10_town 77 = .ok (.getfield 16, 3) := by decide +kernel
theorem dX10_town_80 : decode cX10_town 80 = .ok (.aload_n 2, 1) := by decide +kernel
theorem dX10_town_81 : decode cX10_town 81 = .ok (.iload 5, 2) := by decide +kernel
theorem dX10_town_83 : decode cX10_town 83 = .ok (.invokestatic 67, 3) := by decide +kernel
theorem dX10_town_86 : decode cX10_town 86 = .ok (.ifCond .ne 10, 3) := by decide +kernel
theorem dX10_town_89 : decode cX10_town 89 = .ok (.sipush (-2000), 3) := by decide +kernel
theorem dX10_town_92 : decode cX10_town 92 = .ok (.iload 5, 2) := by decide +kernel
theorem dX10_town_94 : decode cX10_town 94 = .ok (.isub, 1) := by decide +kernel
theorem dX10_town_95 : decode cX10_town 95 = .ok (.ireturn, 1) := by decide +kernel
theorem dX10_town_96 : decode cX10_town 96 = .ok (.aload_n 0, 1) := by decide +kernel
theorem dX10_town_97 : decode cX10_town 97 = .ok (.getfield 16, 3) := by decide +kernel
theorem dX10_town_100 : decode cX10_town 100 = .ok (.invokevirtual 71, 3) := by decide +kernel
theorem dX10_town_103 : decode cX10_town 103 = .ok (.iinc 4 1, 3) := by decide +kernel
theorem dX10_town_106 : decode cX10_town 106 = .ok (.iload 5, 2) := by decide +kernel
theorem dX10_town_108 : decode cX10_town 108 = .ok (.aload_n 2, 1) := by decide +kernel
theorem dX10_town_109 : decode cX10_town 109 = .ok (.iload 5, 2) := by decide +kernel
theorem dX10_town_111 : decode cX10_town 111 = .ok (.invokevirtual 74, 3) := by decide +kernel
theorem dX10_town_114 : decode cX10_town 114 = .ok (.invokestatic 77, 3) := by decide +kernel
theorem dX10_town_117 : decode cX10_town 117 = .ok (.iadd, 1) := by decide +kernel
theorem dX10_town_118 : decode cX10_town 118 = .ok (.istore 5, 2) := by decide +kernel
theorem dX10_town_120 : decode cX10_town 120 = .ok (.goto (-60), 3) := by decide +kernel
theorem dX10_town_123 : decode cX10_town 123 = .ok (.aload_n 0, 1) := by decide +kernel
theorem dX10_town_124 : decode cX10_town 124 = .ok (.getfield 10, 3) := by decide +kernel
theorem dX10_town_127 : decode cX10_town 127 = .ok (.aload_n 0, 1) := by decide +kernel
theorem dX10_town_128 : decode cX10_town 128 = .ok (.getfield 16, 3) := by decide +kernel
theorem dX10_town_131 : decode cX10_town 131 = .ok (.invokevirtual 59, 3) := by decide +kernel
theorem dX10_town_134 : decode cX10_town 134 = .ok (.iload 4, 2) := by decide +kernel
theorem dX10_town_136 : decode cX10_town 136 = .ok (.ireturn, 1) := by decide +kernel
/-! X10 town -/
def X10_town_p89 (xs : XS) (v5 : Int32) : Option (Int32 × XS) :=
    some (((-2000 : Int32) - v5), xs)
def X10_town_p123 (xs : XS) (v4 : Int32) : Option (Int32 × XS) :=
    bnd (X8_takeFrom_0_1 xs) fun _ xs_1 =>
    some (v4, xs_1)
def X10_town_p60 : Nat → XS → Nat → Int32 → Int32 → Option (Int32 × XS)
  | 0, _, _, _, _ => none
  | n + 1, xs, v2, v4, v5 =>
    bd1 (xR xs v2) fun rz_5 =>
    bnd (X7_size rz_5.1 rz_5.2) fun y_7 st_8 =>
    nm (uR xs v2 (some (rz_5.1, st_8))) fun xs_10 =>
    if y_7 ≤ v5 then
      (X10_town_p123 xs_10 v4)
    else
    if (100 : Int32) ≤ v4 then
      (X10_town_p123 xs_10 v4)
    else
    bnd (X10_obeys xs_10 v2 v5) fun y_13 xs_14 =>
    if y_13 = 0 then
      (X10_town_p89 xs_14 v5)
    else
    bnd (X8_settle (xT xs_14 1)) fun _ st_19 =>
    nm (uT xs_14 1 st_19) fun xs_21 =>
    nm (v4 + (1 : Int32)) fun x_22 =>
    bd1 (xR xs_21 v2) fun rz_23 =>
    bnd (X7_at rz_23.1 rz_23.2 v5) fun y_25 st_26 =>
    nm (uR xs_21 v2 (some (rz_23.1, st_26))) fun xs_28 =>
    bd1 (X10_lengthOf y_25) fun y_29 =>
    nm ((v5 + y_29)) fun x_31 =>
    X10_town_p60 n xs_28 v2 x_22 x_31
theorem X10_town_p60_s (n : Nat) (xs : XS) (v2 : Nat) (v4 : Int32) (v5 : Int32) : X10_town_p60 (n + 1) xs v2 v4 v5 =
    (bd1 (xR xs v2) fun rz_5 =>
    bnd (X7_size rz_5.1 rz_5.2) fun y_7 st_8 =>
    nm (uR xs v2 (some (rz_5.1, st_8))) fun xs_10 =>
    if y_7 ≤ v5 then
      (X10_town_p123 xs_10 v4)
    else
    if (100 : Int32) ≤ v4 then
      (X10_town_p123 xs_10 v4)
    else
    bnd (X10_obeys xs_10 v2 v5) fun y_13 xs_14 =>
    if y_13 = 0 then
      (X10_town_p89 xs_14 v5)
    else
    bnd (X8_settle (xT xs_14 1)) fun _ st_19 =>
    nm (uT xs_14 1 st_19) fun xs_21 =>
    nm (v4 + (1 : Int32)) fun x_22 =>
    bd1 (xR xs_21 v2) fun rz_23 =>
    bnd (X7_at rz_23.1 rz_23.2 v5) fun y_25 st_26 =>
    nm (uR xs_21 v2 (some (rz_23.1, st_26))) fun xs_28 =>
    bd1 (X10_lengthOf y_25) fun y_29 =>
    nm ((v5 + y_29)) fun x_31 =>
    X10_town_p60 n xs_28 v2 x_22 x_31) := rfl
def X10_town (xs : XS) (v1 : Int32) : Option (Int32 × XS) :=
    bnd (X10_rowOn xs v1) fun y_32 xs_33 =>
    ob y_32
      (bnd (X10_refusal xs_33 v1) fun y_41 xs_42 =>
      some (y_41, xs_42))
    fun k_37 =>
    bd1 (xR xs_33 k_37) fun rz_47 =>
    if (gF rz_47.2 0) = 0 then
      (bnd (X10_firstUnread xs_33 k_37) fun y_51 xs_52 =>
      if y_51 = (-4 : Int32) then
        (bnd (X8_takeFrom_1_0 xs_52) fun _ xs_57 =>
        X10_town_p60 101 xs_57 k_37 (0 : Int32) (0 : Int32))
      else
      some (((-1000 : Int32) - y_51), xs_52))
    else
    some ((-12 : Int32), xs_33)
abbrev rmX10_town : Room := { frames := 7, cells := 101, slots := 101, locals := 143 }
theorem hdX10_town : yX10_town.cls = RX10 ∧ yX10_town.cls ≠ "java/lang/invoke/MethodHandle" ∧ yX10_town.cls ≠ "java/lang/invoke/VarHandle" ∧ (parseMethodDescriptor yX10_town.desc).map (fun d => d.parameters.length) = some 1 := by decide +kernel
set_option maxRecDepth 100000 in
set_option maxHeartbeats 8000000 in
theorem okX10_town (z : Nat → Nat) (l : Launch) (D : va_G) (T : mT3) (b : Nat → Nat) {xa : XA} {xs : XS} {v1 : Int32} {r : Int32} {xs' : XS} (hR : xRel b xa xs) (heq : X10_town xs v1 = some (r, xs')) : hXi xSub z l D T b yX10_town wsX10_town rmX10_town [.ref (b 0), .int v1] xa xs r xs' := by
  refine xbody_i (plainFor_of_name (by decide)) rfl (Nat.le_of_ble_eq_true rfl) (fun p e s m args below meth c A Q hx hb hml hown hts hK hA hX hret ls hP hD hS hl => ?_)
  have hl : lv_has ls 6 [(0, .ref (b 0)), (1, .int v1)] := hl
  have hin10 : ∀ w ∈ wsX100, w ∈ wsX10_town := by decide +kernel
  have hin7 : ∀ w ∈ wsX70, w ∈ wsX10_town := by decide +kernel
  have f10 : (Cond.fieldLink RX10 10 RX10 (TX10 0).2.1 (TX10 0).2.2.1).before args s = true := hts (.fieldLink RX10 10 RX10 "now" "LLaidDownTheLane$Town;") (by decide +kernel)
  have f16 : (Cond.fieldLink RX10 16 RX10 (TX10 1).2.1 (TX10 1).2.2.1).before args s = true := hts (.fieldLink RX10 16 RX10 "trial" "LLaidDownTheLane$Town;") (by decide +kernel)
  have f51 : (Cond.fieldLink RX10 51 RX7 (TX7 0).2.1 (TX7 0).2.2.1).before args s = true := hts (.fieldLink RX10 51 RX7 "sort" "I") (by decide +kernel)
  obtain ⟨xa0, hxa0⟩ : ∃ z : XA, z = xa := ⟨_, rfl⟩
  rw [← hxa0] at hret
  have hU : xSub xa0 xa := by rw [hxa0]; exact xSub.rf
  clear hxa0
  have b89 : ∀ (xs : XS) (v5 : Int32) (xa : XA) (H : Heap) (locs : List Loc) (ls : Array Slot), xRel b xa xs → xSub xa0 xa → va_P D vwCl (xW b T xa xs) H → va_D A (xW b T xa xs) → va_S A s.heap H locs → lv_has ls 6 [(5, .int v5)] → X10_town_p89 xs v5 = some (r, xs') → W p l e rmX10_town s m args below meth c H locs 101 101 Q (F0 m 89 ls []) := by
    intro xs v5 xa H locs ls hR hU hP hD hS hl heq
    unfold X10_town_p89 at heq
    refine lv_sipush (v := (-2000 : Int32)) hx hb dX10_town_89 (by decide) ?_
    refine lv_iload hx hb dX10_town_92 (lv_at hl 0 rfl) ?_
    refine lv_isub hx hb dX10_town_94 ?_
    obtain ⟨heq, heq2⟩ := ret_h heq
    subst heq
    subst heq2
    refine W.widen (k := 101) (n := 101) (by first | decide | omega) (by first | decide | omega) ?_
    exact hret 95 H locs ls xa hR hU hP hD hS rfl dX10_town_95
  have b123 : ∀ (xs : XS) (v4 : Int32) (xa : XA) (H : Heap) (locs : List Loc) (ls : Array Slot), xRel b xa xs → xSub xa0 xa → va_P D vwCl (xW b T xa xs) H → va_D A (xW b T xa xs) → va_S A s.heap H locs → lv_has ls 6 [(0, .ref (b 0)), (4, .int v4)] → X10_town_p123 xs v4 = some (r, xs') → W p l e rmX10_town s m args below meth c H locs 101 101 Q (F0 m 123 ls []) := by
    intro xs v4 xa H locs ls hR hU hP hD hS hl heq
    unfold X10_town_p123 at heq
    refine lv_aload_n hx hb dX10_town_123 rfl (lv_at hl 0 rfl) ?_
    refine va_get (D := D) (ci := 10) (v := .ref (b 3)) (C := RX10) (T := TX10) (N := 7) hx hb hts hin10 hown hK hP 0 rfl rfl 0 (by decide) f10 (fun _ h9 => h9) rfl dX10_town_124 ?_
    refine lv_aload_n hx hb dX10_town_127 rfl (lv_at hl 0 rfl) ?_
    refine va_get (D := D) (ci := 10) (v := .ref (b 10)) (C := RX10) (T := TX10) (N := 7) hx hb hts hin10 hown hK hP 0 rfl rfl 1 (by decide) f16 (fun _ h9 => h9) rfl dX10_town_128 ?_
    obtain ⟨⟨⟩, xs_1, h_2, heq⟩ := bnd_h heq
    refine x_vv (own := RX10) (As := [.ref (b 10)]) (rest := []) hx hb hml hown hts (okX8_takeFrom_0_1 z l D T b hR h_2) (cwV 1 hts gX10_town_X8_takeFrom rfl rfl rfl hdX8_takeFrom ⟨Nat.le_of_ble_eq_true rfl, Nat.le_of_ble_eq_true rfl⟩) hK hA hX hP hD hS (ci := 8) (q0 := 3) rfl rfl rfl hl.1 rfl (Nat.le_of_ble_eq_true rfl) dX10_town_131 ⟨by show 101 + 0 ≤ 101; omega, by show 101 + 0 ≤ 101; omega⟩ (fun xa_3 H locs hR hsxa_3 hP hD hS => ?_)
    refine W.widen (k := 101) (n := 101) (Nat.le_refl _) (Nat.le_refl _) ?_
    have hU := xSub.tr hU hsxa_3
    refine lv_iload hx hb dX10_town_134 (lv_at hl 1 rfl) ?_
    obtain ⟨heq, heq2⟩ := ret_h heq
    subst heq
    subst heq2
    refine W.widen (k := 101) (n := 101) (by first | decide | omega) (by first | decide | omega) ?_
    exact hret 136 H locs ls xa_3 hR hU hP hD hS rfl dX10_town_136
  have b60 : ∀ (n : Nat), ∀ (cs : Nat) (_ : cs + n ≤ 101) (xs : XS) (v2 : Nat) (v4 : Int32) (v5 : Int32) (xa : XA) (v2h : v2 < 8) (H : Heap) (locs : List Loc) (ls : Array Slot), xRel b xa xs → xSub xa0 xa → va_P D vwCl (xW b T xa xs) H → va_D A (xW b T xa xs) → va_S A s.heap H locs → lv_has ls 6 [(0, .ref (b 0)), (2, .ref (xRa xa v2 0)), (4, .int v4), (5, .int v5)] → X10_town_p60 n xs v2 v4 v5 = some (r, xs') → W p l e rmX10_town s m args below meth c H locs cs cs Q (F0 m 60 ls []) := by
    intro n
    induction n with
    | zero => intro cs hcs xs v2 v4 v5 xa v2h H locs ls hR hU hP hD hS hl heq; cases heq
    | succ n ih =>
      intro cs hcs xs v2 v4 v5 xa v2h H locs ls hR hU hP hD hS hl heq
      rw [X10_town_p60_s] at heq
      refine lv_iload hx hb dX10_town_60 (lv_at hl 3 rfl) ?_
      refine lv_aload_n hx hb dX10_town_62 rfl (lv_at hl 1 rfl) ?_
      obtain ⟨rz_5, hz_6, heq⟩ := bd1_h heq
      obtain ⟨y_7, st_8, h_9, heq⟩ := bnd_h heq
      refine h_vi (own := RX10) (As := []) (rest := [.int v5]) (wr := xWrR b T xa xs v2) hx hb hml hown hts (okX7_size z l D (xRa xa v2) T h_9) (cwV 0 hts gX10_town_X7_size rfl rfl rfl hdX7_size ⟨Nat.le_of_ble_eq_true rfl, Nat.le_of_ble_eq_true rfl⟩) hK hA hX hP hD hS (xpR b T xa xs v2h hz_6) (xqR b T xa xs v2h _ _) (ci := 7) (q0 := 0) rfl rfl rfl hl.1 rfl (Nat.le_of_ble_eq_true rfl) dX10_town_63 ⟨by show cs + 0 ≤ 101; omega, by show cs + 0 ≤ 101; omega⟩ (fun H locs hP hD hS => ?_)
      obtain ⟨xs_10, exs_10⟩ : ∃ z, z = uR xs v2 (some (rz_5.1, st_8)) := ⟨_, rfl⟩
      refine W.widen (k := cs) (n := cs) (Nat.le_refl _) (Nat.le_refl _) ?_
      have hR : xRel b xa (uR xs v2 (some (rz_5.1, st_8))) := hR.uR hz_6
      rw [← exs_10] at hP hD hR
      have heq := nm_h exs_10 heq
      refine lv_icmp_ge (tgt := 123) hx hb dX10_town_66 (by decide) (fun c_11 => ?_) (fun c_11 => ?_)
      · have heq := it_t c_11 heq
        refine W.widen (k := 101) (n := 101) (by first | decide | omega) (by first | decide | omega) ?_
        exact b123 xs_10 v4 xa H locs ls hR hU hP hD hS (lv_sub hl [0, 2] rfl) heq
      have heq := it_f c_11 heq
      refine lv_iload hx hb dX10_town_69 (lv_at hl 2 rfl) ?_
      refine lv_bipush (v := (100 : Int32)) hx hb dX10_town_71 (by decide) ?_
      refine lv_icmp_ge (tgt := 123) hx hb dX10_town_73 (by decide) (fun c_12 => ?_) (fun c_12 => ?_)
      · have heq := it_t c_12 heq
        refine W.widen (k := 101) (n := 101) (by first | decide | omega) (by first | decide | omega) ?_
        exact b123 xs_10 v4 xa H locs ls hR hU hP hD hS (lv_sub hl [0, 2] rfl) heq
      have heq := it_f c_12 heq
      refine lv_aload_n hx hb dX10_town_76 rfl (lv_at hl 0 rfl) ?_
      refine va_get (D := D) (ci := 10) (v := .ref (b 10)) (C := RX10) (T := TX10) (N := 7) hx hb hts hin10 hown hK hP 0 rfl rfl 1 (by decide) f16 (fun _ h9 => h9) rfl dX10_town_77 ?_
      refine lv_aload_n hx hb dX10_town_80 rfl (lv_at hl 1 rfl) ?_
      refine lv_iload hx hb dX10_town_81 (lv_at hl 3 rfl) ?_
      obtain ⟨y_13, xs_14, h_15, heq⟩ := bnd_h heq
      refine x_si (own := RX10) (As := [.ref (b 10), .ref (xRa xa v2 0), .int v5]) (rest := []) hx hb hml hown hts (okX10_obeys z l D T b hR v2h h_15) (va_cwS 3 hts gX10_town_X10_obeys rfl rfl rfl (hdX10_obeys).2 ⟨Nat.le_of_ble_eq_true rfl, Nat.le_of_ble_eq_true rfl⟩) hK hA hX hP hD hS rfl hl.1 rfl (Nat.le_of_ble_eq_true rfl) dX10_town_83 ⟨by show cs + 1 ≤ 101; omega, by show cs + 1 ≤ 101; omega⟩ (fun xa_16 H locs hR hsxa_16 hP hD hS => ?_)
      refine W.widen (k := (cs + 1)) (n := (cs + 1)) (Nat.le_refl _) (Nat.le_refl _) ?_
      have hU := xSub.tr hU hsxa_16
      have hl : lv_has ls 6 [(0, .ref (b 0)), (2, .ref (xRa xa_16 v2 0)), (4, .int v4), (5, .int v5)] := by rw [hsxa_16.2.2]; exact hl
      refine lv_if_ne (tgt := 96) hx hb dX10_town_86 (by decide) (fun c_18 => ?_) (fun c_18 => ?_)
      · have heq := it_f c_18 heq
        refine lv_aload_n hx hb dX10_town_96 rfl (lv_at hl 0 rfl) ?_
        refine va_get (D := D) (ci := 10) (v := .ref (b 10)) (C := RX10) (T := TX10) (N := 7) hx hb hts hin10 hown hK hP 0 rfl rfl 1 (by decide) f16 (fun _ h9 => h9) rfl dX10_town_97 ?_
        obtain ⟨⟨⟩, st_19, h_20, heq⟩ := bnd_h heq
        refine h_vv (own := RX10) (As := []) (rest := []) (wr := xWr1 b T xa_16 xs_14) hx hb hml hown hts (okX8_settle z l D (fun j => b (10 + j)) T (fun j => some (xFo xa_16 1 j)) h_20) (cwV 0 hts gX10_town_X8_settle rfl rfl rfl hdX8_settle ⟨Nat.le_of_ble_eq_true rfl, Nat.le_of_ble_eq_true rfl⟩) hK hA hX hP hD hS (xp1 b T xa_16 xs_14) (xq1 b T xa_16 xs_14 _) (ci := 8) (q0 := 0) rfl rfl rfl hl.1 rfl (Nat.le_of_ble_eq_true rfl) dX10_town_100 ⟨by show (cs + 1) + 0 ≤ 101; omega, by show (cs + 1) + 0 ≤ 101; omega⟩ (fun H locs hP hD hS => ?_)
        obtain ⟨xs_21, exs_21⟩ : ∃ z, z = uT xs_14 1 st_19 := ⟨_, rfl⟩
        refine W.widen (k := (cs + 1)) (n := (cs + 1)) (Nat.le_refl _) (Nat.le_refl _) ?_
        have hR : xRel b xa_16 (uT xs_14 1 st_19) := hR.uT _ _
        rw [← exs_21] at hP hD hR
        have heq := nm_h exs_21 heq
        obtain ⟨x_22, ex_22⟩ : ∃ y : Int32, y = v4 + (1 : Int32) := ⟨_, rfl⟩
        have heq := nm_h ex_22 heq
        refine lv_iinc (v := x_22) (lv' := [(4, .int x_22), (0, .ref (b 0)), (2, .ref (xRa xa_16 v2 0)), (5, .int v5)]) hx hb dX10_town_103 hl (k := 2) rfl (by rw [ex_22]; rfl) (by decide) rfl (fun ls hl => ?_)
        refine lv_iload hx hb dX10_town_106 (lv_at hl 3 rfl) ?_
        refine lv_aload_n hx hb dX10_town_108 rfl (lv_at hl 2 rfl) ?_
        refine lv_iload hx hb dX10_town_109 (lv_at hl 3 rfl) ?_
        obtain ⟨rz_23, hz_24, heq⟩ := bd1_h heq
        obtain ⟨y_25, st_26, h_27, heq⟩ := bnd_h heq
        refine h_vi (own := RX10) (As := [.int v5]) (rest := [.int v5]) (wr := xWrR b T xa_16 xs_21 v2) hx hb hml hown hts (okX7_at z l D (xRa xa_16 v2) T h_27) (cwV 1 hts gX10_town_X7_at rfl rfl rfl hdX7_at ⟨Nat.le_of_ble_eq_true rfl, Nat.le_of_ble_eq_true rfl⟩) hK hA hX hP hD hS (xpR b T xa_16 xs_21 v2h hz_24) (xqR b T xa_16 xs_21 v2h _ _) (ci := 7) (q0 := 0) rfl rfl rfl hl.1 rfl (Nat.le_of_ble_eq_true rfl) dX10_town_111 ⟨by show (cs + 1) + 0 ≤ 101; omega, by show (cs + 1) + 0 ≤ 101; omega⟩ (fun H locs hP hD hS => ?_)
        obtain ⟨xs_28, exs_28⟩ : ∃ z, z = uR xs_21 v2 (some (rz_23.1, st_26)) := ⟨_, rfl⟩
        refine W.widen (k := (cs + 1)) (n := (cs + 1)) (Nat.le_refl _) (Nat.le_refl _) ?_
        have hR : xRel b xa_16 (uR xs_21 v2 (some (rz_23.1, st_26))) := hR.uR hz_24
        rw [← exs_28] at hP hD hR
        have heq := nm_h exs_28 heq
        obtain ⟨y_29, h_30, heq⟩ := bd1_h heq
        refine h_si (own := RX10) (As := [.int y_25]) (rest := [.int v5]) (w0 := []) (w1 := []) (wr := xW b T xa_16 xs_28) hx hb hml hown hts (okX10_lengthOf z l D h_30) (va_cwS 1 hts gX10_town_X10_lengthOf rfl rfl rfl (hdX10_lengthOf).2 ⟨Nat.le_of_ble_eq_true rfl, Nat.le_of_ble_eq_true rfl⟩) (hK.sub [] rfl) hA hX hP hD hS (List.Perm.refl _) (List.Perm.refl _) rfl hl.1 rfl (Nat.le_of_ble_eq_true rfl) dX10_town_114 ⟨by show (cs + 1) + 0 ≤ 101; omega, by show (cs + 1) + 0 ≤ 101; omega⟩ (fun H locs hP hD hS => ?_)
        refine W.widen (k := (cs + 1)) (n := (cs + 1)) (Nat.le_refl _) (Nat.le_refl _) ?_
        refine lv_iadd hx hb dX10_town_117 ?_
        refine lv_topi (fun x_31 ex_31 => ?_)
        have heq := nm_h ex_31 heq
        refine lv_istore (lv' := [(5, .int x_31), (4, .int x_22), (0, .ref (b 0)), (2, .ref (xRa xa_16 v2 0))]) hx hb dX10_town_118 hl (by decide) rfl (fun ls hl => ?_)
        refine lv_goto (tgt := 60) hx hb dX10_town_120 (by decide) ?_
        exact ih (cs + 1) (by omega) xs_28 v2 x_22 x_31 xa_16 v2h H locs ls hR hU hP hD hS (lv_sub hl [2, 3, 1, 0] rfl) heq
      have heq := it_t c_18 heq
      refine W.widen (k := 101) (n := 101) (by first | decide | omega) (by first | decide | omega) ?_
      exact b89 xs_14 v5 xa_16 H locs ls hR hU hP hD hS (lv_sub hl [3] rfl) heq
  obtain ⟨H, hH⟩ : ∃ H, H = s.heap := ⟨_, rfl⟩
  obtain ⟨locs, hlocs⟩ : ∃ z : List Loc, z = [] := ⟨_, rfl⟩
  have hS : va_S A s.heap H locs := by rw [hH, hlocs]; exact hS
  have hP : va_P D vwCl (xW b T xa xs) H := by rw [hH]; exact hP
  suffices h9 : W p l e rmX10_town s m args below meth c H locs 0 0 Q (F0 m 0 ls []) by rw [hH, hlocs] at h9; exact h9
  clear hH hlocs
  unfold X10_town at heq
  refine lv_aload_n hx hb dX10_town_0 rfl (lv_at hl 0 rfl) ?_
  refine lv_iload_n hx hb dX10_town_1 rfl (lv_at hl 1 rfl) ?_
  obtain ⟨y_32, xs_33, h_34, heq⟩ := bnd_h heq
  refine x_vr (own := RX10) (As := [.int v1]) (rest := []) hx hb hml hown hts (okX10_rowOn z l D T b hR h_34) (cwV 1 hts gX10_town_X10_rowOn rfl rfl rfl hdX10_rowOn ⟨Nat.le_of_ble_eq_true rfl, Nat.le_of_ble_eq_true rfl⟩) hK hA hX hP hD hS (ci := 10) (q0 := 0) rfl rfl rfl hl.1 rfl (Nat.le_of_ble_eq_true rfl) dX10_town_2 ⟨by show 0 + 0 ≤ 101; omega, by show 0 + 0 ≤ 101; omega⟩ (fun xa_35 H locs o_36 hR hsxa_35 ho_36 hP hD hS => ?_)
  refine W.widen (k := 0) (n := 0) (Nat.le_refl _) (Nat.le_refl _) ?_
  have hU := xSub.tr hU hsxa_35
  refine lv_astoreQ_n (lv' := [(2, va_rf o_36), (0, .ref (b 0)), (1, .int v1)]) hx hb dX10_town_5 rfl hl (by decide) rfl (fun ls hl => ?_)
  refine lv_aloadQ_n (r := o_36) hx hb dX10_town_6 rfl (lv_at hl 0 rfl) ?_
  rcases obR_h ho_36 heq with ⟨h_38, heq⟩ | ⟨k_37, ⟨h_38, h_40⟩, heq⟩
  · rw [h_38] at hl ⊢
    have hl : lv_has ls 6 [(2, .null), (0, .ref (b 0)), (1, .int v1)] := hl
    refine lv_ifnonnullN hx hb dX10_town_7 ?_
    refine lv_aload_n hx hb dX10_town_10 rfl (lv_at hl 1 rfl) ?_
    refine lv_iload_n hx hb dX10_town_11 rfl (lv_at hl 2 rfl) ?_
    obtain ⟨y_41, xs_42, h_43, heq⟩ := bnd_h heq
    refine x_vi (own := RX10) (As := [.int v1]) (rest := []) hx hb hml hown hts (okX10_refusal z l D T b hR h_43) (cwV 1 hts gX10_town_X10_refusal rfl rfl rfl hdX10_refusal ⟨Nat.le_of_ble_eq_true rfl, Nat.le_of_ble_eq_true rfl⟩) hK hA hX hP hD hS (ci := 10) (q0 := 0) rfl rfl rfl hl.1 rfl (Nat.le_of_ble_eq_true rfl) dX10_town_12 ⟨by show 0 + 0 ≤ 101; omega, by show 0 + 0 ≤ 101; omega⟩ (fun xa_44 H locs hR hsxa_44 hP hD hS => ?_)
    refine W.widen (k := 0) (n := 0) (Nat.le_refl _) (Nat.le_refl _) ?_
    have hU := xSub.tr hU hsxa_44
    obtain ⟨heq, heq2⟩ := ret_h heq
    subst heq
    subst heq2
    refine W.widen (k := 101) (n := 101) (by first | decide | omega) (by first | decide | omega) ?_
    exact hret 15 H locs ls xa_44 hR hU hP hD hS rfl dX10_town_15
  rw [h_38] at hl ⊢
  have hl : lv_has ls 6 [(2, .ref (xRa xa_35 k_37 0)), (0, .ref (b 0)), (1, .int v1)] := hl
  refine lv_ifnonnull (tgt := 16) hx hb dX10_town_7 (by decide) ?_
  refine lv_aload_n hx hb dX10_town_16 rfl (lv_at hl 0 rfl) ?_
  obtain ⟨rz_47, hz_46, heq⟩ := bd1_h heq
  obtain ⟨j_48, hj_49⟩ := List.getElem?_of_mem ((xpR b T xa_35 xs_33 h_40 hz_46).mem_iff.mpr (List.mem_append_left _ (List.mem_of_getElem? (i := 0) rfl)))
  refine va_get (D := D) (ci := 7) (v := .int (gF rz_47.2 0)) (C := RX7) (T := TX7) (N := 2) hx hb hts hin7 hown hK hP j_48 hj_49 rfl 0 (by decide) f51 (fun _ h9 => h9) rfl dX10_town_17 ?_
  refine lv_if_eq (tgt := 26) hx hb dX10_town_20 (by decide) (fun c_50 => ?_) (fun c_50 => ?_)
  · have heq := it_t c_50 heq
    refine lv_aload_n hx hb dX10_town_26 rfl (lv_at hl 0 rfl) ?_
    obtain ⟨y_51, xs_52, h_53, heq⟩ := bnd_h heq
    refine x_si (own := RX10) (As := [.ref (xRa xa_35 k_37 0)]) (rest := []) hx hb hml hown hts (okX10_firstUnread z l D T b hR h_40 h_53) (va_cwS 1 hts gX10_town_X10_firstUnread rfl rfl rfl (hdX10_firstUnread).2 ⟨Nat.le_of_ble_eq_true rfl, Nat.le_of_ble_eq_true rfl⟩) hK hA hX hP hD hS rfl hl.1 rfl (Nat.le_of_ble_eq_true rfl) dX10_town_27 ⟨by show 0 + 0 ≤ 101; omega, by show 0 + 0 ≤ 101; omega⟩ (fun xa_54 H locs hR hsxa_54 hP hD hS => ?_)
    refine W.widen (k := 0) (n := 0) (Nat.le_refl _) (Nat.le_refl _) ?_
    have hU := xSub.tr hU hsxa_54
    have hl : lv_has ls 6 [(2, .ref (xRa xa_54 k_37 0)), (0, .ref (b 0)), (1, .int v1)] := by rw [hsxa_54.2.2]; exact hl
    refine lv_istore_n (lv' := [(3, .int y_51), (2, .ref (xRa xa_54 k_37 0)), (0, .ref (b 0)), (1, .int v1)]) hx hb dX10_town_30 rfl hl (by decide) rfl (fun ls hl => ?_)
    refine lv_iload_n hx hb dX10_town_31 rfl (lv_at hl 0 rfl) ?_
    refine lv_bipush (v := (-4 : Int32)) hx hb dX10_town_32 (by decide) ?_
    refine lv_icmp_eq (tgt := 43) hx hb dX10_town_34 (by decide) (fun c_56 => ?_) (fun c_56 => ?_)
    · have heq := it_t c_56 heq
      refine lv_aload_n hx hb dX10_town_43 rfl (lv_at hl 2 rfl) ?_
      refine va_get (D := D) (ci := 10) (v := .ref (b 10)) (C := RX10) (T := TX10) (N := 7) hx hb hts hin10 hown hK hP 0 rfl rfl 1 (by decide) f16 (fun _ h9 => h9) rfl dX10_town_44 ?_
      refine lv_aload_n hx hb dX10_town_47 rfl (lv_at hl 2 rfl) ?_
      refine va_get (D := D) (ci := 10) (v := .ref (b 3)) (C := RX10) (T := TX10) (N := 7) hx hb hts hin10 hown hK hP 0 rfl rfl 0 (by decide) f10 (fun _ h9 => h9) rfl dX10_town_48 ?_
      obtain ⟨⟨⟩, xs_57, h_58, heq⟩ := bnd_h heq
      refine x_vv (own := RX10) (As := [.ref (b 3)]) (rest := []) hx hb hml hown hts (okX8_takeFrom_1_0 z l D T b hR h_58) (cwV 1 hts gX10_town_X8_takeFrom rfl rfl rfl hdX8_takeFrom ⟨Nat.le_of_ble_eq_true rfl, Nat.le_of_ble_eq_true rfl⟩) hK hA hX hP hD hS (ci := 8) (q0 := 10) rfl rfl rfl hl.1 rfl (Nat.le_of_ble_eq_true rfl) dX10_town_51 ⟨by show 0 + 0 ≤ 101; omega, by show 0 + 0 ≤ 101; omega⟩ (fun xa_59 H locs hR hsxa_59 hP hD hS => ?_)
      refine W.widen (k := 0) (n := 0) (Nat.le_refl _) (Nat.le_refl _) ?_
      have hU := xSub.tr hU hsxa_59
      have hl : lv_has ls 6 [(3, .int y_51), (2, .ref (xRa xa_59 k_37 0)), (0, .ref (b 0)), (1, .int v1)] := by rw [hsxa_59.2.2]; exact hl
      refine lv_iconst (v := (0 : Int32)) hx hb dX10_town_54 (by decide) ?_
      refine lv_istore (lv' := [(4, .int (0 : Int32)), (3, .int y_51), (2, .ref (xRa xa_59 k_37 0)), (0, .ref (b 0)), (1, .int v1)]) hx hb dX10_town_55 hl (by decide) rfl (fun ls hl => ?_)
      refine lv_iconst (v := (0 : Int32)) hx hb dX10_town_57 (by decide) ?_
      refine lv_istore (lv' := [(5, .int (0 : Int32)), (4, .int (0 : Int32)), (3, .int y_51), (2, .ref (xRa xa_59 k_37 0)), (0, .ref (b 0)), (1, .int v1)]) hx hb dX10_town_58 hl (by decide) rfl (fun ls hl => ?_)
      exact b60 101 0 (by omega) xs_57 k_37 (0 : Int32) (0 : Int32) xa_59 h_40 H locs ls hR hU hP hD hS (lv_sub hl [4, 3, 1, 0] rfl) heq
    have heq := it_f c_56 heq
    refine lv_sipush (v := (-1000 : Int32)) hx hb dX10_town_37 (by decide) ?_
    refine lv_iload_n hx hb dX10_town_40 rfl (lv_at hl 0 rfl) ?_
    refine lv_isub hx hb dX10_town_41 ?_
    obtain ⟨heq, heq2⟩ := ret_h heq
    subst heq
    subst heq2
    refine W.widen (k := 101) (n := 101) (by first | decide | omega) (by first | decide | omega) ?_
    exact hret 42 H locs ls xa_54 hR hU hP hD hS rfl dX10_town_42
  have heq := it_f c_50 heq
  refine lv_bipush (v := (-12 : Int32)) hx hb dX10_town_23 (by decide) ?_
  obtain ⟨heq, heq2⟩ := ret_h heq
  subst heq
  subst heq2
  refine W.widen (k := 101) (n := 101) (by first | decide | omega) (by first | decide | omega) ?_
  exact hret 25 H locs ls xa_35 hR hU hP hD hS rfl dX10_town_25
set_option maxRecDepth 20000 in
theorem ggX10_cell_X10_isSide : GoodIn wsX10_cell wsX10_isSide := goodIn_r _ [9] (by decide +kernel) (by decide +kernel)
set_option maxRecDepth 20000 in
theorem gX10_cell_X10_isSide : GoodIn wsX10_cell (va_wsS RX10 80 yX10_isSide wsX10_isSide) := goodIn_app (goodIn_of _ (by decide +kernel)) ggX10_cell_X10_isSide
set_option maxRecDepth 20000 in
theorem ggX10_cell_X0_kind : GoodIn wsX10_cell wsX0_kind := goodIn_r _ [14] (by decide +kernel) (by decide +kernel)
set_option maxRecDepth 20000 in
theorem gX10_cell_X0_kind : GoodIn wsX10_cell (wsV RX10 87 RX0 yX0_kind wsX0_kind) := goodIn_app (goodIn_of _ (by decide +kernel)) ggX10_cell_X0_kind
set_option maxRecDepth 20000 in
theorem ggX10_cell_X1_kind : GoodIn wsX10_cell wsX1_kind := goodIn_r _ [21] (by decide +kernel) (by decide +kernel)
set_option maxRecDepth 20000 in
theorem gX10_cell_X1_kind_u87X1 : GoodIn wsX10_cell (va_wsO RX10 87 RX1 "LaidDownTheLane$Brick" ⟨"LaidDownTheLane$Brick", "kind", "()I"⟩ yX1_kind wsX1_kind) := goodIn_app (goodIn_of _ (by decide +kernel)) ggX10_cell_X1_kind
set_option maxRecDepth 20000 in
theorem ggX10_cell_X2_kind : GoodIn wsX10_cell wsX2_kind := goodIn_r _ [25] (by decide +kernel) (by decide +kernel)
set_option maxRecDepth 20000 in
theorem gX10_cell_X2_kind_u87X2 : GoodIn wsX10_cell (va_wsO RX10 87 RX2 "LaidDownTheLane$Brick" ⟨"LaidDownTheLane$Brick", "kind", "()I"⟩ yX2_kind wsX2_kind) := goodIn_app (goodIn_of _ (by decide +kernel)) ggX10_cell_X2_kind
set_option maxRecDepth 20000 in
theorem ggX10_cell_X3_kind : GoodIn wsX10_cell wsX3_kind := goodIn_r _ [29] (by decide +kernel) (by decide +kernel)
set_option maxRecDepth 20000 in
theorem gX10_cell_X3_kind_u87X3 : GoodIn wsX10_cell (va_wsO RX10 87 RX3 "LaidDownTheLane$Brick" ⟨"LaidDownTheLane$Brick", "kind", "()I"⟩ yX3_kind wsX3_kind) := goodIn_app (goodIn_of _ (by decide +kernel)) ggX10_cell_X3_kind
set_option maxRecDepth 20000 in
theorem ggX10_cell_X4_kind : GoodIn wsX10_cell wsX4_kind := goodIn_r _ [33] (by decide +kernel) (by decide +kernel)
set_option maxRecDepth 20000 in
theorem gX10_cell_X4_kind_u87X4 : GoodIn wsX10_cell (va_wsO RX10 87 RX4 "LaidDownTheLane$Brick" ⟨"LaidDownTheLane$Brick", "kind", "()I"⟩ yX4_kind wsX4_kind) := goodIn_app (goodIn_of _ (by decide +kernel)) ggX10_cell_X4_kind
set_option maxRecDepth 20000 in
theorem ggX10_cell_X5_kind : GoodIn wsX10_cell wsX5_kind := goodIn_r _ [37] (by decide +kernel) (by decide +kernel)
set_option maxRecDepth 20000 in
theorem gX10_cell_X5_kind_u87X5 : GoodIn wsX10_cell (va_wsO RX10 87 RX5 "LaidDownTheLane$Brick" ⟨"LaidDownTheLane$Brick", "kind", "()I"⟩ yX5_kind wsX5_kind) := goodIn_app (goodIn_of _ (by decide +kernel)) ggX10_cell_X5_kind
set_option maxRecDepth 20000 in
theorem ggX10_cell_X6_kind : GoodIn wsX10_cell wsX6_kind := goodIn_r _ [41] (by decide +kernel) (by decide +kernel)
set_option maxRecDepth 20000 in
theorem gX10_cell_X6_kind_u87X6 : GoodIn wsX10_cell (va_wsO RX10 87 RX6 "LaidDownTheLane$Brick" ⟨"LaidDownTheLane$Brick", "kind", "()I"⟩ yX6_kind wsX6_kind) := goodIn_app (goodIn_of _ (by decide +kernel)) ggX10_cell_X6_kind
set_option maxRecDepth 20000 in
theorem ggX10_cell_X9_kind : GoodIn wsX10_cell wsX9_kind := goodIn_r _ [45] (by decide +kernel) (by decide +kernel)
set_option maxRecDepth 20000 in
theorem gX10_cell_X9_kind_u87X9 : GoodIn wsX10_cell (va_wsO RX10 87 RX9 "LaidDownTheLane$Brick" ⟨"LaidDownTheLane$Brick", "kind", "()I"⟩ yX9_kind wsX9_kind) := goodIn_app (goodIn_of _ (by decide +kernel)) ggX10_cell_X9_kind
set_option maxRecDepth 20000 in
theorem ggX10_cell_X8_bearsAt : GoodIn wsX10_cell wsX8_bearsAt := goodIn_r _ [50, 51, 52, 60, 61, 62, 63, 64, 65, 66, 67, 68, 69] (by decide +kernel) (by decide +kernel)
set_option maxRecDepth 20000 in
theorem gX10_cell_X8_bearsAt : GoodIn wsX10_cell (wsV RX10 96 RX8 yX8_bearsAt wsX8_bearsAt) := goodIn_app (goodIn_of _ (by decide +kernel)) ggX10_cell_X8_bearsAt
theorem dX10_cell_0 : decode cX10_cell 0 = .ok (.iload_n 1, 1) := by decide +kernel
theorem dX10_cell_1 : decode cX10_cell 1 = .ok (.invokestatic 80, 3) := by decide +kernel
theorem dX10_cell_4 : decode cX10_cell 4 = .ok (.ifCond .ne 5, 3) := by decide +kernel
theorem dX10_cell_7 : decode cX10_cell 7 = .ok (.iconst (-1), 1) := by decide +kernel
theorem dX10_cell_8 : decode cX10_cell 8 = .ok (.ireturn, 1) := by decide +kernel
theorem dX10_cell_9 : decode cX10_cell 9 = .ok (.iload_n 2, 1) := by decide +kernel
theorem dX10_cell_10 : decode cX10_cell 10 = .ok (.tableswitch 82 0 3 #[30, 43, 56, 72], 30) := by decide +kernel
theorem dX10_cell_40 : decode cX10_cell 40 = .ok (.aload_n 0, 1) := by decide +kernel
theorem dX10_cell_41 : decode cX10_cell 41 = .ok (.getfield 10, 3) := by decide +kernel
theorem dX10_cell_44 : decode cX10_cell 44 = .ok (.getfield 84, 3) := by decide +kernel
theorem dX10_cell_47 : decode cX10_cell 47 = .ok (.iload_n 1, 1) := by decide +kernel
theorem dX10_cell_48 : decode cX10_cell 48 = .ok (.aaload, 1) := by decide +kernel
theorem dX10_cell_49 : decode cX10_cell 49 = .ok (.invokevirtual 87, 3) := by decide +kernel
theorem dX10_cell_52 : decode cX10_cell 52 = .ok (.ireturn, 1) := by decide +kernel
theorem dX10_cell_53 : decode cX10_cell 53 = .ok (.aload_n 0, 1) := by decide +kernel
theorem dX10_cell_54 : decode cX10_cell 54 = .ok (.getfield 10, 3) := by decide +kernel
theorem dX10_cell_57 : decode cX10_cell 57 = .ok (.getfield 84, 3) := by decide +kernel
theorem dX10_cell_60 : decode cX10_cell 60 = .ok (.iload_n 1, 1) := by decide +kernel
theorem dX10_cell_61 : decode cX10_cell 61 = .ok (.aaload, 1) := by decide +kernel
theorem dX10_cell_62 : decode cX10_cell 62 = .ok (.getfield 90, 3) := by decide +kernel
theorem dX10_cell_65 : decode cX10_cell 65 = .ok (.ireturn, 1) := by decide +kernel
theorem dX10_cell_66 : decode cX10_cell 66 = .ok (.aload_n 0, 1) := by decide +kernel
theorem dX10_cell_67 : decode cX10_cell 67 = .ok (.getfield 10, 3) := by decide +kernel
theorem dX10_cell_70 : decode cX10_cell 70 = .ok (.iload_n 1, 1) := by decide +kernel
theorem dX10_cell_71 : decode cX10_cell 71 = .ok (.aload_n 0, 1) := by decide +kernel
theorem dX10_cell_72 : decode cX10_cell 72 = .ok (.getfield 10, 3) := by decide +kernel
theorem dX10_cell_75 : decode cX10_cell 75 = .ok (.getfield 93, 3) := by decide +kernel
theorem dX10_cell_78 : decode cX10_cell 78 = .ok (.invokevirtual 96, 3) := by decide +kernel
theorem dX10_cell_81 : decode cX10_cell 81 = .ok (.ireturn, 1) := by decide +kernel
theorem dX10_cell_82 : decode cX10_cell 82 = .ok (.aload_n 0, 1) := by decide +kernel
theorem dX10_cell_83 : decode cX10_cell 83 = .ok (.getfield 10, 3) := by decide +kernel
theorem dX10_cell_86 : decode cX10_cell 86 = .ok (.getfield 100, 3) := by decide +kernel
theorem dX10_cell_89 : decode cX10_cell 89 = .ok (.iload_n 1, 1) := by decide +kernel
theorem dX10_cell_90 : decode cX10_cell 90 = .ok (.iaload, 1) := by decide +kernel
theorem dX10_cell_91 : decode cX10_cell 91 = .ok (.ireturn, 1) := by decide +kernel
theorem dX10_cell_92 : decode cX10_cell 92 = .ok (.iconst (-1), 1) := by decide +kernel
theorem dX10_cell_93 : decode cX10_cell 93 = .ok (.ireturn, 1) := by decide +kernel
/-! X10 cell -/
def X10_cell (xs : XS) (v1 : Int32) (v2 : Int32) : Option (Int32 × XS) :=
    bd1 (X10_isSide v1) fun y_1 =>
    if y_1 = 0 then
      (some ((-1 : Int32), xs))
    else
    if v2 = (0 : Int32) then
      (inr v1 12 <|
      some ((kiB (xB xs 0 v1.toNatClampNeg)), xs))
    else
    if v2 = (1 : Int32) then
      (inr v1 12 <|
      some ((xB xs 0 v1.toNatClampNeg).2, xs))
    else
    if v2 = (2 : Int32) then
      (bnd (X8_bearsAt (xT xs 0) v1 (gF (xT xs 0) 8)) fun y_13 st_14 =>
      nm (uT xs 0 st_14) fun xs_16 =>
      some (y_13, xs_16))
    else
    if v2 = (3 : Int32) then
      (inr v1 12 <|
      some ((gA (xT xs 0) 2 v1.toNatClampNeg), xs))
    else
    some ((-1 : Int32), xs)
abbrev rmX10_cell : Room := { frames := 1, cells := 0, slots := 0, locals := 22 }
theorem hdX10_cell : yX10_cell.cls = RX10 ∧ yX10_cell.cls ≠ "java/lang/invoke/MethodHandle" ∧ yX10_cell.cls ≠ "java/lang/invoke/VarHandle" ∧ (parseMethodDescriptor yX10_cell.desc).map (fun d => d.parameters.length) = some 2 := by decide +kernel
set_option maxRecDepth 100000 in
set_option maxHeartbeats 8000000 in
theorem okX10_cell (z : Nat → Nat) (l : Launch) (D : va_G) (T : mT3) (b : Nat → Nat) {xa : XA} {xs : XS} {v1 : Int32} {v2 : Int32} {r : Int32} {xs' : XS} (hR : xRel b xa xs) (heq : X10_cell xs v1 v2 = some (r, xs')) : hXi xSub z l D T b yX10_cell wsX10_cell rmX10_cell [.ref (b 0), .int v1, .int v2] xa xs r xs' := by
  refine xbody_i (plainFor_of_name (by decide)) rfl (Nat.le_of_ble_eq_true rfl) (fun p e s m args below meth c A Q hx hb hml hown hts hK hA hX hret ls hP hD hS hl => ?_)
  have hl : lv_has ls 3 [(0, .ref (b 0)), (1, .int v1), (2, .int v2)] := hl
  have hin0 : ∀ w ∈ wsX00, w ∈ wsX10_cell := by decide +kernel
  have hin1 : ∀ w ∈ wsX10, w ∈ wsX10_cell := by decide +kernel
  have hin10 : ∀ w ∈ wsX100, w ∈ wsX10_cell := by decide +kernel
  have hin2 : ∀ w ∈ wsX20, w ∈ wsX10_cell := by decide +kernel
  have hin3 : ∀ w ∈ wsX30, w ∈ wsX10_cell := by decide +kernel
  have hin4 : ∀ w ∈ wsX40, w ∈ wsX10_cell := by decide +kernel
  have hin5 : ∀ w ∈ wsX50, w ∈ wsX10_cell := by decide +kernel
  have hin6 : ∀ w ∈ wsX60, w ∈ wsX10_cell := by decide +kernel
  have hin8 : ∀ w ∈ wsX80, w ∈ wsX10_cell := by decide +kernel
  have hin9 : ∀ w ∈ wsX90, w ∈ wsX10_cell := by decide +kernel
  have f10 : (Cond.fieldLink RX10 10 RX10 (TX10 0).2.1 (TX10 0).2.2.1).before args s = true := hts (.fieldLink RX10 10 RX10 "now" "LLaidDownTheLane$Town;") (by decide +kernel)
  have f84 : (Cond.fieldLink RX10 84 RX8 (TX8 0).2.1 (TX8 0).2.2.1).before args s = true := hts (.fieldLink RX10 84 RX8 "foot" "[LLaidDownTheLane$Brick;") (by decide +kernel)
  have f90 : (Cond.fieldLink RX10 90 RX0 (TX0 0).2.1 (TX0 0).2.2.1).before args s = true := hts (.fieldLink RX10 90 RX0 "figure" "I") (by decide +kernel)
  have f93 : (Cond.fieldLink RX10 93 RX8 (TX8 8).2.1 (TX8 8).2.2.1).before args s = true := hts (.fieldLink RX10 93 RX8 "minute" "I") (by decide +kernel)
  have f100 : (Cond.fieldLink RX10 100 RX8 (TX8 2).2.1 (TX8 2).2.2.1).before args s = true := hts (.fieldLink RX10 100 RX8 "burns" "[I") (by decide +kernel)
  obtain ⟨xa0, hxa0⟩ : ∃ z : XA, z = xa := ⟨_, rfl⟩
  rw [← hxa0] at hret
  have hU : xSub xa0 xa := by rw [hxa0]; exact xSub.rf
  clear hxa0
  obtain ⟨H, hH⟩ : ∃ H, H = s.heap := ⟨_, rfl⟩
  obtain ⟨locs, hlocs⟩ : ∃ z : List Loc, z = [] := ⟨_, rfl⟩
  have hS : va_S A s.heap H locs := by rw [hH, hlocs]; exact hS
  have hP : va_P D vwCl (xW b T xa xs) H := by rw [hH]; exact hP
  suffices h9 : W p l e rmX10_cell s m args below meth c H locs 0 0 Q (F0 m 0 ls []) by rw [hH, hlocs] at h9; exact h9
  clear hH hlocs
  unfold X10_cell at heq
  refine lv_iload_n hx hb dX10_cell_0 rfl (lv_at hl 1 rfl) ?_
  obtain ⟨y_1, h_2, heq⟩ := bd1_h heq
  refine h_si (own := RX10) (As := [.int v1]) (rest := []) (w0 := []) (w1 := []) (wr := xW b T xa xs) hx hb hml hown hts (okX10_isSide z l D h_2) (va_cwS 1 hts gX10_cell_X10_isSide rfl rfl rfl (hdX10_isSide).2 ⟨Nat.le_of_ble_eq_true rfl, Nat.le_of_ble_eq_true rfl⟩) (hK.sub [] rfl) hA hX hP hD hS (List.Perm.refl _) (List.Perm.refl _) rfl hl.1 rfl (Nat.le_of_ble_eq_true rfl) dX10_cell_1 ⟨Nat.le_of_ble_eq_true rfl, Nat.le_of_ble_eq_true rfl⟩ (fun H locs hP hD hS => ?_)
  refine lv_if_ne (tgt := 9) hx hb dX10_cell_4 (by decide) (fun c_3 => ?_) (fun c_3 => ?_)
  · have heq := it_f c_3 heq
    refine lv_iload_n hx hb dX10_cell_9 rfl (lv_at hl 2 rfl) ?_
    by_cases c_4 : v2 = (0 : Int32)
    · have heq := it_t c_4 heq
      refine lv_tableIn (tgt := 40) hx hb dX10_cell_10 (by rw [c_4]; decide) (by rw [c_4]; decide) (by rw [c_4]; rfl) (by decide) ?_
      refine lv_aload_n hx hb dX10_cell_40 rfl (lv_at hl 0 rfl) ?_
      refine va_get (D := D) (ci := 10) (v := .ref (b 3)) (C := RX10) (T := TX10) (N := 7) hx hb hts hin10 hown hK hP 0 rfl rfl 0 (by decide) f10 (fun _ h9 => h9) rfl dX10_cell_41 ?_
      refine va_get (D := D) (ci := 8) (v := .ref (b 4)) (C := RX8) (T := TX8) (N := 10) hx hb hts hin8 hown hK hP 3 rfl rfl 0 (by decide) f84 (fun _ h9 => h9) rfl dX10_cell_44 ?_
      refine lv_iload_n hx hb dX10_cell_47 rfl (lv_at hl 1 rfl) ?_
      obtain ⟨n_5, heq⟩ := inr_h heq
      have hb_6 := hR.1 0 (by decide) v1.toNatClampNeg (in_lt n_5)
      refine va_aldq (C := RX0) (n := 12) (f := fun j => some (xFo xa 0 j)) hx hb hK hP 4 1 rfl rfl n_5 dX10_cell_48 ?_
      refine W.eq (g2 := F0 m 49 ls [.ref (xFo xa 0 v1.toNatClampNeg)]) rfl ?_
      suffices hcont : ∀ (H : Heap) (locs : List Loc), va_P D vwCl (xW b T xa xs) H → va_S A s.heap H locs → W p l e rmX10_cell s m args below meth c H locs 0 0 Q (F0 m 52 ls [.int (kiB (xB xs 0 v1.toNatClampNeg))]) by
        have hm := xMem b T xs hb_6
        have h8 := hR.2.2.2.2 _ hb_6
        obtain ⟨kk, ekk⟩ : ∃ z, z = (xB xs 0 v1.toNatClampNeg) := ⟨_, rfl⟩
        rw [← ekk] at hm h8 hcont
        obtain ⟨kd, fg⟩ := kk
        rcases (show kd = 0 ∨ kd = 1 ∨ kd = 2 ∨ kd = 3 ∨ kd = 4 ∨ kd = 5 ∨ kd = 6 ∨ kd = 7 from by have := h8; simp only at this; omega) with rfl | rfl | rfl | rfl | rfl | rfl | rfl | rfl
        · exact x_brick (own := RX10) (rest := []) hx hb hml hown hts (okX0_kind_0 z l D T _ fg) (Or.inl (cwV 0 hts gX10_cell_X0_kind rfl rfl rfl hdX0_kind ⟨Nat.le_of_ble_eq_true rfl, Nat.le_of_ble_eq_true rfl⟩)) hK hA hX hP hD hS hm rfl hl.1 (Nat.le_of_ble_eq_true rfl) dX10_cell_49 ⟨Nat.le_of_ble_eq_true rfl, Nat.le_of_ble_eq_true rfl⟩ hcont
        · exact x_brick (own := RX10) (rest := []) hx hb hml hown hts (okX2_kind_2 z l D T _ fg) (Or.inr ⟨_, _, va_cwO 0 hts gX10_cell_X2_kind_u87X2 rfl rfl rfl (b0 := cX0_kind) (m0 := 1) (r0 := some .int) (by decide +kernel) (by decide +kernel) ⟨Nat.le_of_ble_eq_true rfl, Nat.le_of_ble_eq_true rfl⟩⟩) hK hA hX hP hD hS hm rfl hl.1 (Nat.le_of_ble_eq_true rfl) dX10_cell_49 ⟨Nat.le_of_ble_eq_true rfl, Nat.le_of_ble_eq_true rfl⟩ hcont
        · exact x_brick (own := RX10) (rest := []) hx hb hml hown hts (okX6_kind_6 z l D T _ fg) (Or.inr ⟨_, _, va_cwO 0 hts gX10_cell_X6_kind_u87X6 rfl rfl rfl (b0 := cX0_kind) (m0 := 1) (r0 := some .int) (by decide +kernel) (by decide +kernel) ⟨Nat.le_of_ble_eq_true rfl, Nat.le_of_ble_eq_true rfl⟩⟩) hK hA hX hP hD hS hm rfl hl.1 (Nat.le_of_ble_eq_true rfl) dX10_cell_49 ⟨Nat.le_of_ble_eq_true rfl, Nat.le_of_ble_eq_true rfl⟩ hcont
        · exact x_brick (own := RX10) (rest := []) hx hb hml hown hts (okX4_kind_4 z l D T _ fg) (Or.inr ⟨_, _, va_cwO 0 hts gX10_cell_X4_kind_u87X4 rfl rfl rfl (b0 := cX0_kind) (m0 := 1) (r0 := some .int) (by decide +kernel) (by decide +kernel) ⟨Nat.le_of_ble_eq_true rfl, Nat.le_of_ble_eq_true rfl⟩⟩) hK hA hX hP hD hS hm rfl hl.1 (Nat.le_of_ble_eq_true rfl) dX10_cell_49 ⟨Nat.le_of_ble_eq_true rfl, Nat.le_of_ble_eq_true rfl⟩ hcont
        · exact x_brick (own := RX10) (rest := []) hx hb hml hown hts (okX1_kind_1 z l D T _ fg) (Or.inr ⟨_, _, va_cwO 0 hts gX10_cell_X1_kind_u87X1 rfl rfl rfl (b0 := cX0_kind) (m0 := 1) (r0 := some .int) (by decide +kernel) (by decide +kernel) ⟨Nat.le_of_ble_eq_true rfl, Nat.le_of_ble_eq_true rfl⟩⟩) hK hA hX hP hD hS hm rfl hl.1 (Nat.le_of_ble_eq_true rfl) dX10_cell_49 ⟨Nat.le_of_ble_eq_true rfl, Nat.le_of_ble_eq_true rfl⟩ hcont
        · exact x_brick (own := RX10) (rest := []) hx hb hml hown hts (okX3_kind_3 z l D T _ fg) (Or.inr ⟨_, _, va_cwO 0 hts gX10_cell_X3_kind_u87X3 rfl rfl rfl (b0 := cX0_kind) (m0 := 1) (r0 := some .int) (by decide +kernel) (by decide +kernel) ⟨Nat.le_of_ble_eq_true rfl, Nat.le_of_ble_eq_true rfl⟩⟩) hK hA hX hP hD hS hm rfl hl.1 (Nat.le_of_ble_eq_true rfl) dX10_cell_49 ⟨Nat.le_of_ble_eq_true rfl, Nat.le_of_ble_eq_true rfl⟩ hcont
        · exact x_brick (own := RX10) (rest := []) hx hb hml hown hts (okX5_kind_5 z l D T _ fg) (Or.inr ⟨_, _, va_cwO 0 hts gX10_cell_X5_kind_u87X5 rfl rfl rfl (b0 := cX0_kind) (m0 := 1) (r0 := some .int) (by decide +kernel) (by decide +kernel) ⟨Nat.le_of_ble_eq_true rfl, Nat.le_of_ble_eq_true rfl⟩⟩) hK hA hX hP hD hS hm rfl hl.1 (Nat.le_of_ble_eq_true rfl) dX10_cell_49 ⟨Nat.le_of_ble_eq_true rfl, Nat.le_of_ble_eq_true rfl⟩ hcont
        · exact x_brick (own := RX10) (rest := []) hx hb hml hown hts (okX9_kind_9 z l D T _ fg) (Or.inr ⟨_, _, va_cwO 0 hts gX10_cell_X9_kind_u87X9 rfl rfl rfl (b0 := cX0_kind) (m0 := 1) (r0 := some .int) (by decide +kernel) (by decide +kernel) ⟨Nat.le_of_ble_eq_true rfl, Nat.le_of_ble_eq_true rfl⟩⟩) hK hA hX hP hD hS hm rfl hl.1 (Nat.le_of_ble_eq_true rfl) dX10_cell_49 ⟨Nat.le_of_ble_eq_true rfl, Nat.le_of_ble_eq_true rfl⟩ hcont
      intro H locs hP hS
      obtain ⟨heq, heq2⟩ := ret_h heq
      subst heq
      subst heq2
      exact hret 52 H locs ls xa hR hU hP hD hS rfl dX10_cell_52
    have heq := it_f c_4 heq
    by_cases c_7 : v2 = (1 : Int32)
    · have heq := it_t c_7 heq
      refine lv_tableIn (tgt := 53) hx hb dX10_cell_10 (by rw [c_7]; decide) (by rw [c_7]; decide) (by rw [c_7]; rfl) (by decide) ?_
      refine lv_aload_n hx hb dX10_cell_53 rfl (lv_at hl 0 rfl) ?_
      refine va_get (D := D) (ci := 10) (v := .ref (b 3)) (C := RX10) (T := TX10) (N := 7) hx hb hts hin10 hown hK hP 0 rfl rfl 0 (by decide) f10 (fun _ h9 => h9) rfl dX10_cell_54 ?_
      refine va_get (D := D) (ci := 8) (v := .ref (b 4)) (C := RX8) (T := TX8) (N := 10) hx hb hts hin8 hown hK hP 3 rfl rfl 0 (by decide) f84 (fun _ h9 => h9) rfl dX10_cell_57 ?_
      refine lv_iload_n hx hb dX10_cell_60 rfl (lv_at hl 1 rfl) ?_
      obtain ⟨n_8, heq⟩ := inr_h heq
      have hb_9 := hR.1 0 (by decide) v1.toNatClampNeg (in_lt n_8)
      refine va_aldq (C := RX0) (n := 12) (f := fun j => some (xFo xa 0 j)) hx hb hK hP 4 1 rfl rfl n_8 dX10_cell_61 ?_
      refine W.eq (g2 := F0 m 62 ls [.ref (xFo xa 0 v1.toNatClampNeg)]) rfl ?_
      suffices hcont : W p l e rmX10_cell s m args below meth c H locs 0 0 Q (F0 m 65 ls [.int (xB xs 0 v1.toNatClampNeg).2]) by
        have hm := xMem b T xs hb_9
        have h8 := hR.2.2.2.2 _ hb_9
        obtain ⟨kd_10, ekd_10⟩ : ∃ z, z = (xB xs 0 v1.toNatClampNeg) := ⟨_, rfl⟩
        rw [← ekd_10] at hm h8 hcont
        obtain ⟨j, hj⟩ := List.getElem?_of_mem hm
        obtain ⟨kd, fg⟩ := kd_10
        rcases (show kd = 0 ∨ kd = 1 ∨ kd = 2 ∨ kd = 3 ∨ kd = 4 ∨ kd = 5 ∨ kd = 6 ∨ kd = 7 from by have := h8; simp only at this; omega) with rfl | rfl | rfl | rfl | rfl | rfl | rfl | rfl
        · exact va_get (D := D) (ci := 0) (v := .int fg) (C := RX0) (T := TX0) (N := 1) hx hb hts hin0 hown hK hP j hj rfl 0 (by decide) f90 (fun _ h9 => h9) rfl dX10_cell_62 hcont
        · exact va_get (D := D) (ci := 2) (v := .int fg) (C := RX2) (T := TX2) (N := 1) hx hb hts hin2 hown hK hP j hj rfl 0 (by decide) f90 (fun _ h9 => h9) rfl dX10_cell_62 hcont
        · exact va_get (D := D) (ci := 6) (v := .int fg) (C := RX6) (T := TX6) (N := 1) hx hb hts hin6 hown hK hP j hj rfl 0 (by decide) f90 (fun _ h9 => h9) rfl dX10_cell_62 hcont
        · exact va_get (D := D) (ci := 4) (v := .int fg) (C := RX4) (T := TX4) (N := 1) hx hb hts hin4 hown hK hP j hj rfl 0 (by decide) f90 (fun _ h9 => h9) rfl dX10_cell_62 hcont
        · exact va_get (D := D) (ci := 1) (v := .int fg) (C := RX1) (T := TX1) (N := 1) hx hb hts hin1 hown hK hP j hj rfl 0 (by decide) f90 (fun _ h9 => h9) rfl dX10_cell_62 hcont
        · exact va_get (D := D) (ci := 3) (v := .int fg) (C := RX3) (T := TX3) (N := 1) hx hb hts hin3 hown hK hP j hj rfl 0 (by decide) f90 (fun _ h9 => h9) rfl dX10_cell_62 hcont
        · exact va_get (D := D) (ci := 5) (v := .int fg) (C := RX5) (T := TX5) (N := 1) hx hb hts hin5 hown hK hP j hj rfl 0 (by decide) f90 (fun _ h9 => h9) rfl dX10_cell_62 hcont
        · exact va_get (D := D) (ci := 9) (v := .int fg) (C := RX9) (T := TX9) (N := 1) hx hb hts hin9 hown hK hP j hj rfl 0 (by decide) f90 (fun _ h9 => h9) rfl dX10_cell_62 hcont
      obtain ⟨heq, heq2⟩ := ret_h heq
      subst heq
      subst heq2
      exact hret 65 H locs ls xa hR hU hP hD hS rfl dX10_cell_65
    have heq := it_f c_7 heq
    by_cases c_12 : v2 = (2 : Int32)
    · have heq := it_t c_12 heq
      refine lv_tableIn (tgt := 66) hx hb dX10_cell_10 (by rw [c_12]; decide) (by rw [c_12]; decide) (by rw [c_12]; rfl) (by decide) ?_
      refine lv_aload_n hx hb dX10_cell_66 rfl (lv_at hl 0 rfl) ?_
      refine va_get (D := D) (ci := 10) (v := .ref (b 3)) (C := RX10) (T := TX10) (N := 7) hx hb hts hin10 hown hK hP 0 rfl rfl 0 (by decide) f10 (fun _ h9 => h9) rfl dX10_cell_67 ?_
      refine lv_iload_n hx hb dX10_cell_70 rfl (lv_at hl 1 rfl) ?_
      refine lv_aload_n hx hb dX10_cell_71 rfl (lv_at hl 0 rfl) ?_
      refine va_get (D := D) (ci := 10) (v := .ref (b 3)) (C := RX10) (T := TX10) (N := 7) hx hb hts hin10 hown hK hP 0 rfl rfl 0 (by decide) f10 (fun _ h9 => h9) rfl dX10_cell_72 ?_
      refine va_get (D := D) (ci := 8) (v := .int (gF (xT xs 0) 8)) (C := RX8) (T := TX8) (N := 10) hx hb hts hin8 hown hK hP 3 rfl rfl 8 (by decide) f93 (fun _ h9 => h9) rfl dX10_cell_75 ?_
      obtain ⟨y_13, st_14, h_15, heq⟩ := bnd_h heq
      refine h_vi (own := RX10) (As := [.int v1, .int (gF (xT xs 0) 8)]) (rest := []) (wr := xWr0 b T xa xs) hx hb hml hown hts (okX8_bearsAt z l D (fun j => b (3 + j)) T (fun j => some (xFo xa 0 j)) h_15) (cwV 2 hts gX10_cell_X8_bearsAt rfl rfl rfl hdX8_bearsAt ⟨Nat.le_of_ble_eq_true rfl, Nat.le_of_ble_eq_true rfl⟩) hK hA hX hP hD hS (xp0 b T xa xs) (xq0 b T xa xs _) (ci := 8) (q0 := 0) rfl rfl rfl hl.1 rfl (Nat.le_of_ble_eq_true rfl) dX10_cell_78 ⟨Nat.le_of_ble_eq_true rfl, Nat.le_of_ble_eq_true rfl⟩ (fun H locs hP hD hS => ?_)
      obtain ⟨xs_16, exs_16⟩ : ∃ z, z = uT xs 0 st_14 := ⟨_, rfl⟩
      have hR : xRel b xa (uT xs 0 st_14) := hR.uT _ _
      rw [← exs_16] at hP hD hR
      have heq := nm_h exs_16 heq
      obtain ⟨heq, heq2⟩ := ret_h heq
      subst heq
      subst heq2
      exact hret 81 H locs ls xa hR hU hP hD hS rfl dX10_cell_81
    have heq := it_f c_12 heq
    by_cases c_17 : v2 = (3 : Int32)
    · have heq := it_t c_17 heq
      refine lv_tableIn (tgt := 82) hx hb dX10_cell_10 (by rw [c_17]; decide) (by rw [c_17]; decide) (by rw [c_17]; rfl) (by decide) ?_
      refine lv_aload_n hx hb dX10_cell_82 rfl (lv_at hl 0 rfl) ?_
      refine va_get (D := D) (ci := 10) (v := .ref (b 3)) (C := RX10) (T := TX10) (N := 7) hx hb hts hin10 hown hK hP 0 rfl rfl 0 (by decide) f10 (fun _ h9 => h9) rfl dX10_cell_83 ?_
      refine va_get (D := D) (ci := 8) (v := .ref (b 6)) (C := RX8) (T := TX8) (N := 10) hx hb hts hin8 hown hK hP 3 rfl rfl 2 (by decide) f100 (fun _ h9 => h9) rfl dX10_cell_86 ?_
      refine lv_iload_n hx hb dX10_cell_89 rfl (lv_at hl 1 rfl) ?_
      obtain ⟨n_18, heq⟩ := inr_h heq
      refine va_iald (f := gA (xT xs 0) 2) (n := 12) hx hb hK hP 6 0 rfl rfl n_18 dX10_cell_90 ?_
      obtain ⟨heq, heq2⟩ := ret_h heq
      subst heq
      subst heq2
      exact hret 91 H locs ls xa hR hU hP hD hS rfl dX10_cell_91
    have heq := it_f c_17 heq
    refine lv_tableOut (tgt := 92) hx hb dX10_cell_10 (sw_out fun k h1 h2 => ?_) (by decide) ?_
    · rcases (show k = 0 ∨ k = 1 ∨ k = 2 ∨ k = 3 by omega) with rfl | rfl | rfl | rfl
      · exact c_4
      · exact c_7
      · exact c_12
      · exact c_17
    refine lv_iconst (v := (-1 : Int32)) hx hb dX10_cell_92 (by decide) ?_
    obtain ⟨heq, heq2⟩ := ret_h heq
    subst heq
    subst heq2
    exact hret 93 H locs ls xa hR hU hP hD hS rfl dX10_cell_93
  have heq := it_t c_3 heq
  refine lv_iconst (v := (-1 : Int32)) hx hb dX10_cell_7 (by decide) ?_
  obtain ⟨heq, heq2⟩ := ret_h heq
  subst heq
  subst heq2
  exact hret 8 H locs ls xa hR hU hP hD hS rfl dX10_cell_8
set_option maxRecDepth 20000 in
theorem ggX10_comesTo_X8_isDown : GoodIn wsX10_comesTo wsX8_isDown := goodIn_r _ [7, 8, 152, 153, 154, 155, 156, 157, 158, 159, 160, 161] (by decide +kernel) (by decide +kernel)
set_option maxRecDepth 20000 in
theorem gX10_comesTo_X8_isDown : GoodIn wsX10_comesTo (wsV RX10 116 RX8 yX8_isDown wsX8_isDown) := goodIn_app (goodIn_of _ (by decide +kernel)) ggX10_comesTo_X8_isDown
set_option maxRecDepth 20000 in
theorem ggX10_comesTo_X0_kind : GoodIn wsX10_comesTo wsX0_kind := goodIn_r _ [13] (by decide +kernel) (by decide +kernel)
set_option maxRecDepth 20000 in
theorem gX10_comesTo_X0_kind : GoodIn wsX10_comesTo (wsV RX10 87 RX0 yX0_kind wsX0_kind) := goodIn_app (goodIn_of _ (by decide +kernel)) ggX10_comesTo_X0_kind
set_option maxRecDepth 20000 in
theorem ggX10_comesTo_X1_kind : GoodIn wsX10_comesTo wsX1_kind := goodIn_r _ [20] (by decide +kernel) (by decide +kernel)
set_option maxRecDepth 20000 in
theorem gX10_comesTo_X1_kind_u87X1 : GoodIn wsX10_comesTo (va_wsO RX10 87 RX1 "LaidDownTheLane$Brick" ⟨"LaidDownTheLane$Brick", "kind", "()I"⟩ yX1_kind wsX1_kind) := goodIn_app (goodIn_of _ (by decide +kernel)) ggX10_comesTo_X1_kind
set_option maxRecDepth 20000 in
theorem ggX10_comesTo_X2_kind : GoodIn wsX10_comesTo wsX2_kind := goodIn_r _ [24] (by decide +kernel) (by decide +kernel)
set_option maxRecDepth 20000 in
theorem gX10_comesTo_X2_kind_u87X2 : GoodIn wsX10_comesTo (va_wsO RX10 87 RX2 "LaidDownTheLane$Brick" ⟨"LaidDownTheLane$Brick", "kind", "()I"⟩ yX2_kind wsX2_kind) := goodIn_app (goodIn_of _ (by decide +kernel)) ggX10_comesTo_X2_kind
set_option maxRecDepth 20000 in
theorem ggX10_comesTo_X3_kind : GoodIn wsX10_comesTo wsX3_kind := goodIn_r _ [28] (by decide +kernel) (by decide +kernel)
set_option maxRecDepth 20000 in
theorem gX10_comesTo_X3_kind_u87X3 : GoodIn wsX10_comesTo (va_wsO RX10 87 RX3 "LaidDownTheLane$Brick" ⟨"LaidDownTheLane$Brick", "kind", "()I"⟩ yX3_kind wsX3_kind) := goodIn_app (goodIn_of _ (by decide +kernel)) ggX10_comesTo_X3_kind
set_option maxRecDepth 20000 in
theorem ggX10_comesTo_X4_kind : GoodIn wsX10_comesTo wsX4_kind := goodIn_r _ [32] (by decide +kernel) (by decide +kernel)
set_option maxRecDepth 20000 in
theorem gX10_comesTo_X4_kind_u87X4 : GoodIn wsX10_comesTo (va_wsO RX10 87 RX4 "LaidDownTheLane$Brick" ⟨"LaidDownTheLane$Brick", "kind", "()I"⟩ yX4_kind wsX4_kind) := goodIn_app (goodIn_of _ (by decide +kernel)) ggX10_comesTo_X4_kind
set_option maxRecDepth 20000 in
theorem ggX10_comesTo_X5_kind : GoodIn wsX10_comesTo wsX5_kind := goodIn_r _ [36] (by decide +kernel) (by decide +kernel)
set_option maxRecDepth 20000 in
theorem gX10_comesTo_X5_kind_u87X5 : GoodIn wsX10_comesTo (va_wsO RX10 87 RX5 "LaidDownTheLane$Brick" ⟨"LaidDownTheLane$Brick", "kind", "()I"⟩ yX5_kind wsX5_kind) := goodIn_app (goodIn_of _ (by decide +kernel)) ggX10_comesTo_X5_kind
set_option maxRecDepth 20000 in
theorem ggX10_comesTo_X6_kind : GoodIn wsX10_comesTo wsX6_kind := goodIn_r _ [40] (by decide +kernel) (by decide +kernel)
set_option maxRecDepth 20000 in
theorem gX10_comesTo_X6_kind_u87X6 : GoodIn wsX10_comesTo (va_wsO RX10 87 RX6 "LaidDownTheLane$Brick" ⟨"LaidDownTheLane$Brick", "kind", "()I"⟩ yX6_kind wsX6_kind) := goodIn_app (goodIn_of _ (by decide +kernel)) ggX10_comesTo_X6_kind
set_option maxRecDepth 20000 in
theorem ggX10_comesTo_X9_kind : GoodIn wsX10_comesTo wsX9_kind := goodIn_r _ [44] (by decide +kernel) (by decide +kernel)
set_option maxRecDepth 20000 in
theorem gX10_comesTo_X9_kind_u87X9 : GoodIn wsX10_comesTo (va_wsO RX10 87 RX9 "LaidDownTheLane$Brick" ⟨"LaidDownTheLane$Brick", "kind", "()I"⟩ yX9_kind wsX9_kind) := goodIn_app (goodIn_of _ (by decide +kernel)) ggX10_comesTo_X9_kind
set_option maxRecDepth 20000 in
theorem ggX10_comesTo_X8_replace : GoodIn wsX10_comesTo wsX8_replace := goodIn_r _ [48, 49, 50, 51, 52, 53, 54, 12, 55, 56, 57, 58, 59, 60, 19, 61, 62, 63, 64, 65, 23, 66, 67, 68, 27, 69, 70, 71, 72, 73, 74, 75, 31, 76, 77, 78, 79, 80, 39, 81, 82, 83, 84, 85, 86, 87, 43, 88, 89, 90, 91, 92, 93, 94, 95, 96, 97, 98, 99, 100, 101, 102, 103, 104, 105, 106, 107, 108, 109, 35, 110, 111, 112, 113, 114, 152, 153, 154, 155, 156, 157, 158, 159, 160, 161, 162, 163, 164, 165, 166, 167, 168, 169] (by decide +kernel) (by decide +kernel)
set_option maxRecDepth 20000 in
theorem gX10_comesTo_X8_replace : GoodIn wsX10_comesTo (wsV RX10 180 RX8 yX8_replace wsX8_replace) := goodIn_app (goodIn_of _ (by decide +kernel)) ggX10_comesTo_X8_replace
set_option maxRecDepth 20000 in
theorem ggX10_comesTo_X8_settle : GoodIn wsX10_comesTo wsX8_settle := goodIn_r _ [118, 119, 8, 120, 4, 5, 6, 7, 121, 122, 123, 124, 125, 126, 127, 128, 129, 130, 131, 132, 133, 134, 135, 136, 137, 138, 139, 140, 141, 142, 143, 144, 51, 50, 152, 153, 154, 155, 156, 157, 158, 159, 160, 161] (by decide +kernel) (by decide +kernel)
set_option maxRecDepth 20000 in
theorem gX10_comesTo_X8_settle : GoodIn wsX10_comesTo (wsV RX10 71 RX8 yX8_settle wsX8_settle) := goodIn_app (goodIn_of _ (by decide +kernel)) ggX10_comesTo_X8_settle
theorem dX10_comesTo_0 : decode cX10_comesTo 0 = .ok (.aload_n 0, 1) := by decide +kernel
theorem dX10_comesTo_1 : decode cX10_comesTo 1 = .ok (.getfield 10, 3) := by decide +kernel
theorem dX10_comesTo_4 : decode cX10_comesTo 4 = .ok (.invokevirtual 116, 3) := by decide +kernel
theorem dX10_comesTo_7 : decode cX10_comesTo 7 = .ok (.ifCond .eq 6, 3) := by decide +kernel
theorem dX10_comesTo_10 : decode cX10_comesTo 10 = .ok (.bipush (-3), 2) := by decide +kernel
theorem dX10_comesTo_12 : decode cX10_comesTo 12 = .ok (.ireturn, 1) := by decide +kernel
theorem dX10_comesTo_13 : decode cX10_comesTo 13 = .ok (.aload_n 0, 1) := by decide +kernel
theorem dX10_comesTo_14 : decode cX10_comesTo 14 = .ok (.getfield 10, 3) := by decide +kernel
theorem dX10_comesTo_17 : decode cX10_comesTo 17 = .ok (.getfield 84, 3) := by decide +kernel
theorem dX10_comesTo_20 : decode cX10_comesTo 20 = .ok (.iload_n 1, 1) := by decide +kernel
theorem dX10_comesTo_21 : decode cX10_comesTo 21 = .ok (.aaload, 1) := by decide +kernel
theorem dX10_comesTo_22 : decode cX10_comesTo 22 = .ok (.invokevirtual 87, 3) := by decide +kernel
theorem dX10_comesTo_25 : decode cX10_comesTo 25 = .ok (.istore_n 3, 1) := by decide +kernel
theorem dX10_comesTo_26 : decode cX10_comesTo 26 = .ok (.aload_n 0, 1) := by decide +kernel
theorem dX10_comesTo_27 : decode cX10_comesTo 27 = .ok (.getfield 10, 3) := by decide +kernel
theorem dX10_comesTo_30 : decode cX10_comesTo 30 = .ok (.iload_n 1, 1) := by decide +kernel
theorem dX10_comesTo_31 : decode cX10_comesTo 31 = .ok (.aload_n 2, 1) := by decide +kernel
theorem dX10_comesTo_32 : decode cX10_comesTo 32 = .ok (.invokevirtual 180, 3) := by decide +kernel
theorem dX10_comesTo_35 : decode cX10_comesTo 35 = .ok (.aload_n 0, 1) := by decide +kernel
theorem dX10_comesTo_36 : decode cX10_comesTo 36 = .ok (.getfield 10, 3) := by decide +kernel
theorem dX10_comesTo_39 : decode cX10_comesTo 39 = .ok (.invokevirtual 71, 3) := by decide +kernel
theorem dX10_comesTo_42 : decode cX10_comesTo 42 = .ok (.iload_n 3, 1) := by decide +kernel
theorem dX10_comesTo_43 : decode cX10_comesTo 43 = .ok (.ireturn, 1) := by decide +kernel
/-! X10 comesTo -/
def X10_comesTo (xs : XS) (v1 : Int32) (v2 : BK) : Option (Int32 × XS) :=
    bnd (X8_isDown (xT xs 0)) fun y_1 st_2 =>
    nm (uT xs 0 st_2) fun xs_4 =>
    if y_1 = 0 then
      (inr v1 12 <|
      nm ((kiB (xB xs_4 0 v1.toNatClampNeg))) fun x_8 =>
      bnd (X8_replace_0 xs_4 v1 v2) fun _ xs_9 =>
      bnd (X8_settle (xT xs_9 0)) fun _ st_13 =>
      nm (uT xs_9 0 st_13) fun xs_15 =>
      some (x_8, xs_15))
    else
    some ((-3 : Int32), xs_4)
abbrev rmX10_comesTo : Room := { frames := 5, cells := 0, slots := 0, locals := 114 }
theorem hdX10_comesTo : yX10_comesTo.cls = RX10 ∧ yX10_comesTo.cls ≠ "java/lang/invoke/MethodHandle" ∧ yX10_comesTo.cls ≠ "java/lang/invoke/VarHandle" ∧ (parseMethodDescriptor yX10_comesTo.desc).map (fun d => d.parameters.length) = some 2 := by decide +kernel
set_option maxRecDepth 100000 in
set_option maxHeartbeats 8000000 in
theorem okX10_comesTo (z : Nat → Nat) (l : Launch) (D : va_G) (T : mT3) (b : Nat → Nat) {xa : XA} {xs : XS} {v1 : Int32} {v2 : BK} {r : Int32} {xs' : XS} (hR : xRel b xa xs) {v2q : Nat} (v2h : (v2q, v2) ∈ xPl xa) (heq : X10_comesTo xs v1 v2 = some (r, xs')) : hXi xSub z l D T b yX10_comesTo wsX10_comesTo rmX10_comesTo [.ref (b 0), .int v1, .ref v2q] xa xs r xs' := by
  refine xbody_i (plainFor_of_name (by decide)) rfl (Nat.le_of_ble_eq_true rfl) (fun p e s m args below meth c A Q hx hb hml hown hts hK hA hX hret ls hP hD hS hl => ?_)
  have hl : lv_has ls 4 [(0, .ref (b 0)), (1, .int v1), (2, .ref v2q)] := hl
  have hin10 : ∀ w ∈ wsX100, w ∈ wsX10_comesTo := by decide +kernel
  have hin8 : ∀ w ∈ wsX80, w ∈ wsX10_comesTo := by decide +kernel
  have f10 : (Cond.fieldLink RX10 10 RX10 (TX10 0).2.1 (TX10 0).2.2.1).before args s = true := hts (.fieldLink RX10 10 RX10 "now" "LLaidDownTheLane$Town;") (by decide +kernel)
  have f84 : (Cond.fieldLink RX10 84 RX8 (TX8 0).2.1 (TX8 0).2.2.1).before args s = true := hts (.fieldLink RX10 84 RX8 "foot" "[LLaidDownTheLane$Brick;") (by decide +kernel)
  obtain ⟨xa0, hxa0⟩ : ∃ z : XA, z = xa := ⟨_, rfl⟩
  rw [← hxa0] at hret
  have hU : xSub xa0 xa := by rw [hxa0]; exact xSub.rf
  clear hxa0
  obtain ⟨H, hH⟩ : ∃ H, H = s.heap := ⟨_, rfl⟩
  obtain ⟨locs, hlocs⟩ : ∃ z : List Loc, z = [] := ⟨_, rfl⟩
  have hS : va_S A s.heap H locs := by rw [hH, hlocs]; exact hS
  have hP : va_P D vwCl (xW b T xa xs) H := by rw [hH]; exact hP
  suffices h9 : W p l e rmX10_comesTo s m args below meth c H locs 0 0 Q (F0 m 0 ls []) by rw [hH, hlocs] at h9; exact h9
  clear hH hlocs
  unfold X10_comesTo at heq
  refine lv_aload_n hx hb dX10_comesTo_0 rfl (lv_at hl 0 rfl) ?_
  refine va_get (D := D) (ci := 10) (v := .ref (b 3)) (C := RX10) (T := TX10) (N := 7) hx hb hts hin10 hown hK hP 0 rfl rfl 0 (by decide) f10 (fun _ h9 => h9) rfl dX10_comesTo_1 ?_
  obtain ⟨y_1, st_2, h_3, heq⟩ := bnd_h heq
  refine h_vi (own := RX10) (As := []) (rest := []) (wr := xWr0 b T xa xs) hx hb hml hown hts (okX8_isDown z l D (fun j => b (3 + j)) T (fun j => some (xFo xa 0 j)) h_3) (cwV 0 hts gX10_comesTo_X8_isDown rfl rfl rfl hdX8_isDown ⟨Nat.le_of_ble_eq_true rfl, Nat.le_of_ble_eq_true rfl⟩) hK hA hX hP hD hS (xp0 b T xa xs) (xq0 b T xa xs _) (ci := 8) (q0 := 0) rfl rfl rfl hl.1 rfl (Nat.le_of_ble_eq_true rfl) dX10_comesTo_4 ⟨Nat.le_of_ble_eq_true rfl, Nat.le_of_ble_eq_true rfl⟩ (fun H locs hP hD hS => ?_)
  obtain ⟨xs_4, exs_4⟩ : ∃ z, z = uT xs 0 st_2 := ⟨_, rfl⟩
  have hR : xRel b xa (uT xs 0 st_2) := hR.uT _ _
  rw [← exs_4] at hP hD hR
  have heq := nm_h exs_4 heq
  refine lv_if_eq (tgt := 13) hx hb dX10_comesTo_7 (by decide) (fun c_5 => ?_) (fun c_5 => ?_)
  · have heq := it_t c_5 heq
    refine lv_aload_n hx hb dX10_comesTo_13 rfl (lv_at hl 0 rfl) ?_
    refine va_get (D := D) (ci := 10) (v := .ref (b 3)) (C := RX10) (T := TX10) (N := 7) hx hb hts hin10 hown hK hP 0 rfl rfl 0 (by decide) f10 (fun _ h9 => h9) rfl dX10_comesTo_14 ?_
    refine va_get (D := D) (ci := 8) (v := .ref (b 4)) (C := RX8) (T := TX8) (N := 10) hx hb hts hin8 hown hK hP 3 rfl rfl 0 (by decide) f84 (fun _ h9 => h9) rfl dX10_comesTo_17 ?_
    refine lv_iload_n hx hb dX10_comesTo_20 rfl (lv_at hl 1 rfl) ?_
    obtain ⟨n_6, heq⟩ := inr_h heq
    have hb_7 := hR.1 0 (by decide) v1.toNatClampNeg (in_lt n_6)
    refine va_aldq (C := RX0) (n := 12) (f := fun j => some (xFo xa 0 j)) hx hb hK hP 4 1 rfl rfl n_6 dX10_comesTo_21 ?_
    refine W.eq (g2 := F0 m 22 ls [.ref (xFo xa 0 v1.toNatClampNeg)]) rfl ?_
    suffices hcont : ∀ (H : Heap) (locs : List Loc), va_P D vwCl (xW b T xa xs_4) H → va_S A s.heap H locs → W p l e rmX10_comesTo s m args below meth c H locs 0 0 Q (F0 m 25 ls [.int (kiB (xB xs_4 0 v1.toNatClampNeg))]) by
      have hm := xMem b T xs_4 hb_7
      have h8 := hR.2.2.2.2 _ hb_7
      obtain ⟨kk, ekk⟩ : ∃ z, z = (xB xs_4 0 v1.toNatClampNeg) := ⟨_, rfl⟩
      rw [← ekk] at hm h8 hcont
      obtain ⟨kd, fg⟩ := kk
      rcases (show kd = 0 ∨ kd = 1 ∨ kd = 2 ∨ kd = 3 ∨ kd = 4 ∨ kd = 5 ∨ kd = 6 ∨ kd = 7 from by have := h8; simp only at this; omega) with rfl | rfl | rfl | rfl | rfl | rfl | rfl | rfl
      · exact x_brick (own := RX10) (rest := []) hx hb hml hown hts (okX0_kind_0 z l D T _ fg) (Or.inl (cwV 0 hts gX10_comesTo_X0_kind rfl rfl rfl hdX0_kind ⟨Nat.le_of_ble_eq_true rfl, Nat.le_of_ble_eq_true rfl⟩)) hK hA hX hP hD hS hm rfl hl.1 (Nat.le_of_ble_eq_true rfl) dX10_comesTo_22 ⟨Nat.le_of_ble_eq_true rfl, Nat.le_of_ble_eq_true rfl⟩ hcont
      · exact x_brick (own := RX10) (rest := []) hx hb hml hown hts (okX2_kind_2 z l D T _ fg) (Or.inr ⟨_, _, va_cwO 0 hts gX10_comesTo_X2_kind_u87X2 rfl rfl rfl (b0 := cX0_kind) (m0 := 1) (r0 := some .int) (by decide +kernel) (by decide +kernel) ⟨Nat.le_of_ble_eq_true rfl, Nat.le_of_ble_eq_true rfl⟩⟩) hK hA hX hP hD hS hm rfl hl.1 (Nat.le_of_ble_eq_true rfl) dX10_comesTo_22 ⟨Nat.le_of_ble_eq_true rfl, Nat.le_of_ble_eq_true rfl⟩ hcont
      · exact x_brick (own := RX10) (rest := []) hx hb hml hown hts (okX6_kind_6 z l D T _ fg) (Or.inr ⟨_, _, va_cwO 0 hts gX10_comesTo_X6_kind_u87X6 rfl rfl rfl (b0 := cX0_kind) (m0 := 1) (r0 := some .int) (by decide +kernel) (by decide +kernel) ⟨Nat.le_of_ble_eq_true rfl, Nat.le_of_ble_eq_true rfl⟩⟩) hK hA hX hP hD hS hm rfl hl.1 (Nat.le_of_ble_eq_true rfl) dX10_comesTo_22 ⟨Nat.le_of_ble_eq_true rfl, Nat.le_of_ble_eq_true rfl⟩ hcont
      · exact x_brick (own := RX10) (rest := []) hx hb hml hown hts (okX4_kind_4 z l D T _ fg) (Or.inr ⟨_, _, va_cwO 0 hts gX10_comesTo_X4_kind_u87X4 rfl rfl rfl (b0 := cX0_kind) (m0 := 1) (r0 := some .int) (by decide +kernel) (by decide +kernel) ⟨Nat.le_of_ble_eq_true rfl, Nat.le_of_ble_eq_true rfl⟩⟩) hK hA hX hP hD hS hm rfl hl.1 (Nat.le_of_ble_eq_true rfl) dX10_comesTo_22 ⟨Nat.le_of_ble_eq_true rfl, Nat.le_of_ble_eq_true rfl⟩ hcont
      · exact x_brick (own := RX10) (rest := []) hx hb hml hown hts (okX1_kind_1 z l D T _ fg) (Or.inr ⟨_, _, va_cwO 0 hts gX10_comesTo_X1_kind_u87X1 rfl rfl rfl (b0 := cX0_kind) (m0 := 1) (r0 := some .int) (by decide +kernel) (by decide +kernel) ⟨Nat.le_of_ble_eq_true rfl, Nat.le_of_ble_eq_true rfl⟩⟩) hK hA hX hP hD hS hm rfl hl.1 (Nat.le_of_ble_eq_true rfl) dX10_comesTo_22 ⟨Nat.le_of_ble_eq_true rfl, Nat.le_of_ble_eq_true rfl⟩ hcont
      · exact x_brick (own := RX10) (rest := []) hx hb hml hown hts (okX3_kind_3 z l D T _ fg) (Or.inr ⟨_, _, va_cwO 0 hts gX10_comesTo_X3_kind_u87X3 rfl rfl rfl (b0 := cX0_kind) (m0 := 1) (r0 := some .int) (by decide +kernel) (by decide +kernel) ⟨Nat.le_of_ble_eq_true rfl, Nat.le_of_ble_eq_true rfl⟩⟩) hK hA hX hP hD hS hm rfl hl.1 (Nat.le_of_ble_eq_true rfl) dX10_comesTo_22 ⟨Nat.le_of_ble_eq_true rfl, Nat.le_of_ble_eq_true rfl⟩ hcont
      · exact x_brick (own := RX10) (rest := []) hx hb hml hown hts (okX5_kind_5 z l D T _ fg) (Or.inr ⟨_, _, va_cwO 0 hts gX10_comesTo_X5_kind_u87X5 rfl rfl rfl (b0 := cX0_kind) (m0 := 1) (r0 := some .int) (by decide +kernel) (by decide +kernel) ⟨Nat.le_of_ble_eq_true rfl, Nat.le_of_ble_eq_true rfl⟩⟩) hK hA hX hP hD hS hm rfl hl.1 (Nat.le_of_ble_eq_true rfl) dX10_comesTo_22 ⟨Nat.le_of_ble_eq_true rfl, Nat.le_of_ble_eq_true rfl⟩ hcont
      · exact x_brick (own := RX10) (rest := []) hx hb hml hown hts (okX9_kind_9 z l D T _ fg) (Or.inr ⟨_, _, va_cwO 0 hts gX10_comesTo_X9_kind_u87X9 rfl rfl rfl (b0 := cX0_kind) (m0 := 1) (r0 := some .int) (by decide +kernel) (by decide +kernel) ⟨Nat.le_of_ble_eq_true rfl, Nat.le_of_ble_eq_true rfl⟩⟩) hK hA hX hP hD hS hm rfl hl.1 (Nat.le_of_ble_eq_true rfl) dX10_comesTo_22 ⟨Nat.le_of_ble_eq_true rfl, Nat.le_of_ble_eq_true rfl⟩ hcont
    intro H locs hP hS
    refine lv_topi (fun x_8 ex_8 => ?_)
    have heq := nm_h ex_8 heq
    refine lv_istore_n (lv' := [(3, .int x_8), (0, .ref (b 0)), (1, .int v1), (2, .ref v2q)]) hx hb dX10_comesTo_25 rfl hl (by decide) rfl (fun ls hl => ?_)
    refine lv_aload_n hx hb dX10_comesTo_26 rfl (lv_at hl 1 rfl) ?_
    refine va_get (D := D) (ci := 10) (v := .ref (b 3)) (C := RX10) (T := TX10) (N := 7) hx hb hts hin10 hown hK hP 0 rfl rfl 0 (by decide) f10 (fun _ h9 => h9) rfl dX10_comesTo_27 ?_
    refine lv_iload_n hx hb dX10_comesTo_30 rfl (lv_at hl 2 rfl) ?_
    refine lv_aload_n hx hb dX10_comesTo_31 rfl (lv_at hl 3 rfl) ?_
    obtain ⟨⟨⟩, xs_9, h_10, heq⟩ := bnd_h heq
    refine x_vv (own := RX10) (As := [.int v1, .ref v2q]) (rest := []) hx hb hml hown hts (okX8_replace_0 z l D T b hR v2h h_10) (cwV 2 hts gX10_comesTo_X8_replace rfl rfl rfl hdX8_replace ⟨Nat.le_of_ble_eq_true rfl, Nat.le_of_ble_eq_true rfl⟩) hK hA hX hP hD hS (ci := 8) (q0 := 3) rfl rfl rfl hl.1 rfl (Nat.le_of_ble_eq_true rfl) dX10_comesTo_32 ⟨Nat.le_of_ble_eq_true rfl, Nat.le_of_ble_eq_true rfl⟩ (fun xa_11 H locs hR hsxa_11 hP hD hS => ?_)
    have hU := xSub.tr hU hsxa_11
    refine lv_aload_n hx hb dX10_comesTo_35 rfl (lv_at hl 1 rfl) ?_
    refine va_get (D := D) (ci := 10) (v := .ref (b 3)) (C := RX10) (T := TX10) (N := 7) hx hb hts hin10 hown hK hP 0 rfl rfl 0 (by decide) f10 (fun _ h9 => h9) rfl dX10_comesTo_36 ?_
    obtain ⟨⟨⟩, st_13, h_14, heq⟩ := bnd_h heq
    refine h_vv (own := RX10) (As := []) (rest := []) (wr := xWr0 b T xa_11 xs_9) hx hb hml hown hts (okX8_settle z l D (fun j => b (3 + j)) T (fun j => some (xFo xa_11 0 j)) h_14) (cwV 0 hts gX10_comesTo_X8_settle rfl rfl rfl hdX8_settle ⟨Nat.le_of_ble_eq_true rfl, Nat.le_of_ble_eq_true rfl⟩) hK hA hX hP hD hS (xp0 b T xa_11 xs_9) (xq0 b T xa_11 xs_9 _) (ci := 8) (q0 := 0) rfl rfl rfl hl.1 rfl (Nat.le_of_ble_eq_true rfl) dX10_comesTo_39 ⟨Nat.le_of_ble_eq_true rfl, Nat.le_of_ble_eq_true rfl⟩ (fun H locs hP hD hS => ?_)
    obtain ⟨xs_15, exs_15⟩ : ∃ z, z = uT xs_9 0 st_13 := ⟨_, rfl⟩
    have hR : xRel b xa_11 (uT xs_9 0 st_13) := hR.uT _ _
    rw [← exs_15] at hP hD hR
    have heq := nm_h exs_15 heq
    refine lv_iload_n hx hb dX10_comesTo_42 rfl (lv_at hl 0 rfl) ?_
    obtain ⟨heq, heq2⟩ := ret_h heq
    subst heq
    subst heq2
    exact hret 43 H locs ls xa_11 hR hU hP hD hS rfl dX10_comesTo_43
  have heq := it_f c_5 heq
  refine lv_bipush (v := (-3 : Int32)) hx hb dX10_comesTo_10 (by decide) ?_
  obtain ⟨heq, heq2⟩ := ret_h heq
  subst heq
  subst heq2
  exact hret 12 H locs ls xa hR hU hP hD hS rfl dX10_comesTo_12
set_option maxRecDepth 20000 in
theorem ggX10_cuts_X10_isSide : GoodIn wsX10_cuts wsX10_isSide := goodIn_r _ [5] (by decide +kernel) (by decide +kernel)
set_option maxRecDepth 20000 in
theorem gX10_cuts_X10_isSide : GoodIn wsX10_cuts (va_wsS RX10 80 yX10_isSide wsX10_isSide) := goodIn_app (goodIn_of _ (by decide +kernel)) ggX10_cuts_X10_isSide
set_option maxRecDepth 20000 in
theorem ggX10_cuts_X10_comesTo : GoodIn wsX10_cuts wsX10_comesTo := goodIn_r _ [9, 10, 11, 12, 13, 14, 15, 16, 17, 18, 19, 20, 21, 22, 23, 24, 25, 26, 27, 28, 29, 30, 31, 32, 33, 34, 35, 36, 37, 38, 39, 40, 41, 42, 43, 44, 45, 46, 47, 48, 49, 50, 51, 52, 53, 54, 55, 56, 57, 58, 59, 60, 61, 62, 63, 64, 65, 66, 67, 68, 69, 70, 71, 72, 73, 74, 75, 76, 77, 78, 79, 80, 81, 82, 83, 84, 85, 86, 87, 88, 89, 90, 91, 92, 93, 94, 95, 96, 97, 98, 99, 100, 101, 102, 103, 104, 105, 106, 107, 108, 109, 110, 111, 112, 113, 114, 115, 116, 117, 118, 119, 120, 121, 122, 123, 124, 125, 126, 127, 128, 129, 130, 131, 132, 133, 134, 135, 136, 137, 138, 139, 140, 141, 142, 143, 144, 145, 146, 147, 148, 149, 150, 151, 152, 153, 154, 155, 156, 157, 158, 159, 160, 161, 162, 163, 164, 165, 166, 167, 168, 169, 170, 171, 172, 173, 174, 175, 176, 177, 178] (by decide +kernel) (by decide +kernel)
set_option maxRecDepth 20000 in
theorem gX10_cuts_X10_comesTo : GoodIn wsX10_cuts (wsV RX10 104 RX10 yX10_comesTo wsX10_comesTo) := goodIn_app (goodIn_of _ (by decide +kernel)) ggX10_cuts_X10_comesTo
theorem dX10_cuts_0 : decode cX10_cuts 0 = .ok (.iload_n 1, 1) := by decide +kernel
theorem dX10_cuts_1 : decode cX10_cuts 1 = .ok (.invokestatic 80, 3) := by decide +kernel
theorem dX10_cuts_4 : decode cX10_cuts 4 = .ok (.ifCond .ne 5, 3) := by decide +kernel
theorem dX10_cuts_7 : decode cX10_cuts 7 = .ok (.iconst (-1), 1) := by decide +kernel
theorem dX10_cuts_8 : decode cX10_cuts 8 = .ok (.ireturn, 1) := by decide +kernel
theorem dX10_cuts_9 : decode cX10_cuts 9 = .ok (.aload_n 0, 1) := by decide +kernel
theorem dX10_cuts_10 : decode cX10_cuts 10 = .ok (.iload_n 1, 1) := by decide +kernel
theorem dX10_cuts_11 : decode cX10_cuts 11 = .ok (.aload_n 0, 1) := by decide +kernel
theorem dX10_cuts_12 : decode cX10_cuts 12 = .ok (.getfield 27, 3) := by decide +kernel
theorem dX10_cuts_15 : decode cX10_cuts 15 = .ok (.invokevirtual 104, 3) := by decide +kernel
theorem dX10_cuts_18 : decode cX10_cuts 18 = .ok (.ireturn, 1) := by decide +kernel
/-! X10 cuts -/
def X10_cuts (xs : XS) (v1 : Int32) : Option (Int32 × XS) :=
    bd1 (X10_isSide v1) fun y_1 =>
    if y_1 = 0 then
      (some ((-1 : Int32), xs))
    else
    bnd (X10_comesTo xs v1 ((1, 0) : BK)) fun y_5 xs_6 =>
    some (y_5, xs_6)
abbrev rmX10_cuts : Room := { frames := 6, cells := 0, slots := 0, locals := 137 }
theorem hdX10_cuts : yX10_cuts.cls = RX10 ∧ yX10_cuts.cls ≠ "java/lang/invoke/MethodHandle" ∧ yX10_cuts.cls ≠ "java/lang/invoke/VarHandle" ∧ (parseMethodDescriptor yX10_cuts.desc).map (fun d => d.parameters.length) = some 1 := by decide +kernel
set_option maxRecDepth 100000 in
set_option maxHeartbeats 8000000 in
theorem okX10_cuts (z : Nat → Nat) (l : Launch) (D : va_G) (T : mT3) (b : Nat → Nat) {xa : XA} {xs : XS} {v1 : Int32} {r : Int32} {xs' : XS} (hR : xRel b xa xs) (heq : X10_cuts xs v1 = some (r, xs')) : hXi xSub z l D T b yX10_cuts wsX10_cuts rmX10_cuts [.ref (b 0), .int v1] xa xs r xs' := by
  refine xbody_i (plainFor_of_name (by decide)) rfl (Nat.le_of_ble_eq_true rfl) (fun p e s m args below meth c A Q hx hb hml hown hts hK hA hX hret ls hP hD hS hl => ?_)
  have hl : lv_has ls 2 [(0, .ref (b 0)), (1, .int v1)] := hl
  have hin10 : ∀ w ∈ wsX100, w ∈ wsX10_cuts := by decide +kernel
  have f27 : (Cond.fieldLink RX10 27 RX10 (TX10 4).2.1 (TX10 4).2.2.1).before args s = true := hts (.fieldLink RX10 27 RX10 "cut" "LLaidDownTheLane$Brick;") (by decide +kernel)
  obtain ⟨xa0, hxa0⟩ : ∃ z : XA, z = xa := ⟨_, rfl⟩
  rw [← hxa0] at hret
  have hU : xSub xa0 xa := by rw [hxa0]; exact xSub.rf
  clear hxa0
  obtain ⟨H, hH⟩ : ∃ H, H = s.heap := ⟨_, rfl⟩
  obtain ⟨locs, hlocs⟩ : ∃ z : List Loc, z = [] := ⟨_, rfl⟩
  have hS : va_S A s.heap H locs := by rw [hH, hlocs]; exact hS
  have hP : va_P D vwCl (xW b T xa xs) H := by rw [hH]; exact hP
  suffices h9 : W p l e rmX10_cuts s m args below meth c H locs 0 0 Q (F0 m 0 ls []) by rw [hH, hlocs] at h9; exact h9
  clear hH hlocs
  unfold X10_cuts at heq
  refine lv_iload_n hx hb dX10_cuts_0 rfl (lv_at hl 1 rfl) ?_
  obtain ⟨y_1, h_2, heq⟩ := bd1_h heq
  refine h_si (own := RX10) (As := [.int v1]) (rest := []) (w0 := []) (w1 := []) (wr := xW b T xa xs) hx hb hml hown hts (okX10_isSide z l D h_2) (va_cwS 1 hts gX10_cuts_X10_isSide rfl rfl rfl (hdX10_isSide).2 ⟨Nat.le_of_ble_eq_true rfl, Nat.le_of_ble_eq_true rfl⟩) (hK.sub [] rfl) hA hX hP hD hS (List.Perm.refl _) (List.Perm.refl _) rfl hl.1 rfl (Nat.le_of_ble_eq_true rfl) dX10_cuts_1 ⟨Nat.le_of_ble_eq_true rfl, Nat.le_of_ble_eq_true rfl⟩ (fun H locs hP hD hS => ?_)
  refine lv_if_ne (tgt := 9) hx hb dX10_cuts_4 (by decide) (fun c_3 => ?_) (fun c_3 => ?_)
  · have heq := it_f c_3 heq
    refine lv_aload_n hx hb dX10_cuts_9 rfl (lv_at hl 0 rfl) ?_
    refine lv_iload_n hx hb dX10_cuts_10 rfl (lv_at hl 1 rfl) ?_
    refine lv_aload_n hx hb dX10_cuts_11 rfl (lv_at hl 0 rfl) ?_
    have hc_4 := hR.2.2.2.1
    refine va_get (D := D) (ci := 10) (v := .ref (b 24)) (C := RX10) (T := TX10) (N := 7) hx hb hts hin10 hown hK hP 0 rfl rfl 4 (by decide) f27 (fun _ h9 => h9) rfl dX10_cuts_12 ?_
    obtain ⟨y_5, xs_6, h_7, heq⟩ := bnd_h heq
    refine x_vi (own := RX10) (As := [.int v1, .ref (b 24)]) (rest := []) hx hb hml hown hts (okX10_comesTo z l D T b hR hc_4 h_7) (cwV 2 hts gX10_cuts_X10_comesTo rfl rfl rfl hdX10_comesTo ⟨Nat.le_of_ble_eq_true rfl, Nat.le_of_ble_eq_true rfl⟩) hK hA hX hP hD hS (ci := 10) (q0 := 0) rfl rfl rfl hl.1 rfl (Nat.le_of_ble_eq_true rfl) dX10_cuts_15 ⟨Nat.le_of_ble_eq_true rfl, Nat.le_of_ble_eq_true rfl⟩ (fun xa_8 H locs hR hsxa_8 hP hD hS => ?_)
    have hU := xSub.tr hU hsxa_8
    obtain ⟨heq, heq2⟩ := ret_h heq
    subst heq
    subst heq2
    exact hret 18 H locs ls xa_8 hR hU hP hD hS rfl dX10_cuts_18
  have heq := it_t c_3 heq
  refine lv_iconst (v := (-1 : Int32)) hx hb dX10_cuts_7 (by decide) ?_
  obtain ⟨heq, heq2⟩ := ret_h heq
  subst heq
  subst heq2
  exact hret 8 H locs ls xa hR hU hP hD hS rfl dX10_cuts_8
set_option maxRecDepth 20000 in
theorem ggX10_kindOn_X10_isShelf : GoodIn wsX10_kindOn wsX10_isShelf := goodIn_r _ [5] (by decide +kernel) (by decide +kernel)
set_option maxRecDepth 20000 in
theorem gX10_kindOn_X10_isShelf : GoodIn wsX10_kindOn (va_wsS RX10 268 yX10_isShelf wsX10_isShelf) := goodIn_app (goodIn_of _ (by decide +kernel)) ggX10_kindOn_X10_isShelf
theorem dX10_kindOn_0 : decode cX10_kindOn 0 = .ok (.iload_n 1, 1) := by decide +kernel
theorem dX10_kindOn_1 : decode cX10_kindOn 1 = .ok (.invokestatic 268, 3) := by decide +kernel
theorem dX10_kindOn_4 : decode cX10_kindOn 4 = .ok (.ifCond .eq 12, 3) := by decide +kernel
theorem dX10_kindOn_7 : decode cX10_kindOn 7 = .ok (.aload_n 0, 1) := by decide +kernel
theorem dX10_kindOn_8 : decode cX10_kindOn 8 = .ok (.getfield 33, 3) := by decide +kernel
theorem dX10_kindOn_11 : decode cX10_kindOn 11 = .ok (.iload_n 1, 1) := by decide +kernel
theorem dX10_kindOn_12 : decode cX10_kindOn 12 = .ok (.aaload, 1) := by decide +kernel
theorem dX10_kindOn_13 : decode cX10_kindOn 13 = .ok (.goto 4, 3) := by decide +kernel
theorem dX10_kindOn_16 : decode cX10_kindOn 16 = .ok (.aconst_null, 1) := by decide +kernel
theorem dX10_kindOn_17 : decode cX10_kindOn 17 = .ok (.areturn, 1) := by decide +kernel
/-! X10 kindOn -/
def X10_kindOn_p17 (xs : XS) (t0 : Option BK) : Option ((Option BK) × XS) :=
    some (t0, xs)
def X10_kindOn (xs : XS) (v1 : Int32) : Option ((Option BK) × XS) :=
    bd1 (X10_isShelf v1) fun y_1 =>
    if y_1 = 0 then
      (X10_kindOn_p17 xs none)
    else
    inr v1 8 <|
    X10_kindOn_p17 xs (xK xs v1.toNatClampNeg)
abbrev rmX10_kindOn : Room := { frames := 1, cells := 0, slots := 0, locals := 20 }
theorem hdX10_kindOn : yX10_kindOn.cls = RX10 ∧ yX10_kindOn.cls ≠ "java/lang/invoke/MethodHandle" ∧ yX10_kindOn.cls ≠ "java/lang/invoke/VarHandle" ∧ (parseMethodDescriptor yX10_kindOn.desc).map (fun d => d.parameters.length) = some 1 := by decide +kernel
set_option maxRecDepth 100000 in
set_option maxHeartbeats 8000000 in
theorem okX10_kindOn (z : Nat → Nat) (l : Launch) (D : va_G) (T : mT3) (b : Nat → Nat) {xa : XA} {xs : XS} {v1 : Int32} {r : Option BK} {xs' : XS} (hR : xRel b xa xs) (heq : X10_kindOn xs v1 = some (r, xs')) : hXb xSub z l D T b yX10_kindOn wsX10_kindOn rmX10_kindOn [.ref (b 0), .int v1] xa xs r xs' := by
  refine xbody_b (plainFor_of_name (by decide)) rfl (Nat.le_of_ble_eq_true rfl) (fun p e s m args below meth c A Q hx hb hml hown hts hK hA hX hret ls hP hD hS hl => ?_)
  have hl : lv_has ls 2 [(0, .ref (b 0)), (1, .int v1)] := hl
  have hin10 : ∀ w ∈ wsX100, w ∈ wsX10_kindOn := by decide +kernel
  have f33 : (Cond.fieldLink RX10 33 RX10 (TX10 5).2.1 (TX10 5).2.2.1).before args s = true := hts (.fieldLink RX10 33 RX10 "kinds" "[LLaidDownTheLane$Brick;") (by decide +kernel)
  obtain ⟨xa0, hxa0⟩ : ∃ z : XA, z = xa := ⟨_, rfl⟩
  rw [← hxa0] at hret
  have hU : xSub xa0 xa := by rw [hxa0]; exact xSub.rf
  clear hxa0
  have b17 : ∀ (xs : XS) (t0 : Option BK) (xa : XA) (t0q : Option Nat) (t0h : onB (xPl xa) t0 t0q) (H : Heap) (locs : List Loc) (ls : Array Slot), xRel b xa xs → xSub xa0 xa → va_P D vwCl (xW b T xa xs) H → va_D A (xW b T xa xs) → va_S A s.heap H locs → lv_has ls 2 [] → X10_kindOn_p17 xs t0 = some (r, xs') → W p l e rmX10_kindOn s m args below meth c H locs 0 0 Q (F0 m 17 ls [va_rf t0q]) := by
    intro xs t0 xa t0q t0h H locs ls hR hU hP hD hS hl heq
    unfold X10_kindOn_p17 at heq
    obtain ⟨heq, heq2⟩ := ret_h heq
    subst heq
    subst heq2
    exact hret 17 H locs ls xa t0q hR hU hP hD hS t0h dX10_kindOn_17
  obtain ⟨H, hH⟩ : ∃ H, H = s.heap := ⟨_, rfl⟩
  obtain ⟨locs, hlocs⟩ : ∃ z : List Loc, z = [] := ⟨_, rfl⟩
  have hS : va_S A s.heap H locs := by rw [hH, hlocs]; exact hS
  have hP : va_P D vwCl (xW b T xa xs) H := by rw [hH]; exact hP
  suffices h9 : W p l e rmX10_kindOn s m args below meth c H locs 0 0 Q (F0 m 0 ls []) by rw [hH, hlocs] at h9; exact h9
  clear hH hlocs
  unfold X10_kindOn at heq
  refine lv_iload_n hx hb dX10_kindOn_0 rfl (lv_at hl 1 rfl) ?_
  obtain ⟨y_1, h_2, heq⟩ := bd1_h heq
  refine h_si (own := RX10) (As := [.int v1]) (rest := []) (w0 := []) (w1 := []) (wr := xW b T xa xs) hx hb hml hown hts (okX10_isShelf z l D h_2) (va_cwS 1 hts gX10_kindOn_X10_isShelf rfl rfl rfl (hdX10_isShelf).2 ⟨Nat.le_of_ble_eq_true rfl, Nat.le_of_ble_eq_true rfl⟩) (hK.sub [] rfl) hA hX hP hD hS (List.Perm.refl _) (List.Perm.refl _) rfl hl.1 rfl (Nat.le_of_ble_eq_true rfl) dX10_kindOn_1 ⟨Nat.le_of_ble_eq_true rfl, Nat.le_of_ble_eq_true rfl⟩ (fun H locs hP hD hS => ?_)
  refine lv_if_eq (tgt := 16) hx hb dX10_kindOn_4 (by decide) (fun c_3 => ?_) (fun c_3 => ?_)
  · have heq := it_t c_3 heq
    refine lv_null hx hb dX10_kindOn_16 ?_
    exact b17 xs none xa none rfl H locs ls hR hU hP hD hS (lv_sub hl [] rfl) heq
  have heq := it_f c_3 heq
  refine lv_aload_n hx hb dX10_kindOn_7 rfl (lv_at hl 0 rfl) ?_
  refine va_get (D := D) (ci := 10) (v := .ref (b 1)) (C := RX10) (T := TX10) (N := 7) hx hb hts hin10 hown hK hP 0 rfl rfl 5 (by decide) f33 (fun _ h9 => h9) rfl dX10_kindOn_8 ?_
  refine lv_iload_n hx hb dX10_kindOn_11 rfl (lv_at hl 1 rfl) ?_
  obtain ⟨n_4, heq⟩ := inr_h heq
  have hb_5 := hR.2.1 v1.toNatClampNeg (in_lt n_4)
  refine va_aldq (C := RX0) (n := 8) (f := xKa xa) hx hb hK hP 1 1 rfl rfl n_4 dX10_kindOn_12 ?_
  refine lv_goto (tgt := 17) hx hb dX10_kindOn_13 (by decide) ?_
  exact b17 xs (xK xs v1.toNatClampNeg) xa (xKa xa v1.toNatClampNeg) hb_5 H locs ls hR hU hP hD hS (lv_sub hl [] rfl) heq
set_option maxRecDepth 20000 in
theorem ggX10_lays_X10_isSide : GoodIn wsX10_lays wsX10_isSide := goodIn_r _ [4] (by decide +kernel) (by decide +kernel)
set_option maxRecDepth 20000 in
theorem gX10_lays_X10_isSide : GoodIn wsX10_lays (va_wsS RX10 80 yX10_isSide wsX10_isSide) := goodIn_app (goodIn_of _ (by decide +kernel)) ggX10_lays_X10_isSide
set_option maxRecDepth 20000 in
theorem ggX10_lays_X10_kindOn : GoodIn wsX10_lays wsX10_kindOn := goodIn_r _ [8, 9, 10, 11, 3, 12, 170, 171, 172, 173, 174, 175, 176] (by decide +kernel) (by decide +kernel)
set_option maxRecDepth 20000 in
theorem gX10_lays_X10_kindOn : GoodIn wsX10_lays (wsV RX10 108 RX10 yX10_kindOn wsX10_kindOn) := goodIn_app (goodIn_of _ (by decide +kernel)) ggX10_lays_X10_kindOn
set_option maxRecDepth 20000 in
theorem ggX10_lays_X10_refusal : GoodIn wsX10_lays wsX10_refusal := goodIn_r _ [16, 10, 11, 3, 12, 17, 18, 19, 20, 9, 21, 170, 171, 172, 173, 174, 175, 176] (by decide +kernel) (by decide +kernel)
set_option maxRecDepth 20000 in
theorem gX10_lays_X10_refusal : GoodIn wsX10_lays (wsV RX10 47 RX10 yX10_refusal wsX10_refusal) := goodIn_app (goodIn_of _ (by decide +kernel)) ggX10_lays_X10_refusal
set_option maxRecDepth 20000 in
theorem ggX10_lays_X10_comesTo : GoodIn wsX10_lays wsX10_comesTo := goodIn_r _ [25, 26, 27, 28, 29, 30, 31, 32, 33, 34, 35, 36, 37, 38, 39, 40, 41, 42, 43, 44, 45, 46, 47, 48, 49, 50, 51, 52, 53, 54, 55, 56, 57, 58, 59, 60, 61, 62, 63, 64, 65, 66, 67, 68, 69, 70, 71, 72, 73, 74, 75, 76, 77, 78, 79, 80, 81, 82, 83, 84, 85, 86, 87, 88, 89, 90, 91, 92, 93, 94, 95, 96, 97, 98, 99, 100, 101, 102, 103, 104, 105, 106, 107, 108, 109, 110, 111, 112, 113, 114, 115, 116, 117, 118, 119, 120, 121, 122, 123, 124, 125, 126, 127, 128, 129, 130, 131, 132, 133, 134, 135, 136, 137, 138, 139, 140, 141, 142, 143, 144, 145, 146, 147, 148, 149, 150, 151, 152, 153, 154, 155, 156, 157, 158, 159, 160, 161, 162, 163, 164, 165, 166, 167, 168, 169, 170, 171, 172, 173, 174, 175, 176, 177, 178, 179, 180, 181, 182, 183, 184, 185, 186, 187, 188, 189, 190, 191, 192, 193, 194] (by decide +kernel) (by decide +kernel)
set_option maxRecDepth 20000 in
theorem gX10_lays_X10_comesTo : GoodIn wsX10_lays (wsV RX10 104 RX10 yX10_comesTo wsX10_comesTo) := goodIn_app (goodIn_of _ (by decide +kernel)) ggX10_lays_X10_comesTo
theorem dX10_lays_0 : decode cX10_lays 0 = .ok (.iload_n 2, 1) := by decide +kernel
theorem dX10_lays_1 : decode cX10_lays 1 = .ok (.invokestatic 80, 3) := by decide +kernel
theorem dX10_lays_4 : decode cX10_lays 4 = .ok (.ifCond .ne 5, 3) := by decide +kernel
theorem dX10_lays_7 : decode cX10_lays 7 = .ok (.iconst (-1), 1) := by decide +kernel
theorem dX10_lays_8 : decode cX10_lays 8 = .ok (.ireturn, 1) := by decide +kernel
theorem dX10_lays_9 : decode cX10_lays 9 = .ok (.aload_n 0, 1) := by decide +kernel
theorem dX10_lays_10 : decode cX10_lays 10 = .ok (.iload_n 1, 1) := by decide +kernel
theorem dX10_lays_11 : decode cX10_lays 11 = .ok (.invokevirtual 108, 3) := by decide +kernel
theorem dX10_lays_14 : decode cX10_lays 14 = .ok (.astore_n 3, 1) := by decide +kernel
theorem dX10_lays_15 : decode cX10_lays 15 = .ok (.aload_n 3, 1) := by decide +kernel
theorem dX10_lays_16 : decode cX10_lays 16 = .ok (.ifnonnull 9, 3) := by decide +kernel
theorem dX10_lays_19 : decode cX10_lays 19 = .ok (.aload_n 0, 1) := by decide +kernel
theorem dX10_lays_20 : decode cX10_lays 20 = .ok (.iload_n 1, 1) := by decide +kernel
theorem dX10_lays_21 : decode cX10_lays 21 = .ok (.invokevirtual 47, 3) := by decide +kernel
theorem dX10_lays_24 : decode cX10_lays 24 = .ok (.ireturn, 1) := by decide +kernel
theorem dX10_lays_25 : decode cX10_lays 25 = .ok (.aload_n 0, 1) := by decide +kernel
theorem dX10_lays_26 : decode cX10_lays 26 = .ok (.iload_n 2, 1) := by decide +kernel
theorem dX10_lays_27 : decode cX10_lays 27 = .ok (.aload_n 3, 1) := by decide +kernel
theorem dX10_lays_28 : decode cX10_lays 28 = .ok (.invokevirtual 104, 3) := by decide +kernel
theorem dX10_lays_31 : decode cX10_lays 31 = .ok (.ireturn, 1) := by decide +kernel
/-! X10 lays -/
def X10_lays (xs : XS) (v1 : Int32) (v2 : Int32) : Option (Int32 × XS) :=
    bd1 (X10_isSide v2) fun y_1 =>
    if y_1 = 0 then
      (some ((-1 : Int32), xs))
    else
    bnd (X10_kindOn xs v1) fun y_4 xs_5 =>
    ob y_4
      (bnd (X10_refusal xs_5 v1) fun y_13 xs_14 =>
      some (y_13, xs_14))
    fun k_9 =>
    bnd (X10_comesTo xs_5 v2 k_9) fun y_18 xs_19 =>
    some (y_18, xs_19)
abbrev rmX10_lays : Room := { frames := 6, cells := 0, slots := 0, locals := 137 }
theorem hdX10_lays : yX10_lays.cls = RX10 ∧ yX10_lays.cls ≠ "java/lang/invoke/MethodHandle" ∧ yX10_lays.cls ≠ "java/lang/invoke/VarHandle" ∧ (parseMethodDescriptor yX10_lays.desc).map (fun d => d.parameters.length) = some 2 := by decide +kernel
set_option maxRecDepth 100000 in
set_option maxHeartbeats 8000000 in
theorem okX10_lays (z : Nat → Nat) (l : Launch) (D : va_G) (T : mT3) (b : Nat → Nat) {xa : XA} {xs : XS} {v1 : Int32} {v2 : Int32} {r : Int32} {xs' : XS} (hR : xRel b xa xs) (heq : X10_lays xs v1 v2 = some (r, xs')) : hXi xSub z l D T b yX10_lays wsX10_lays rmX10_lays [.ref (b 0), .int v1, .int v2] xa xs r xs' := by
  refine xbody_i (plainFor_of_name (by decide)) rfl (Nat.le_of_ble_eq_true rfl) (fun p e s m args below meth c A Q hx hb hml hown hts hK hA hX hret ls hP hD hS hl => ?_)
  have hl : lv_has ls 4 [(0, .ref (b 0)), (1, .int v1), (2, .int v2)] := hl
  obtain ⟨xa0, hxa0⟩ : ∃ z : XA, z = xa := ⟨_, rfl⟩
  rw [← hxa0] at hret
  have hU : xSub xa0 xa := by rw [hxa0]; exact xSub.rf
  clear hxa0
  obtain ⟨H, hH⟩ : ∃ H, H = s.heap := ⟨_, rfl⟩
  obtain ⟨locs, hlocs⟩ : ∃ z : List Loc, z = [] := ⟨_, rfl⟩
  have hS : va_S A s.heap H locs := by rw [hH, hlocs]; exact hS
  have hP : va_P D vwCl (xW b T xa xs) H := by rw [hH]; exact hP
  suffices h9 : W p l e rmX10_lays s m args below meth c H locs 0 0 Q (F0 m 0 ls []) by rw [hH, hlocs] at h9; exact h9
  clear hH hlocs
  unfold X10_lays at heq
  refine lv_iload_n hx hb dX10_lays_0 rfl (lv_at hl 2 rfl) ?_
  obtain ⟨y_1, h_2, heq⟩ := bd1_h heq
  refine h_si (own := RX10) (As := [.int v2]) (rest := []) (w0 := []) (w1 := []) (wr := xW b T xa xs) hx hb hml hown hts (okX10_isSide z l D h_2) (va_cwS 1 hts gX10_lays_X10_isSide rfl rfl rfl (hdX10_isSide).2 ⟨Nat.le_of_ble_eq_true rfl, Nat.le_of_ble_eq_true rfl⟩) (hK.sub [] rfl) hA hX hP hD hS (List.Perm.refl _) (List.Perm.refl _) rfl hl.1 rfl (Nat.le_of_ble_eq_true rfl) dX10_lays_1 ⟨Nat.le_of_ble_eq_true rfl, Nat.le_of_ble_eq_true rfl⟩ (fun H locs hP hD hS => ?_)
  refine lv_if_ne (tgt := 9) hx hb dX10_lays_4 (by decide) (fun c_3 => ?_) (fun c_3 => ?_)
  · have heq := it_f c_3 heq
    refine lv_aload_n hx hb dX10_lays_9 rfl (lv_at hl 0 rfl) ?_
    refine lv_iload_n hx hb dX10_lays_10 rfl (lv_at hl 1 rfl) ?_
    obtain ⟨y_4, xs_5, h_6, heq⟩ := bnd_h heq
    refine x_vb (own := RX10) (As := [.int v1]) (rest := []) hx hb hml hown hts (okX10_kindOn z l D T b hR h_6) (cwV 1 hts gX10_lays_X10_kindOn rfl rfl rfl hdX10_kindOn ⟨Nat.le_of_ble_eq_true rfl, Nat.le_of_ble_eq_true rfl⟩) hK hA hX hP hD hS (ci := 10) (q0 := 0) rfl rfl rfl hl.1 rfl (Nat.le_of_ble_eq_true rfl) dX10_lays_11 ⟨Nat.le_of_ble_eq_true rfl, Nat.le_of_ble_eq_true rfl⟩ (fun xa_7 H locs o_8 hR hsxa_7 ho_8 hP hD hS => ?_)
    have hU := xSub.tr hU hsxa_7
    refine lv_astoreQ_n (lv' := [(3, va_rf o_8), (0, .ref (b 0)), (1, .int v1), (2, .int v2)]) hx hb dX10_lays_14 rfl hl (by decide) rfl (fun ls hl => ?_)
    refine lv_aloadQ_n (r := o_8) hx hb dX10_lays_15 rfl (lv_at hl 0 rfl) ?_
    rcases obB_h ho_8 heq with ⟨h_10, heq⟩ | ⟨k_9, ⟨q_11, h_10, h_12⟩, heq⟩
    · rw [h_10] at hl ⊢
      have hl : lv_has ls 4 [(3, .null), (0, .ref (b 0)), (1, .int v1), (2, .int v2)] := hl
      refine lv_ifnonnullN hx hb dX10_lays_16 ?_
      refine lv_aload_n hx hb dX10_lays_19 rfl (lv_at hl 1 rfl) ?_
      refine lv_iload_n hx hb dX10_lays_20 rfl (lv_at hl 2 rfl) ?_
      obtain ⟨y_13, xs_14, h_15, heq⟩ := bnd_h heq
      refine x_vi (own := RX10) (As := [.int v1]) (rest := []) hx hb hml hown hts (okX10_refusal z l D T b hR h_15) (cwV 1 hts gX10_lays_X10_refusal rfl rfl rfl hdX10_refusal ⟨Nat.le_of_ble_eq_true rfl, Nat.le_of_ble_eq_true rfl⟩) hK hA hX hP hD hS (ci := 10) (q0 := 0) rfl rfl rfl hl.1 rfl (Nat.le_of_ble_eq_true rfl) dX10_lays_21 ⟨Nat.le_of_ble_eq_true rfl, Nat.le_of_ble_eq_true rfl⟩ (fun xa_16 H locs hR hsxa_16 hP hD hS => ?_)
      have hU := xSub.tr hU hsxa_16
      obtain ⟨heq, heq2⟩ := ret_h heq
      subst heq
      subst heq2
      exact hret 24 H locs ls xa_16 hR hU hP hD hS rfl dX10_lays_24
    rw [h_10] at hl ⊢
    have hl : lv_has ls 4 [(3, .ref q_11), (0, .ref (b 0)), (1, .int v1), (2, .int v2)] := hl
    refine lv_ifnonnull (tgt := 25) hx hb dX10_lays_16 (by decide) ?_
    refine lv_aload_n hx hb dX10_lays_25 rfl (lv_at hl 1 rfl) ?_
    refine lv_iload_n hx hb dX10_lays_26 rfl (lv_at hl 3 rfl) ?_
    refine lv_aload_n hx hb dX10_lays_27 rfl (lv_at hl 0 rfl) ?_
    obtain ⟨y_18, xs_19, h_20, heq⟩ := bnd_h heq
    refine x_vi (own := RX10) (As := [.int v2, .ref q_11]) (rest := []) hx hb hml hown hts (okX10_comesTo z l D T b hR h_12 h_20) (cwV 2 hts gX10_lays_X10_comesTo rfl rfl rfl hdX10_comesTo ⟨Nat.le_of_ble_eq_true rfl, Nat.le_of_ble_eq_true rfl⟩) hK hA hX hP hD hS (ci := 10) (q0 := 0) rfl rfl rfl hl.1 rfl (Nat.le_of_ble_eq_true rfl) dX10_lays_28 ⟨Nat.le_of_ble_eq_true rfl, Nat.le_of_ble_eq_true rfl⟩ (fun xa_21 H locs hR hsxa_21 hP hD hS => ?_)
    have hU := xSub.tr hU hsxa_21
    obtain ⟨heq, heq2⟩ := ret_h heq
    subst heq
    subst heq2
    exact hret 31 H locs ls xa_21 hR hU hP hD hS rfl dX10_lays_31
  have heq := it_t c_3 heq
  refine lv_iconst (v := (-1 : Int32)) hx hb dX10_lays_7 (by decide) ?_
  obtain ⟨heq, heq2⟩ := ret_h heq
  subst heq
  subst heq2
  exact hret 8 H locs ls xa hR hU hP hD hS rfl dX10_lays_8
set_option maxRecDepth 20000 in
theorem ggX10_set_X10_isAsTold : GoodIn wsX10_set wsX10_isAsTold := goodIn_r _ [6, 7, 8] (by decide +kernel) (by decide +kernel)
set_option maxRecDepth 20000 in
theorem gX10_set_X10_isAsTold : GoodIn wsX10_set (va_wsS RX10 112 yX10_isAsTold wsX10_isAsTold) := goodIn_app (goodIn_of _ (by decide +kernel)) ggX10_set_X10_isAsTold
set_option maxRecDepth 20000 in
theorem ggX10_set_X8_isDown : GoodIn wsX10_set wsX8_isDown := goodIn_r _ [13, 14, 54, 55, 56, 57, 58, 59, 60, 61, 62, 63] (by decide +kernel) (by decide +kernel)
set_option maxRecDepth 20000 in
theorem gX10_set_X8_isDown : GoodIn wsX10_set (wsV RX10 116 RX8 yX8_isDown wsX8_isDown) := goodIn_app (goodIn_of _ (by decide +kernel)) ggX10_set_X8_isDown
set_option maxRecDepth 20000 in
theorem ggX10_set_X8_settle : GoodIn wsX10_set wsX8_settle := goodIn_r _ [18, 19, 14, 20, 10, 11, 12, 13, 21, 22, 23, 24, 25, 26, 27, 28, 29, 30, 31, 32, 33, 34, 35, 36, 37, 38, 39, 40, 41, 42, 43, 44, 45, 46, 54, 55, 56, 57, 58, 59, 60, 61, 62, 63] (by decide +kernel) (by decide +kernel)
set_option maxRecDepth 20000 in
theorem gX10_set_X8_settle : GoodIn wsX10_set (wsV RX10 71 RX8 yX8_settle wsX8_settle) := goodIn_app (goodIn_of _ (by decide +kernel)) ggX10_set_X8_settle
theorem dX10_set_0 : decode cX10_set 0 = .ok (.iload_n 1, 1) := by decide +kernel
theorem dX10_set_1 : decode cX10_set 1 = .ok (.iload_n 2, 1) := by decide +kernel
theorem dX10_set_2 : decode cX10_set 2 = .ok (.invokestatic 112, 3) := by decide +kernel
theorem dX10_set_5 : decode cX10_set 5 = .ok (.ifCond .ne 5, 3) := by decide +kernel
theorem dX10_set_8 : decode cX10_set 8 = .ok (.iconst (-1), 1) := by decide +kernel
theorem dX10_set_9 : decode cX10_set 9 = .ok (.ireturn, 1) := by decide +kernel
theorem dX10_set_10 : decode cX10_set 10 = .ok (.aload_n 0, 1) := by decide +kernel
theorem dX10_set_11 : decode cX10_set 11 = .ok (.getfield 10, 3) := by decide +kernel
theorem dX10_set_14 : decode cX10_set 14 = .ok (.invokevirtual 116, 3) := by decide +kernel
theorem dX10_set_17 : decode cX10_set 17 = .ok (.ifCond .eq 6, 3) := by decide +kernel
theorem dX10_set_20 : decode cX10_set 20 = .ok (.bipush (-3), 2) := by decide +kernel
theorem dX10_set_22 : decode cX10_set 22 = .ok (.ireturn, 1) := by decide +kernel
theorem dX10_set_23 : decode cX10_set 23 = .ok (.aload_n 0, 1) := by decide +kernel
theorem dX10_set_24 : decode cX10_set 24 = .ok (.getfield 10, 3) := by decide +kernel
theorem dX10_set_27 : decode cX10_set 27 = .ok (.getfield 120, 3) := by decide +kernel
theorem dX10_set_30 : decode cX10_set 30 = .ok (.iload_n 1, 1) := by decide +kernel
theorem dX10_set_31 : decode cX10_set 31 = .ok (.iaload, 1) := by decide +kernel
theorem dX10_set_32 : decode cX10_set 32 = .ok (.istore_n 3, 1) := by decide +kernel
theorem dX10_set_33 : decode cX10_set 33 = .ok (.aload_n 0, 1) := by decide +kernel
theorem dX10_set_34 : decode cX10_set 34 = .ok (.getfield 10, 3) := by decide +kernel
theorem dX10_set_37 : decode cX10_set 37 = .ok (.getfield 120, 3) := by decide +kernel
theorem dX10_set_40 : decode cX10_set 40 = .ok (.iload_n 1, 1) := by decide +kernel
theorem dX10_set_41 : decode cX10_set 41 = .ok (.iload_n 2, 1) := by decide +kernel
theorem dX10_set_42 : decode cX10_set 42 = .ok (.iastore, 1) := by decide +kernel
theorem dX10_set_43 : decode cX10_set 43 = .ok (.aload_n 0, 1) := by decide +kernel
theorem dX10_set_44 : decode cX10_set 44 = .ok (.getfield 10, 3) := by decide +kernel
theorem dX10_set_47 : decode cX10_set 47 = .ok (.invokevirtual 71, 3) := by decide +kernel
theorem dX10_set_50 : decode cX10_set 50 = .ok (.iload_n 3, 1) := by decide +kernel
theorem dX10_set_51 : decode cX10_set 51 = .ok (.ireturn, 1) := by decide +kernel
/-! X10 set -/
def X10_set (xs : XS) (v1 : Int32) (v2 : Int32) : Option (Int32 × XS) :=
    bd1 (X10_isAsTold v1 v2) fun y_1 =>
    if y_1 = 0 then
      (some ((-1 : Int32), xs))
    else
    bnd (X8_isDown (xT xs 0)) fun y_4 st_5 =>
    nm (uT xs 0 st_5) fun xs_7 =>
    if y_4 = 0 then
      (inr v1 7 <|
      nm ((gA (xT xs_7 0) 3 v1.toNatClampNeg)) fun x_10 =>
      inr v1 7 <|
      nm (uT xs_7 0 (sA (xT xs_7 0) 3 v1.toNatClampNeg v2)) fun xs_12 =>
      bnd (X8_settle (xT xs_12 0)) fun _ st_13 =>
      nm (uT xs_12 0 st_13) fun xs_15 =>
      some (x_10, xs_15))
    else
    some ((-3 : Int32), xs_7)
abbrev rmX10_set : Room := { frames := 5, cells := 0, slots := 0, locals := 114 }
theorem hdX10_set : yX10_set.cls = RX10 ∧ yX10_set.cls ≠ "java/lang/invoke/MethodHandle" ∧ yX10_set.cls ≠ "java/lang/invoke/VarHandle" ∧ (parseMethodDescriptor yX10_set.desc).map (fun d => d.parameters.length) = some 2 := by decide +kernel
set_option maxRecDepth 100000 in
set_option maxHeartbeats 8000000 in
theorem okX10_set (z : Nat → Nat) (l : Launch) (D : va_G) (T : mT3) (b : Nat → Nat) {xa : XA} {xs : XS} {v1 : Int32} {v2 : Int32} {r : Int32} {xs' : XS} (hR : xRel b xa xs) (heq : X10_set xs v1 v2 = some (r, xs')) : hXi xSub z l D T b yX10_set wsX10_set rmX10_set [.ref (b 0), .int v1, .int v2] xa xs r xs' := by
  refine xbody_i (plainFor_of_name (by decide)) rfl (Nat.le_of_ble_eq_true rfl) (fun p e s m args below meth c A Q hx hb hml hown hts hK hA hX hret ls hP hD hS hl => ?_)
  have hl : lv_has ls 4 [(0, .ref (b 0)), (1, .int v1), (2, .int v2)] := hl
  have hin10 : ∀ w ∈ wsX100, w ∈ wsX10_set := by decide +kernel
  have hin8 : ∀ w ∈ wsX80, w ∈ wsX10_set := by decide +kernel
  have f10 : (Cond.fieldLink RX10 10 RX10 (TX10 0).2.1 (TX10 0).2.2.1).before args s = true := hts (.fieldLink RX10 10 RX10 "now" "LLaidDownTheLane$Town;") (by decide +kernel)
  have f120 : (Cond.fieldLink RX10 120 RX8 (TX8 3).2.1 (TX8 3).2.2.1).before args s = true := hts (.fieldLink RX10 120 RX8 "told" "[I") (by decide +kernel)
  obtain ⟨xa0, hxa0⟩ : ∃ z : XA, z = xa := ⟨_, rfl⟩
  rw [← hxa0] at hret
  have hU : xSub xa0 xa := by rw [hxa0]; exact xSub.rf
  clear hxa0
  obtain ⟨H, hH⟩ : ∃ H, H = s.heap := ⟨_, rfl⟩
  obtain ⟨locs, hlocs⟩ : ∃ z : List Loc, z = [] := ⟨_, rfl⟩
  have hS : va_S A s.heap H locs := by rw [hH, hlocs]; exact hS
  have hP : va_P D vwCl (xW b T xa xs) H := by rw [hH]; exact hP
  suffices h9 : W p l e rmX10_set s m args below meth c H locs 0 0 Q (F0 m 0 ls []) by rw [hH, hlocs] at h9; exact h9
  clear hH hlocs
  unfold X10_set at heq
  refine lv_iload_n hx hb dX10_set_0 rfl (lv_at hl 1 rfl) ?_
  refine lv_iload_n hx hb dX10_set_1 rfl (lv_at hl 2 rfl) ?_
  obtain ⟨y_1, h_2, heq⟩ := bd1_h heq
  refine h_si (own := RX10) (As := [.int v1, .int v2]) (rest := []) (w0 := []) (w1 := []) (wr := xW b T xa xs) hx hb hml hown hts (okX10_isAsTold z l D h_2) (va_cwS 2 hts gX10_set_X10_isAsTold rfl rfl rfl (hdX10_isAsTold).2 ⟨Nat.le_of_ble_eq_true rfl, Nat.le_of_ble_eq_true rfl⟩) (hK.sub [] rfl) hA hX hP hD hS (List.Perm.refl _) (List.Perm.refl _) rfl hl.1 rfl (Nat.le_of_ble_eq_true rfl) dX10_set_2 ⟨Nat.le_of_ble_eq_true rfl, Nat.le_of_ble_eq_true rfl⟩ (fun H locs hP hD hS => ?_)
  refine lv_if_ne (tgt := 10) hx hb dX10_set_5 (by decide) (fun c_3 => ?_) (fun c_3 => ?_)
  · have heq := it_f c_3 heq
    refine lv_aload_n hx hb dX10_set_10 rfl (lv_at hl 0 rfl) ?_
    refine va_get (D := D) (ci := 10) (v := .ref (b 3)) (C := RX10) (T := TX10) (N := 7) hx hb hts hin10 hown hK hP 0 rfl rfl 0 (by decide) f10 (fun _ h9 => h9) rfl dX10_set_11 ?_
    obtain ⟨y_4, st_5, h_6, heq⟩ := bnd_h heq
    refine h_vi (own := RX10) (As := []) (rest := []) (wr := xWr0 b T xa xs) hx hb hml hown hts (okX8_isDown z l D (fun j => b (3 + j)) T (fun j => some (xFo xa 0 j)) h_6) (cwV 0 hts gX10_set_X8_isDown rfl rfl rfl hdX8_isDown ⟨Nat.le_of_ble_eq_true rfl, Nat.le_of_ble_eq_true rfl⟩) hK hA hX hP hD hS (xp0 b T xa xs) (xq0 b T xa xs _) (ci := 8) (q0 := 0) rfl rfl rfl hl.1 rfl (Nat.le_of_ble_eq_true rfl) dX10_set_14 ⟨Nat.le_of_ble_eq_true rfl, Nat.le_of_ble_eq_true rfl⟩ (fun H locs hP hD hS => ?_)
    obtain ⟨xs_7, exs_7⟩ : ∃ z, z = uT xs 0 st_5 := ⟨_, rfl⟩
    have hR : xRel b xa (uT xs 0 st_5) := hR.uT _ _
    rw [← exs_7] at hP hD hR
    have heq := nm_h exs_7 heq
    refine lv_if_eq (tgt := 23) hx hb dX10_set_17 (by decide) (fun c_8 => ?_) (fun c_8 => ?_)
    · have heq := it_t c_8 heq
      refine lv_aload_n hx hb dX10_set_23 rfl (lv_at hl 0 rfl) ?_
      refine va_get (D := D) (ci := 10) (v := .ref (b 3)) (C := RX10) (T := TX10) (N := 7) hx hb hts hin10 hown hK hP 0 rfl rfl 0 (by decide) f10 (fun _ h9 => h9) rfl dX10_set_24 ?_
      refine va_get (D := D) (ci := 8) (v := .ref (b 7)) (C := RX8) (T := TX8) (N := 10) hx hb hts hin8 hown hK hP 3 rfl rfl 3 (by decide) f120 (fun _ h9 => h9) rfl dX10_set_27 ?_
      refine lv_iload_n hx hb dX10_set_30 rfl (lv_at hl 1 rfl) ?_
      obtain ⟨n_9, heq⟩ := inr_h heq
      refine va_iald (f := gA (xT xs_7 0) 3) (n := 7) hx hb hK hP 7 0 rfl rfl n_9 dX10_set_31 ?_
      refine lv_topi (fun x_10 ex_10 => ?_)
      have heq := nm_h ex_10 heq
      refine lv_istore_n (lv' := [(3, .int x_10), (0, .ref (b 0)), (1, .int v1), (2, .int v2)]) hx hb dX10_set_32 rfl hl (by decide) rfl (fun ls hl => ?_)
      refine lv_aload_n hx hb dX10_set_33 rfl (lv_at hl 1 rfl) ?_
      refine va_get (D := D) (ci := 10) (v := .ref (b 3)) (C := RX10) (T := TX10) (N := 7) hx hb hts hin10 hown hK hP 0 rfl rfl 0 (by decide) f10 (fun _ h9 => h9) rfl dX10_set_34 ?_
      refine va_get (D := D) (ci := 8) (v := .ref (b 7)) (C := RX8) (T := TX8) (N := 10) hx hb hts hin8 hown hK hP 3 rfl rfl 3 (by decide) f120 (fun _ h9 => h9) rfl dX10_set_37 ?_
      refine lv_iload_n hx hb dX10_set_40 rfl (lv_at hl 2 rfl) ?_
      refine lv_iload_n hx hb dX10_set_41 rfl (lv_at hl 3 rfl) ?_
      obtain ⟨n_11, heq⟩ := inr_h heq
      refine va_iast (f := gA (xT xs_7 0) 3) (n := 7) hx hb hK hP hD hS 7 0 rfl rfl n_11 dX10_set_42 (fun H locs hP hD hS => ?_)
      obtain ⟨xs_12, exs_12⟩ : ∃ z, z = uT xs_7 0 (sA (xT xs_7 0) 3 v1.toNatClampNeg v2) := ⟨_, rfl⟩
      have hP : va_P D vwCl (xW b T xa (uT xs_7 0 (sA (xT xs_7 0) 3 v1.toNatClampNeg v2))) H := hP
      have hD : va_D A (xW b T xa (uT xs_7 0 (sA (xT xs_7 0) 3 v1.toNatClampNeg v2))) := hD
      have hR : xRel b xa (uT xs_7 0 (sA (xT xs_7 0) 3 v1.toNatClampNeg v2)) := hR.uT _ _
      rw [← exs_12] at hP hD hR
      have heq := nm_h exs_12 heq
      refine lv_aload_n hx hb dX10_set_43 rfl (lv_at hl 1 rfl) ?_
      refine va_get (D := D) (ci := 10) (v := .ref (b 3)) (C := RX10) (T := TX10) (N := 7) hx hb hts hin10 hown hK hP 0 rfl rfl 0 (by decide) f10 (fun _ h9 => h9) rfl dX10_set_44 ?_
      obtain ⟨⟨⟩, st_13, h_14, heq⟩ := bnd_h heq
      refine h_vv (own := RX10) (As := []) (rest := []) (wr := xWr0 b T xa xs_12) hx hb hml hown hts (okX8_settle z l D (fun j => b (3 + j)) T (fun j => some (xFo xa 0 j)) h_14) (cwV 0 hts gX10_set_X8_settle rfl rfl rfl hdX8_settle ⟨Nat.le_of_ble_eq_true rfl, Nat.le_of_ble_eq_true rfl⟩) hK hA hX hP hD hS (xp0 b T xa xs_12) (xq0 b T xa xs_12 _) (ci := 8) (q0 := 0) rfl rfl rfl hl.1 rfl (Nat.le_of_ble_eq_true rfl) dX10_set_47 ⟨Nat.le_of_ble_eq_true rfl, Nat.le_of_ble_eq_true rfl⟩ (fun H locs hP hD hS => ?_)
      obtain ⟨xs_15, exs_15⟩ : ∃ z, z = uT xs_12 0 st_13 := ⟨_, rfl⟩
      have hR : xRel b xa (uT xs_12 0 st_13) := hR.uT _ _
      rw [← exs_15] at hP hD hR
      have heq := nm_h exs_15 heq
      refine lv_iload_n hx hb dX10_set_50 rfl (lv_at hl 0 rfl) ?_
      obtain ⟨heq, heq2⟩ := ret_h heq
      subst heq
      subst heq2
      exact hret 51 H locs ls xa hR hU hP hD hS rfl dX10_set_51
    have heq := it_f c_8 heq
    refine lv_bipush (v := (-3 : Int32)) hx hb dX10_set_20 (by decide) ?_
    obtain ⟨heq, heq2⟩ := ret_h heq
    subst heq
    subst heq2
    exact hret 22 H locs ls xa hR hU hP hD hS rfl dX10_set_22
  have heq := it_t c_3 heq
  refine lv_iconst (v := (-1 : Int32)) hx hb dX10_set_8 (by decide) ?_
  obtain ⟨heq, heq2⟩ := ret_h heq
  subst heq
  subst heq2
  exact hret 9 H locs ls xa hR hU hP hD hS rfl dX10_set_9
