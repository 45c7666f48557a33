theorem dJ9_floorMod_7cf53_0 : decode cJ9_floorMod_7cf53 0 = .ok (.iload_n 0, 1) := by decide +kernel
theorem dJ9_floorMod_7cf53_1 : decode cJ9_floorMod_7cf53 1 = .ok (.iload_n 1, 1) := by decide +kernel
theorem dJ9_floorMod_7cf53_2 : decode cJ9_floorMod_7cf53 2 = .ok (.irem, 1) := by decide +kernel
theorem dJ9_floorMod_7cf53_3 : decode cJ9_floorMod_7cf53 3 = .ok (.istore_n 2, 1) := by decide +kernel
theorem dJ9_floorMod_7cf53_4 : decode cJ9_floorMod_7cf53 4 = .ok (.iload_n 0, 1) := by decide +kernel
theorem dJ9_floorMod_7cf53_5 : decode cJ9_floorMod_7cf53 5 = .ok (.iload_n 1, 1) := by decide +kernel
theorem dJ9_floorMod_7cf53_6 : decode cJ9_floorMod_7cf53 6 = .ok (.ixor, 1) := by decide +kernel
theorem dJ9_floorMod_7cf53_7 : decode cJ9_floorMod_7cf53 7 = .ok (.ifCond .ge 11, 3) := by decide +kernel
theorem dJ9_floorMod_7cf53_10 : decode cJ9_floorMod_7cf53 10 = .ok (.iload_n 2, 1) := by decide +kernel
theorem dJ9_floorMod_7cf53_11 : decode cJ9_floorMod_7cf53 11 = .ok (.ifCond .eq 7, 3) := by decide +kernel
theorem dJ9_floorMod_7cf53_14 : decode cJ9_floorMod_7cf53 14 = .ok (.iload_n 2, 1) := by decide +kernel
theorem dJ9_floorMod_7cf53_15 : decode cJ9_floorMod_7cf53 15 = .ok (.iload_n 1, 1) := by decide +kernel
theorem dJ9_floorMod_7cf53_16 : decode cJ9_floorMod_7cf53 16 = .ok (.iadd, 1) := by decide +kernel
theorem dJ9_floorMod_7cf53_17 : decode cJ9_floorMod_7cf53 17 = .ok (.ireturn, 1) := by decide +kernel
theorem dJ9_floorMod_7cf53_18 : decode cJ9_floorMod_7cf53 18 = .ok (.iload_n 2, 1) := by decide +kernel
theorem dJ9_floorMod_7cf53_19 : decode cJ9_floorMod_7cf53 19 = .ok (.ireturn, 1) := by decide +kernel
/-! J9 floorMod_7cf53 -/
def J9_floorMod_7cf53_p18 (v2 : Int32) : Option Int32 :=
    some v2
def J9_floorMod_7cf53 (v0 : Int32) (v1 : Int32) : Option Int32 :=
    dvi v1 <|
    nm ((v0 - v0 / v1 * v1)) fun x_2 =>
    if 0 ≤ (v0 ^^^ v1) then
      (J9_floorMod_7cf53_p18 x_2)
    else
    if x_2 = 0 then
      (J9_floorMod_7cf53_p18 x_2)
    else
    some (x_2 + v1)
abbrev rmJ9_floorMod_7cf53 : Room := { frames := 0, cells := 0, slots := 0, locals := 0 }
theorem hdJ9_floorMod_7cf53 : yJ9_floorMod_7cf53.cls = RJ9 ∧ yJ9_floorMod_7cf53.cls ≠ "java/lang/invoke/MethodHandle" ∧ yJ9_floorMod_7cf53.cls ≠ "java/lang/invoke/VarHandle" ∧ (parseMethodDescriptor yJ9_floorMod_7cf53.desc).map (fun d => d.parameters.length) = some 2 := by decide +kernel
set_option maxRecDepth 100000 in
set_option maxHeartbeats 4000000 in
theorem okJ9_floorMod_7cf53 (z : Nat → Nat) (l : Launch) (D : va_G) {v0 : Int32} {v1 : Int32} {r : Int32} (heq : J9_floorMod_7cf53 v0 v1 = some r) : hCi z l D [] yJ9_floorMod_7cf53 wsJ9_floorMod_7cf53 rmJ9_floorMod_7cf53 [.int v0, .int v1] [] r [] := by
  refine h_body_i (by decide +kernel) rfl (Nat.le_of_ble_eq_true rfl) (fun p e s m args below meth c A Q hx hb hml hown hts hK hA hX hret ls hP hD hS hl => ?_)
  have hl : lv_has ls 3 [(0, .int v0), (1, .int v1)] := hl
  have b18 : ∀ (v2 : Int32) (H : Heap) (locs : List Loc) (ls : Array Slot), va_P D vwCl [] H → va_D A [] → va_S A s.heap H locs → lv_has ls 3 [(2, .int v2)] → J9_floorMod_7cf53_p18  v2 = some r → W p l e rmJ9_floorMod_7cf53 s m args below meth c H locs 0 0 Q (F0 m 18 ls []) := by
    intro v2 H locs ls hP hD hS hl heq
    unfold J9_floorMod_7cf53_p18 at heq
    refine lv_iload_n hx hb dJ9_floorMod_7cf53_18 rfl (lv_at hl 0 rfl) ?_
    have heq := Option.some.inj heq
    subst heq
    exact hret 19 H locs ls hP hD hS rfl dJ9_floorMod_7cf53_19
  obtain ⟨H, hH⟩ : ∃ H, H = s.heap := ⟨_, rfl⟩
  obtain ⟨locs, hlocs⟩ : ∃ z : List Loc, z = [] := ⟨_, rfl⟩
  have hS : va_S A s.heap H locs := by rw [hH, hlocs]; exact hS
  have hP : va_P D vwCl [] H := by rw [hH]; exact hP
  suffices h9 : W p l e rmJ9_floorMod_7cf53 s m args below meth c H locs 0 0 Q (F0 m 0 ls []) by rw [hH, hlocs] at h9; exact h9
  clear hH hlocs
  unfold J9_floorMod_7cf53 at heq
  refine lv_iload_n hx hb dJ9_floorMod_7cf53_0 rfl (lv_at hl 0 rfl) ?_
  refine lv_iload_n hx hb dJ9_floorMod_7cf53_1 rfl (lv_at hl 1 rfl) ?_
  obtain ⟨n_1, heq⟩ := dvi_h heq
  refine lv_irem hx hb dJ9_floorMod_7cf53_2 n_1 ?_
  refine lv_topi (fun x_2 ex_2 => ?_)
  have heq := nm_h ex_2 heq
  refine lv_istore_n (lv' := [(2, .int x_2), (0, .int v0), (1, .int v1)]) hx hb dJ9_floorMod_7cf53_3 rfl hl (by decide) rfl (fun ls hl => ?_)
  refine lv_iload_n hx hb dJ9_floorMod_7cf53_4 rfl (lv_at hl 1 rfl) ?_
  refine lv_iload_n hx hb dJ9_floorMod_7cf53_5 rfl (lv_at hl 2 rfl) ?_
  refine lv_ixor hx hb dJ9_floorMod_7cf53_6 ?_
  refine lv_if_ge (tgt := 18) hx hb dJ9_floorMod_7cf53_7 (by decide) (fun c_3 => ?_) (fun c_3 => ?_)
  · have heq := it_t c_3 heq
    exact b18 x_2 H locs ls hP hD hS (lv_sub hl [0] rfl) heq
  have heq := it_f c_3 heq
  refine lv_iload_n hx hb dJ9_floorMod_7cf53_10 rfl (lv_at hl 0 rfl) ?_
  refine lv_if_eq (tgt := 18) hx hb dJ9_floorMod_7cf53_11 (by decide) (fun c_4 => ?_) (fun c_4 => ?_)
  · have heq := it_t c_4 heq
    exact b18 x_2 H locs ls hP hD hS (lv_sub hl [0] rfl) heq
  have heq := it_f c_4 heq
  refine lv_iload_n hx hb dJ9_floorMod_7cf53_14 rfl (lv_at hl 0 rfl) ?_
  refine lv_iload_n hx hb dJ9_floorMod_7cf53_15 rfl (lv_at hl 2 rfl) ?_
  refine lv_iadd hx hb dJ9_floorMod_7cf53_16 ?_
  have heq := Option.some.inj heq
  subst heq
  exact hret 17 H locs ls hP hD hS rfl dJ9_floorMod_7cf53_17
theorem dJ6_bitCount_0f7a4_0 : decode cJ6_bitCount_0f7a4 0 = .ok (.iload_n 0, 1) := by decide +kernel
theorem dJ6_bitCount_0f7a4_1 : decode cJ6_bitCount_0f7a4 1 = .ok (.iload_n 0, 1) := by decide +kernel
theorem dJ6_bitCount_0f7a4_2 : decode cJ6_bitCount_0f7a4 2 = .ok (.iconst 1, 1) := by decide +kernel
theorem dJ6_bitCount_0f7a4_3 : decode cJ6_bitCount_0f7a4 3 = .ok (.iushr, 1) := by decide +kernel
theorem dJ6_bitCount_0f7a4_4 : decode cJ6_bitCount_0f7a4 4 = .ok (.ldc_w 265, 3) := by decide +kernel
theorem dJ6_bitCount_0f7a4_7 : decode cJ6_bitCount_0f7a4 7 = .ok (.iand, 1) := by decide +kernel
theorem dJ6_bitCount_0f7a4_8 : decode cJ6_bitCount_0f7a4 8 = .ok (.isub, 1) := by decide +kernel
theorem dJ6_bitCount_0f7a4_9 : decode cJ6_bitCount_0f7a4 9 = .ok (.istore_n 0, 1) := by decide +kernel
theorem dJ6_bitCount_0f7a4_10 : decode cJ6_bitCount_0f7a4 10 = .ok (.iload_n 0, 1) := by decide +kernel
theorem dJ6_bitCount_0f7a4_11 : decode cJ6_bitCount_0f7a4 11 = .ok (.ldc_w 266, 3) := by decide +kernel
theorem dJ6_bitCount_0f7a4_14 : decode cJ6_bitCount_0f7a4 14 = .ok (.iand, 1) := by decide +kernel
theorem dJ6_bitCount_0f7a4_15 : decode cJ6_bitCount_0f7a4 15 = .ok (.iload_n 0, 1) := by decide +kernel
theorem dJ6_bitCount_0f7a4_16 : decode cJ6_bitCount_0f7a4 16 = .ok (.iconst 2, 1) := by decide +kernel
theorem dJ6_bitCount_0f7a4_17 : decode cJ6_bitCount_0f7a4 17 = .ok (.iushr, 1) := by decide +kernel
theorem dJ6_bitCount_0f7a4_18 : decode cJ6_bitCount_0f7a4 18 = .ok (.ldc_w 266, 3) := by decide +kernel
theorem dJ6_bitCount_0f7a4_21 : decode cJ6_bitCount_0f7a4 21 = .ok (.iand, 1) := by decide +kernel
theorem dJ6_bitCount_0f7a4_22 : decode cJ6_bitCount_0f7a4 22 = .ok (.iadd, 1) := by decide +kernel
theorem dJ6_bitCount_0f7a4_23 : decode cJ6_bitCount_0f7a4 23 = .ok (.istore_n 0, 1) := by decide +kernel
theorem dJ6_bitCount_0f7a4_24 : decode cJ6_bitCount_0f7a4 24 = .ok (.iload_n 0, 1) := by decide +kernel
theorem dJ6_bitCount_0f7a4_25 : decode cJ6_bitCount_0f7a4 25 = .ok (.iload_n 0, 1) := by decide +kernel
theorem dJ6_bitCount_0f7a4_26 : decode cJ6_bitCount_0f7a4 26 = .ok (.iconst 4, 1) := by decide +kernel
theorem dJ6_bitCount_0f7a4_27 : decode cJ6_bitCount_0f7a4 27 = .ok (.iushr, 1) := by decide +kernel
theorem dJ6_bitCount_0f7a4_28 : decode cJ6_bitCount_0f7a4 28 = .ok (.iadd, 1) := by decide +kernel
theorem dJ6_bitCount_0f7a4_29 : decode cJ6_bitCount_0f7a4 29 = .ok (.ldc_w 267, 3) := by decide +kernel
theorem dJ6_bitCount_0f7a4_32 : decode cJ6_bitCount_0f7a4 32 = .ok (.iand, 1) := by decide +kernel
theorem dJ6_bitCount_0f7a4_33 : decode cJ6_bitCount_0f7a4 33 = .ok (.istore_n 0, 1) := by decide +kernel
theorem dJ6_bitCount_0f7a4_34 : decode cJ6_bitCount_0f7a4 34 = .ok (.iload_n 0, 1) := by decide +kernel
theorem dJ6_bitCount_0f7a4_35 : decode cJ6_bitCount_0f7a4 35 = .ok (.iload_n 0, 1) := by decide +kernel
theorem dJ6_bitCount_0f7a4_36 : decode cJ6_bitCount_0f7a4 36 = .ok (.bipush 8, 2) := by decide +kernel
theorem dJ6_bitCount_0f7a4_38 : decode cJ6_bitCount_0f7a4 38 = .ok (.iushr, 1) := by decide +kernel
theorem dJ6_bitCount_0f7a4_39 : decode cJ6_bitCount_0f7a4 39 = .ok (.iadd, 1) := by decide +kernel
theorem dJ6_bitCount_0f7a4_40 : decode cJ6_bitCount_0f7a4 40 = .ok (.istore_n 0, 1) := by decide +kernel
theorem dJ6_bitCount_0f7a4_41 : decode cJ6_bitCount_0f7a4 41 = .ok (.iload_n 0, 1) := by decide +kernel
theorem dJ6_bitCount_0f7a4_42 : decode cJ6_bitCount_0f7a4 42 = .ok (.iload_n 0, 1) := by decide +kernel
theorem dJ6_bitCount_0f7a4_43 : decode cJ6_bitCount_0f7a4 43 = .ok (.bipush 16, 2) := by decide +kernel
theorem dJ6_bitCount_0f7a4_45 : decode cJ6_bitCount_0f7a4 45 = .ok (.iushr, 1) := by decide +kernel
theorem dJ6_bitCount_0f7a4_46 : decode cJ6_bitCount_0f7a4 46 = .ok (.iadd, 1) := by decide +kernel
theorem dJ6_bitCount_0f7a4_47 : decode cJ6_bitCount_0f7a4 47 = .ok (.istore_n 0, 1) := by decide +kernel
theorem dJ6_bitCount_0f7a4_48 : decode cJ6_bitCount_0f7a4 48 = .ok (.iload_n 0, 1) := by decide +kernel
theorem dJ6_bitCount_0f7a4_49 : decode cJ6_bitCount_0f7a4 49 = .ok (.bipush 63, 2) := by decide +kernel
theorem dJ6_bitCount_0f7a4_51 : decode cJ6_bitCount_0f7a4 51 = .ok (.iand, 1) := by decide +kernel
theorem dJ6_bitCount_0f7a4_52 : decode cJ6_bitCount_0f7a4 52 = .ok (.ireturn, 1) := by decide +kernel
/-! J6 bitCount_0f7a4 -/
def J6_bitCount_0f7a4 (v0 : Int32) : Option Int32 :=
    nm ((v0 - (((v0.toUInt32 >>> ((1 : Int32).toUInt32 &&& Int32.toUInt32 31)).toInt32) &&& (1431655765 : Int32)))) fun x_1 =>
    nm (((x_1 &&& (858993459 : Int32)) + (((x_1.toUInt32 >>> ((2 : Int32).toUInt32 &&& Int32.toUInt32 31)).toInt32) &&& (858993459 : Int32)))) fun x_2 =>
    nm (((x_2 + ((x_2.toUInt32 >>> ((4 : Int32).toUInt32 &&& Int32.toUInt32 31)).toInt32)) &&& (252645135 : Int32))) fun x_3 =>
    nm ((x_3 + ((x_3.toUInt32 >>> ((8 : Int32).toUInt32 &&& Int32.toUInt32 31)).toInt32))) fun x_4 =>
    nm ((x_4 + ((x_4.toUInt32 >>> ((16 : Int32).toUInt32 &&& Int32.toUInt32 31)).toInt32))) fun x_5 =>
    some (x_5 &&& (63 : Int32))
abbrev rmJ6_bitCount_0f7a4 : Room := { frames := 0, cells := 0, slots := 0, locals := 0 }
theorem hdJ6_bitCount_0f7a4 : yJ6_bitCount_0f7a4.cls = RJ6 ∧ yJ6_bitCount_0f7a4.cls ≠ "java/lang/invoke/MethodHandle" ∧ yJ6_bitCount_0f7a4.cls ≠ "java/lang/invoke/VarHandle" ∧ (parseMethodDescriptor yJ6_bitCount_0f7a4.desc).map (fun d => d.parameters.length) = some 1 := by decide +kernel
set_option maxRecDepth 100000 in
set_option maxHeartbeats 4000000 in
theorem okJ6_bitCount_0f7a4 (z : Nat → Nat) (l : Launch) (D : va_G) {v0 : Int32} {r : Int32} (heq : J6_bitCount_0f7a4 v0 = some r) : hCi z l D [] yJ6_bitCount_0f7a4 wsJ6_bitCount_0f7a4 rmJ6_bitCount_0f7a4 [.int v0] [] r [] := by
  refine h_body_i (by decide +kernel) rfl (Nat.le_of_ble_eq_true rfl) (fun p e s m args below meth c A Q hx hb hml hown hts hK hA hX hret ls hP hD hS hl => ?_)
  have hl : lv_has ls 1 [(0, .int v0)] := hl
  have c265 := hts (.constant RJ6 265 (1431655765)) (by decide +kernel)
  have c266 := hts (.constant RJ6 266 (858993459)) (by decide +kernel)
  have c267 := hts (.constant RJ6 267 (252645135)) (by decide +kernel)
  obtain ⟨H, hH⟩ : ∃ H, H = s.heap := ⟨_, rfl⟩
  obtain ⟨locs, hlocs⟩ : ∃ z : List Loc, z = [] := ⟨_, rfl⟩
  have hS : va_S A s.heap H locs := by rw [hH, hlocs]; exact hS
  have hP : va_P D vwCl [] H := by rw [hH]; exact hP
  suffices h9 : W p l e rmJ6_bitCount_0f7a4 s m args below meth c H locs 0 0 Q (F0 m 0 ls []) by rw [hH, hlocs] at h9; exact h9
  clear hH hlocs
  unfold J6_bitCount_0f7a4 at heq
  refine lv_iload_n hx hb dJ6_bitCount_0f7a4_0 rfl (lv_at hl 0 rfl) ?_
  refine lv_iload_n hx hb dJ6_bitCount_0f7a4_1 rfl (lv_at hl 0 rfl) ?_
  refine lv_iconst (v := (1 : Int32)) hx hb dJ6_bitCount_0f7a4_2 (by decide) ?_
  refine lv_iushr hx hb dJ6_bitCount_0f7a4_3 rfl ?_
  refine lv_ldcw (v := (1431655765 : Int32)) hx hb hown c265 dJ6_bitCount_0f7a4_4 ?_
  refine lv_iand hx hb dJ6_bitCount_0f7a4_7 ?_
  refine lv_isub hx hb dJ6_bitCount_0f7a4_8 ?_
  refine lv_topi (fun x_1 ex_1 => ?_)
  have heq := nm_h ex_1 heq
  refine lv_istore_n (lv' := [(0, .int x_1)]) hx hb dJ6_bitCount_0f7a4_9 rfl hl (by decide) rfl (fun ls hl => ?_)
  refine lv_iload_n hx hb dJ6_bitCount_0f7a4_10 rfl (lv_at hl 0 rfl) ?_
  refine lv_ldcw (v := (858993459 : Int32)) hx hb hown c266 dJ6_bitCount_0f7a4_11 ?_
  refine lv_iand hx hb dJ6_bitCount_0f7a4_14 ?_
  refine lv_iload_n hx hb dJ6_bitCount_0f7a4_15 rfl (lv_at hl 0 rfl) ?_
  refine lv_iconst (v := (2 : Int32)) hx hb dJ6_bitCount_0f7a4_16 (by decide) ?_
  refine lv_iushr hx hb dJ6_bitCount_0f7a4_17 rfl ?_
  refine lv_ldcw (v := (858993459 : Int32)) hx hb hown c266 dJ6_bitCount_0f7a4_18 ?_
  refine lv_iand hx hb dJ6_bitCount_0f7a4_21 ?_
  refine lv_iadd hx hb dJ6_bitCount_0f7a4_22 ?_
  refine lv_topi (fun x_2 ex_2 => ?_)
  have heq := nm_h ex_2 heq
  refine lv_istore_n (lv' := [(0, .int x_2)]) hx hb dJ6_bitCount_0f7a4_23 rfl hl (by decide) rfl (fun ls hl => ?_)
  refine lv_iload_n hx hb dJ6_bitCount_0f7a4_24 rfl (lv_at hl 0 rfl) ?_
  refine lv_iload_n hx hb dJ6_bitCount_0f7a4_25 rfl (lv_at hl 0 rfl) ?_
  refine lv_iconst (v := (4 : Int32)) hx hb dJ6_bitCount_0f7a4_26 (by decide) ?_
  refine lv_iushr hx hb dJ6_bitCount_0f7a4_27 rfl ?_
  refine lv_iadd hx hb dJ6_bitCount_0f7a4_28 ?_
  refine lv_ldcw (v := (252645135 : Int32)) hx hb hown c267 dJ6_bitCount_0f7a4_29 ?_
  refine lv_iand hx hb dJ6_bitCount_0f7a4_32 ?_
  refine lv_topi (fun x_3 ex_3 => ?_)
  have heq := nm_h ex_3 heq
  refine lv_istore_n (lv' := [(0, .int x_3)]) hx hb dJ6_bitCount_0f7a4_33 rfl hl (by decide) rfl (fun ls hl => ?_)
  refine lv_iload_n hx hb dJ6_bitCount_0f7a4_34 rfl (lv_at hl 0 rfl) ?_
  refine lv_iload_n hx hb dJ6_bitCount_0f7a4_35 rfl (lv_at hl 0 rfl) ?_
  refine lv_bipush (v := (8 : Int32)) hx hb dJ6_bitCount_0f7a4_36 (by decide) ?_
  refine lv_iushr hx hb dJ6_bitCount_0f7a4_38 rfl ?_
  refine lv_iadd hx hb dJ6_bitCount_0f7a4_39 ?_
  refine lv_topi (fun x_4 ex_4 => ?_)
  have heq := nm_h ex_4 heq
  refine lv_istore_n (lv' := [(0, .int x_4)]) hx hb dJ6_bitCount_0f7a4_40 rfl hl (by decide) rfl (fun ls hl => ?_)
  refine lv_iload_n hx hb dJ6_bitCount_0f7a4_41 rfl (lv_at hl 0 rfl) ?_
  refine lv_iload_n hx hb dJ6_bitCount_0f7a4_42 rfl (lv_at hl 0 rfl) ?_
  refine lv_bipush (v := (16 : Int32)) hx hb dJ6_bitCount_0f7a4_43 (by decide) ?_
  refine lv_iushr hx hb dJ6_bitCount_0f7a4_45 rfl ?_
  refine lv_iadd hx hb dJ6_bitCount_0f7a4_46 ?_
  refine lv_topi (fun x_5 ex_5 => ?_)
  have heq := nm_h ex_5 heq
  refine lv_istore_n (lv' := [(0, .int x_5)]) hx hb dJ6_bitCount_0f7a4_47 rfl hl (by decide) rfl (fun ls hl => ?_)
  refine lv_iload_n hx hb dJ6_bitCount_0f7a4_48 rfl (lv_at hl 0 rfl) ?_
  refine lv_bipush (v := (63 : Int32)) hx hb dJ6_bitCount_0f7a4_49 (by decide) ?_
  refine lv_iand hx hb dJ6_bitCount_0f7a4_51 ?_
  have heq := Option.some.inj heq
  subst heq
  exact hret 52 H locs ls hP hD hS rfl dJ6_bitCount_0f7a4_52
theorem dX10_isSide_0 : decode cX10_isSide 0 = .ok (.iload_n 0, 1) := by decide +kernel
theorem dX10_isSide_1 : decode cX10_isSide 1 = .ok (.ifCond .lt 13, 3) := by decide +kernel
theorem dX10_isSide_4 : decode cX10_isSide 4 = .ok (.iload_n 0, 1) := by decide +kernel
theorem dX10_isSide_5 : decode cX10_isSide 5 = .ok (.bipush 12, 2) := by decide +kernel
theorem dX10_isSide_7 : decode cX10_isSide 7 = .ok (.if_icmp .ge 7, 3) := by decide +kernel
theorem dX10_isSide_10 : decode cX10_isSide 10 = .ok (.iconst 1, 1) := by decide +kernel
theorem dX10_isSide_11 : decode cX10_isSide 11 = .ok (.goto 4, 3) := by decide +kernel
theorem dX10_isSide_14 : decode cX10_isSide 14 = .ok (.iconst 0, 1) := by decide +kernel
theorem dX10_isSide_15 : decode cX10_isSide 15 = .ok (.ireturn, 1) := by decide +kernel
/-! X10 isSide -/
def X10_isSide_p15 (t0 : Int32) : Option Int32 :=
    gz t0 <|
    some t0
def X10_isSide (v0 : Int32) : Option Int32 :=
    if v0 < 0 then
      (X10_isSide_p15 (0 : Int32))
    else
    if (12 : Int32) ≤ v0 then
      (X10_isSide_p15 (0 : Int32))
    else
    X10_isSide_p15 (1 : Int32)
abbrev rmX10_isSide : Room := { frames := 0, cells := 0, slots := 0, locals := 0 }
theorem hdX10_isSide : yX10_isSide.cls = RX10 ∧ yX10_isSide.cls ≠ "java/lang/invoke/MethodHandle" ∧ yX10_isSide.cls ≠ "java/lang/invoke/VarHandle" ∧ (parseMethodDescriptor yX10_isSide.desc).map (fun d => d.parameters.length) = some 1 := by decide +kernel
set_option maxRecDepth 100000 in
set_option maxHeartbeats 4000000 in
theorem okX10_isSide (z : Nat → Nat) (l : Launch) (D : va_G) {v0 : Int32} {r : Int32} (heq : X10_isSide v0 = some r) : hCi z l D [] yX10_isSide wsX10_isSide rmX10_isSide [.int v0] [] r [] := by
  refine h_body_i (plainFor_of_name (by decide)) rfl (Nat.le_of_ble_eq_true rfl) (fun p e s m args below meth c A Q hx hb hml hown hts hK hA hX hret ls hP hD hS hl => ?_)
  have hl : lv_has ls 1 [(0, .int v0)] := hl
  have b15 : ∀ (t0 : Int32) (H : Heap) (locs : List Loc) (ls : Array Slot), va_P D vwCl [] H → va_D A [] → va_S A s.heap H locs → lv_has ls 1 [] → X10_isSide_p15  t0 = some r → W p l e rmX10_isSide s m args below meth c H locs 0 0 Q (F0 m 15 ls [.int t0]) := by
    intro t0 H locs ls hP hD hS hl heq
    unfold X10_isSide_p15 at heq
    obtain ⟨n_1, _, heq⟩ := gz_h heq
    have heq := Option.some.inj heq
    subst heq
    exact hret 15 H locs ls hP hD hS n_1 dX10_isSide_15
  obtain ⟨H, hH⟩ : ∃ H, H = s.heap := ⟨_, rfl⟩
  obtain ⟨locs, hlocs⟩ : ∃ z : List Loc, z = [] := ⟨_, rfl⟩
  have hS : va_S A s.heap H locs := by rw [hH, hlocs]; exact hS
  have hP : va_P D vwCl [] H := by rw [hH]; exact hP
  suffices h9 : W p l e rmX10_isSide s m args below meth c H locs 0 0 Q (F0 m 0 ls []) by rw [hH, hlocs] at h9; exact h9
  clear hH hlocs
  unfold X10_isSide at heq
  refine lv_iload_n hx hb dX10_isSide_0 rfl (lv_at hl 0 rfl) ?_
  refine lv_if_lt (tgt := 14) hx hb dX10_isSide_1 (by decide) (fun c_2 => ?_) (fun c_2 => ?_)
  · have heq := it_t c_2 heq
    refine lv_iconst (v := (0 : Int32)) hx hb dX10_isSide_14 (by decide) ?_
    exact b15 (0 : Int32) H locs ls hP hD hS (lv_sub hl [] rfl) heq
  have heq := it_f c_2 heq
  refine lv_iload_n hx hb dX10_isSide_4 rfl (lv_at hl 0 rfl) ?_
  refine lv_bipush (v := (12 : Int32)) hx hb dX10_isSide_5 (by decide) ?_
  refine lv_icmp_ge (tgt := 14) hx hb dX10_isSide_7 (by decide) (fun c_3 => ?_) (fun c_3 => ?_)
  · have heq := it_t c_3 heq
    refine lv_iconst (v := (0 : Int32)) hx hb dX10_isSide_14 (by decide) ?_
    exact b15 (0 : Int32) H locs ls hP hD hS (lv_sub hl [] rfl) heq
  have heq := it_f c_3 heq
  refine lv_iconst (v := (1 : Int32)) hx hb dX10_isSide_10 (by decide) ?_
  refine lv_goto (tgt := 15) hx hb dX10_isSide_11 (by decide) ?_
  exact b15 (1 : Int32) H locs ls hP hD hS (lv_sub hl [] rfl) heq
theorem dX10_isShelf_0 : decode cX10_isShelf 0 = .ok (.iload_n 0, 1) := by decide +kernel
theorem dX10_isShelf_1 : decode cX10_isShelf 1 = .ok (.ifCond .lt 13, 3) := by decide +kernel
theorem dX10_isShelf_4 : decode cX10_isShelf 4 = .ok (.iload_n 0, 1) := by decide +kernel
theorem dX10_isShelf_5 : decode cX10_isShelf 5 = .ok (.bipush 8, 2) := by decide +kernel
theorem dX10_isShelf_7 : decode cX10_isShelf 7 = .ok (.if_icmp .ge 7, 3) := by decide +kernel
theorem dX10_isShelf_10 : decode cX10_isShelf 10 = .ok (.iconst 1, 1) := by decide +kernel
theorem dX10_isShelf_11 : decode cX10_isShelf 11 = .ok (.goto 4, 3) := by decide +kernel
theorem dX10_isShelf_14 : decode cX10_isShelf 14 = .ok (.iconst 0, 1) := by decide +kernel
theorem dX10_isShelf_15 : decode cX10_isShelf 15 = .ok (.ireturn, 1) := by decide +kernel
/-! X10 isShelf -/
def X10_isShelf_p15 (t0 : Int32) : Option Int32 :=
    gz t0 <|
    some t0
def X10_isShelf (v0 : Int32) : Option Int32 :=
    if v0 < 0 then
      (X10_isShelf_p15 (0 : Int32))
    else
    if (8 : Int32) ≤ v0 then
      (X10_isShelf_p15 (0 : Int32))
    else
    X10_isShelf_p15 (1 : Int32)
abbrev rmX10_isShelf : Room := { frames := 0, cells := 0, slots := 0, locals := 0 }
theorem hdX10_isShelf : yX10_isShelf.cls = RX10 ∧ yX10_isShelf.cls ≠ "java/lang/invoke/MethodHandle" ∧ yX10_isShelf.cls ≠ "java/lang/invoke/VarHandle" ∧ (parseMethodDescriptor yX10_isShelf.desc).map (fun d => d.parameters.length) = some 1 := by decide +kernel
set_option maxRecDepth 100000 in
set_option maxHeartbeats 4000000 in
theorem okX10_isShelf (z : Nat → Nat) (l : Launch) (D : va_G) {v0 : Int32} {r : Int32} (heq : X10_isShelf v0 = some r) : hCi z l D [] yX10_isShelf wsX10_isShelf rmX10_isShelf [.int v0] [] r [] := by
  refine h_body_i (plainFor_of_name (by decide)) rfl (Nat.le_of_ble_eq_true rfl) (fun p e s m args below meth c A Q hx hb hml hown hts hK hA hX hret ls hP hD hS hl => ?_)
  have hl : lv_has ls 1 [(0, .int v0)] := hl
  have b15 : ∀ (t0 : Int32) (H : Heap) (locs : List Loc) (ls : Array Slot), va_P D vwCl [] H → va_D A [] → va_S A s.heap H locs → lv_has ls 1 [] → X10_isShelf_p15  t0 = some r → W p l e rmX10_isShelf s m args below meth c H locs 0 0 Q (F0 m 15 ls [.int t0]) := by
    intro t0 H locs ls hP hD hS hl heq
    unfold X10_isShelf_p15 at heq
    obtain ⟨n_1, _, heq⟩ := gz_h heq
    have heq := Option.some.inj heq
    subst heq
    exact hret 15 H locs ls hP hD hS n_1 dX10_isShelf_15
  obtain ⟨H, hH⟩ : ∃ H, H = s.heap := ⟨_, rfl⟩
  obtain ⟨locs, hlocs⟩ : ∃ z : List Loc, z = [] := ⟨_, rfl⟩
  have hS : va_S A s.heap H locs := by rw [hH, hlocs]; exact hS
  have hP : va_P D vwCl [] H := by rw [hH]; exact hP
  suffices h9 : W p l e rmX10_isShelf s m args below meth c H locs 0 0 Q (F0 m 0 ls []) by rw [hH, hlocs] at h9; exact h9
  clear hH hlocs
  unfold X10_isShelf at heq
  refine lv_iload_n hx hb dX10_isShelf_0 rfl (lv_at hl 0 rfl) ?_
  refine lv_if_lt (tgt := 14) hx hb dX10_isShelf_1 (by decide) (fun c_2 => ?_) (fun c_2 => ?_)
  · have heq := it_t c_2 heq
    refine lv_iconst (v := (0 : Int32)) hx hb dX10_isShelf_14 (by decide) ?_
    exact b15 (0 : Int32) H locs ls hP hD hS (lv_sub hl [] rfl) heq
  have heq := it_f c_2 heq
  refine lv_iload_n hx hb dX10_isShelf_4 rfl (lv_at hl 0 rfl) ?_
  refine lv_bipush (v := (8 : Int32)) hx hb dX10_isShelf_5 (by decide) ?_
  refine lv_icmp_ge (tgt := 14) hx hb dX10_isShelf_7 (by decide) (fun c_3 => ?_) (fun c_3 => ?_)
  · have heq := it_t c_3 heq
    refine lv_iconst (v := (0 : Int32)) hx hb dX10_isShelf_14 (by decide) ?_
    exact b15 (0 : Int32) H locs ls hP hD hS (lv_sub hl [] rfl) heq
  have heq := it_f c_3 heq
  refine lv_iconst (v := (1 : Int32)) hx hb dX10_isShelf_10 (by decide) ?_
  refine lv_goto (tgt := 15) hx hb dX10_isShelf_11 (by decide) ?_
  exact b15 (1 : Int32) H locs ls hP hD hS (lv_sub hl [] rfl) heq
theorem dX10_isAsTold_0 : decode cX10_isAsTold 0 = .ok (.iload_n 0, 1) := by decide +kernel
theorem dX10_isAsTold_1 : decode cX10_isAsTold 1 = .ok (.ifCond .lt 31, 3) := by decide +kernel
theorem dX10_isAsTold_4 : decode cX10_isAsTold 4 = .ok (.iload_n 0, 1) := by decide +kernel
theorem dX10_isAsTold_5 : decode cX10_isAsTold 5 = .ok (.bipush 7, 2) := by decide +kernel
theorem dX10_isAsTold_7 : decode cX10_isAsTold 7 = .ok (.if_icmp .ge 25, 3) := by decide +kernel
theorem dX10_isAsTold_10 : decode cX10_isAsTold 10 = .ok (.iload_n 1, 1) := by decide +kernel
theorem dX10_isAsTold_11 : decode cX10_isAsTold 11 = .ok (.getstatic 316, 3) := by decide +kernel
theorem dX10_isAsTold_14 : decode cX10_isAsTold 14 = .ok (.iload_n 0, 1) := by decide +kernel
theorem dX10_isAsTold_15 : decode cX10_isAsTold 15 = .ok (.iaload, 1) := by decide +kernel
theorem dX10_isAsTold_16 : decode cX10_isAsTold 16 = .ok (.if_icmp .lt 16, 3) := by decide +kernel
theorem dX10_isAsTold_19 : decode cX10_isAsTold 19 = .ok (.iload_n 1, 1) := by decide +kernel
theorem dX10_isAsTold_20 : decode cX10_isAsTold 20 = .ok (.getstatic 319, 3) := by decide +kernel
theorem dX10_isAsTold_23 : decode cX10_isAsTold 23 = .ok (.iload_n 0, 1) := by decide +kernel
theorem dX10_isAsTold_24 : decode cX10_isAsTold 24 = .ok (.iaload, 1) := by decide +kernel
theorem dX10_isAsTold_25 : decode cX10_isAsTold 25 = .ok (.if_icmp .gt 7, 3) := by decide +kernel
theorem dX10_isAsTold_28 : decode cX10_isAsTold 28 = .ok (.iconst 1, 1) := by decide +kernel
theorem dX10_isAsTold_29 : decode cX10_isAsTold 29 = .ok (.goto 4, 3) := by decide +kernel
theorem dX10_isAsTold_32 : decode cX10_isAsTold 32 = .ok (.iconst 0, 1) := by decide +kernel
theorem dX10_isAsTold_33 : decode cX10_isAsTold 33 = .ok (.ireturn, 1) := by decide +kernel
/-! X10 isAsTold -/
def X10_isAsTold_p33 (t0 : Int32) : Option Int32 :=
    gz t0 <|
    some t0
def X10_isAsTold (v0 : Int32) (v1 : Int32) : Option Int32 :=
    if v0 < 0 then
      (X10_isAsTold_p33 (0 : Int32))
    else
    if (7 : Int32) ≤ v0 then
      (X10_isAsTold_p33 (0 : Int32))
    else
    inr v0 7 <|
    if v1 < (cLe v0.toNatClampNeg) then
      (X10_isAsTold_p33 (0 : Int32))
    else
    inr v0 7 <|
    if (cMo v0.toNatClampNeg) < v1 then
      (X10_isAsTold_p33 (0 : Int32))
    else
    X10_isAsTold_p33 (1 : Int32)
abbrev rmX10_isAsTold : Room := { frames := 0, cells := 0, slots := 0, locals := 0 }
theorem hdX10_isAsTold : yX10_isAsTold.cls = RX10 ∧ yX10_isAsTold.cls ≠ "java/lang/invoke/MethodHandle" ∧ yX10_isAsTold.cls ≠ "java/lang/invoke/VarHandle" ∧ (parseMethodDescriptor yX10_isAsTold.desc).map (fun d => d.parameters.length) = some 2 := by decide +kernel
set_option maxRecDepth 100000 in
set_option maxHeartbeats 4000000 in
theorem okX10_isAsTold (z : Nat → Nat) (l : Launch) (D : va_G) {v0 : Int32} {v1 : Int32} {r : Int32} (heq : X10_isAsTold v0 v1 = some r) : hCi z l D [] yX10_isAsTold wsX10_isAsTold rmX10_isAsTold [.int v0, .int v1] [] r [] := by
  refine h_body_i (plainFor_of_name (by decide)) rfl (Nat.le_of_ble_eq_true rfl) (fun p e s m args below meth c A Q hx hb hml hown hts hK hA hX hret ls hP hD hS hl => ?_)
  have hl : lv_has ls 2 [(0, .int v0), (1, .int v1)] := hl
  have g316 := hts (.fieldLink RX10 316 RX10 "LEAST" "[I") (by decide +kernel)
  have g319 := hts (.fieldLink RX10 319 RX10 "MOST" "[I") (by decide +kernel)
  have b33 : ∀ (t0 : Int32) (H : Heap) (locs : List Loc) (ls : Array Slot), va_P D vwCl [] H → va_D A [] → va_S A s.heap H locs → lv_has ls 2 [] → X10_isAsTold_p33  t0 = some r → W p l e rmX10_isAsTold s m args below meth c H locs 0 0 Q (F0 m 33 ls [.int t0]) := by
    intro t0 H locs ls hP hD hS hl heq
    unfold X10_isAsTold_p33 at heq
    obtain ⟨n_1, _, heq⟩ := gz_h heq
    have heq := Option.some.inj heq
    subst heq
    exact hret 33 H locs ls hP hD hS n_1 dX10_isAsTold_33
  obtain ⟨H, hH⟩ : ∃ H, H = s.heap := ⟨_, rfl⟩
  obtain ⟨locs, hlocs⟩ : ∃ z : List Loc, z = [] := ⟨_, rfl⟩
  have hS : va_S A s.heap H locs := by rw [hH, hlocs]; exact hS
  have hP : va_P D vwCl [] H := by rw [hH]; exact hP
  suffices h9 : W p l e rmX10_isAsTold s m args below meth c H locs 0 0 Q (F0 m 0 ls []) by rw [hH, hlocs] at h9; exact h9
  clear hH hlocs
  unfold X10_isAsTold at heq
  refine lv_iload_n hx hb dX10_isAsTold_0 rfl (lv_at hl 0 rfl) ?_
  refine lv_if_lt (tgt := 32) hx hb dX10_isAsTold_1 (by decide) (fun c_2 => ?_) (fun c_2 => ?_)
  · have heq := it_t c_2 heq
    refine lv_iconst (v := (0 : Int32)) hx hb dX10_isAsTold_32 (by decide) ?_
    exact b33 (0 : Int32) H locs ls hP hD hS (lv_sub hl [] rfl) heq
  have heq := it_f c_2 heq
  refine lv_iload_n hx hb dX10_isAsTold_4 rfl (lv_at hl 0 rfl) ?_
  refine lv_bipush (v := (7 : Int32)) hx hb dX10_isAsTold_5 (by decide) ?_
  refine lv_icmp_ge (tgt := 32) hx hb dX10_isAsTold_7 (by decide) (fun c_3 => ?_) (fun c_3 => ?_)
  · have heq := it_t c_3 heq
    refine lv_iconst (v := (0 : Int32)) hx hb dX10_isAsTold_32 (by decide) ?_
    exact b33 (0 : Int32) H locs ls hP hD hS (lv_sub hl [] rfl) heq
  have heq := it_f c_3 heq
  refine lv_iload_n hx hb dX10_isAsTold_10 rfl (lv_at hl 1 rfl) ?_
  refine va_gets (C := RX10) (ref := RX10) hx hb hX.2.2.2.1.1 hS hown g316 (fun _ h => h) dX10_isAsTold_11 ?_
  refine lv_iload_n hx hb dX10_isAsTold_14 rfl (lv_at hl 0 rfl) ?_
  obtain ⟨n_4, heq⟩ := inr_h heq
  refine va_ti hx hb hX.2.2.2.1.2 hS n_4 rfl dX10_isAsTold_15 ?_
  refine lv_icmp_lt (tgt := 32) hx hb dX10_isAsTold_16 (by decide) (fun c_5 => ?_) (fun c_5 => ?_)
  · have heq := it_t c_5 heq
    refine lv_iconst (v := (0 : Int32)) hx hb dX10_isAsTold_32 (by decide) ?_
    exact b33 (0 : Int32) H locs ls hP hD hS (lv_sub hl [] rfl) heq
  have heq := it_f c_5 heq
  refine lv_iload_n hx hb dX10_isAsTold_19 rfl (lv_at hl 1 rfl) ?_
  refine va_gets (C := RX10) (ref := RX10) hx hb hX.2.2.2.2.1.1 hS hown g319 (fun _ h => h) dX10_isAsTold_20 ?_
  refine lv_iload_n hx hb dX10_isAsTold_23 rfl (lv_at hl 0 rfl) ?_
  obtain ⟨n_6, heq⟩ := inr_h heq
  refine va_ti hx hb hX.2.2.2.2.1.2 hS n_6 rfl dX10_isAsTold_24 ?_
  refine lv_icmp_gt (tgt := 32) hx hb dX10_isAsTold_25 (by decide) (fun c_7 => ?_) (fun c_7 => ?_)
  · have heq := it_t c_7 heq
    refine lv_iconst (v := (0 : Int32)) hx hb dX10_isAsTold_32 (by decide) ?_
    exact b33 (0 : Int32) H locs ls hP hD hS (lv_sub hl [] rfl) heq
  have heq := it_f c_7 heq
  refine lv_iconst (v := (1 : Int32)) hx hb dX10_isAsTold_28 (by decide) ?_
  refine lv_goto (tgt := 33) hx hb dX10_isAsTold_29 (by decide) ?_
  exact b33 (1 : Int32) H locs ls hP hD hS (lv_sub hl [] rfl) heq
set_option maxRecDepth 20000 in
theorem ggX10_around_J9_floorMod_7cf53 : GoodIn wsX10_around wsJ9_floorMod_7cf53 := goodIn_r _ [4] (by decide +kernel) (by decide +kernel)
set_option maxRecDepth 20000 in
theorem gX10_around_J9_floorMod_7cf53 : GoodIn wsX10_around (va_wsS RX10 322 yJ9_floorMod_7cf53 wsJ9_floorMod_7cf53) := goodIn_app (goodIn_of _ (by decide +kernel)) ggX10_around_J9_floorMod_7cf53
theorem dX10_around_0 : decode cX10_around 0 = .ok (.iload_n 0, 1) := by decide +kernel
theorem dX10_around_1 : decode cX10_around 1 = .ok (.bipush 12, 2) := by decide +kernel
theorem dX10_around_3 : decode cX10_around 3 = .ok (.invokestatic 322, 3) := by decide +kernel
theorem dX10_around_6 : decode cX10_around 6 = .ok (.ireturn, 1) := by decide +kernel
/-! X10 around -/
def X10_around (v0 : Int32) : Option Int32 :=
    bd1 (J9_floorMod_7cf53 v0 (12 : Int32)) fun y_1 =>
    some y_1
abbrev rmX10_around : Room := { frames := 1, cells := 0, slots := 0, locals := 22 }
theorem hdX10_around : yX10_around.cls = RX10 ∧ yX10_around.cls ≠ "java/lang/invoke/MethodHandle" ∧ yX10_around.cls ≠ "java/lang/invoke/VarHandle" ∧ (parseMethodDescriptor yX10_around.desc).map (fun d => d.parameters.length) = some 1 := by decide +kernel
set_option maxRecDepth 100000 in
set_option maxHeartbeats 4000000 in
theorem okX10_around (z : Nat → Nat) (l : Launch) (D : va_G) {v0 : Int32} {r : Int32} (heq : X10_around v0 = some r) : hCi z l D [] yX10_around wsX10_around rmX10_around [.int v0] [] r [] := by
  refine h_body_i (plainFor_of_name (by decide)) rfl (Nat.le_of_ble_eq_true rfl) (fun p e s m args below meth c A Q hx hb hml hown hts hK hA hX hret ls hP hD hS hl => ?_)
  have hl : lv_has ls 1 [(0, .int v0)] := hl
  obtain ⟨H, hH⟩ : ∃ H, H = s.heap := ⟨_, rfl⟩
  obtain ⟨locs, hlocs⟩ : ∃ z : List Loc, z = [] := ⟨_, rfl⟩
  have hS : va_S A s.heap H locs := by rw [hH, hlocs]; exact hS
  have hP : va_P D vwCl [] H := by rw [hH]; exact hP
  suffices h9 : W p l e rmX10_around s m args below meth c H locs 0 0 Q (F0 m 0 ls []) by rw [hH, hlocs] at h9; exact h9
  clear hH hlocs
  unfold X10_around at heq
  refine lv_iload_n hx hb dX10_around_0 rfl (lv_at hl 0 rfl) ?_
  refine lv_bipush (v := (12 : Int32)) hx hb dX10_around_1 (by decide) ?_
  obtain ⟨y_1, h_2, heq⟩ := bd1_h heq
  refine h_si (own := RX10) (As := [.int v0, .int (12 : Int32)]) (rest := []) (w0 := []) (w1 := []) (wr := []) hx hb hml hown hts (okJ9_floorMod_7cf53 z l D h_2) (va_cwS 2 hts gX10_around_J9_floorMod_7cf53 rfl rfl rfl (hdJ9_floorMod_7cf53).2 ⟨Nat.le_of_ble_eq_true rfl, Nat.le_of_ble_eq_true rfl⟩) (hK.sub [] rfl) hA hX hP hD hS (List.Perm.refl _) (List.Perm.refl _) rfl hl.1 rfl (Nat.le_of_ble_eq_true rfl) dX10_around_3 ⟨Nat.le_of_ble_eq_true rfl, Nat.le_of_ble_eq_true rfl⟩ (fun H locs hP hD hS => ?_)
  have heq := Option.some.inj heq
  subst heq
  exact hret 6 H locs ls hP hD hS rfl dX10_around_6
theorem dX10_nextSeed_0 : decode cX10_nextSeed 0 = .ok (.iload_n 0, 1) := by decide +kernel
theorem dX10_nextSeed_1 : decode cX10_nextSeed 1 = .ok (.ldc_w 350, 3) := by decide +kernel
theorem dX10_nextSeed_4 : decode cX10_nextSeed 4 = .ok (.imul, 1) := by decide +kernel
theorem dX10_nextSeed_5 : decode cX10_nextSeed 5 = .ok (.sipush 12345, 3) := by decide +kernel
theorem dX10_nextSeed_8 : decode cX10_nextSeed 8 = .ok (.iadd, 1) := by decide +kernel
theorem dX10_nextSeed_9 : decode cX10_nextSeed 9 = .ok (.ireturn, 1) := by decide +kernel
/-! X10 nextSeed -/
def X10_nextSeed (v0 : Int32) : Option Int32 :=
    some ((v0 * (1103515245 : Int32)) + (12345 : Int32))
abbrev rmX10_nextSeed : Room := { frames := 0, cells := 0, slots := 0, locals := 0 }
theorem hdX10_nextSeed : yX10_nextSeed.cls = RX10 ∧ yX10_nextSeed.cls ≠ "java/lang/invoke/MethodHandle" ∧ yX10_nextSeed.cls ≠ "java/lang/invoke/VarHandle" ∧ (parseMethodDescriptor yX10_nextSeed.desc).map (fun d => d.parameters.length) = some 1 := by decide +kernel
set_option maxRecDepth 100000 in
set_option maxHeartbeats 4000000 in
theorem okX10_nextSeed (z : Nat → Nat) (l : Launch) (D : va_G) {v0 : Int32} {r : Int32} (heq : X10_nextSeed v0 = some r) : hCi z l D [] yX10_nextSeed wsX10_nextSeed rmX10_nextSeed [.int v0] [] r [] := by
  refine h_body_i (plainFor_of_name (by decide)) rfl (Nat.le_of_ble_eq_true rfl) (fun p e s m args below meth c A Q hx hb hml hown hts hK hA hX hret ls hP hD hS hl => ?_)
  have hl : lv_has ls 1 [(0, .int v0)] := hl
  have c350 := hts (.constant RX10 350 (1103515245)) (by decide +kernel)
  obtain ⟨H, hH⟩ : ∃ H, H = s.heap := ⟨_, rfl⟩
  obtain ⟨locs, hlocs⟩ : ∃ z : List Loc, z = [] := ⟨_, rfl⟩
  have hS : va_S A s.heap H locs := by rw [hH, hlocs]; exact hS
  have hP : va_P D vwCl [] H := by rw [hH]; exact hP
  suffices h9 : W p l e rmX10_nextSeed s m args below meth c H locs 0 0 Q (F0 m 0 ls []) by rw [hH, hlocs] at h9; exact h9
  clear hH hlocs
  unfold X10_nextSeed at heq
  refine lv_iload_n hx hb dX10_nextSeed_0 rfl (lv_at hl 0 rfl) ?_
  refine lv_ldcw (v := (1103515245 : Int32)) hx hb hown c350 dX10_nextSeed_1 ?_
  refine lv_imul hx hb dX10_nextSeed_4 ?_
  refine lv_sipush (v := (12345 : Int32)) hx hb dX10_nextSeed_5 (by decide) ?_
  refine lv_iadd hx hb dX10_nextSeed_8 ?_
  have heq := Option.some.inj heq
  subst heq
  exact hret 9 H locs ls hP hD hS rfl dX10_nextSeed_9
theorem dX10_drawn_0 : decode cX10_drawn 0 = .ok (.iload_n 0, 1) := by decide +kernel
theorem dX10_drawn_1 : decode cX10_drawn 1 = .ok (.ldc_w 351, 3) := by decide +kernel
theorem dX10_drawn_4 : decode cX10_drawn 4 = .ok (.iand, 1) := by decide +kernel
theorem dX10_drawn_5 : decode cX10_drawn 5 = .ok (.ldc_w 352, 3) := by decide +kernel
theorem dX10_drawn_8 : decode cX10_drawn 8 = .ok (.idiv, 1) := by decide +kernel
theorem dX10_drawn_9 : decode cX10_drawn 9 = .ok (.ireturn, 1) := by decide +kernel
/-! X10 drawn -/
def X10_drawn (v0 : Int32) : Option Int32 :=
    dvi (65536 : Int32) <|
    some ((v0 &&& (2147483647 : Int32)) / (65536 : Int32))
abbrev rmX10_drawn : Room := { frames := 0, cells := 0, slots := 0, locals := 0 }
theorem hdX10_drawn : yX10_drawn.cls = RX10 ∧ yX10_drawn.cls ≠ "java/lang/invoke/MethodHandle" ∧ yX10_drawn.cls ≠ "java/lang/invoke/VarHandle" ∧ (parseMethodDescriptor yX10_drawn.desc).map (fun d => d.parameters.length) = some 1 := by decide +kernel
set_option maxRecDepth 100000 in
set_option maxHeartbeats 4000000 in
theorem okX10_drawn (z : Nat → Nat) (l : Launch) (D : va_G) {v0 : Int32} {r : Int32} (heq : X10_drawn v0 = some r) : hCi z l D [] yX10_drawn wsX10_drawn rmX10_drawn [.int v0] [] r [] := by
  refine h_body_i (plainFor_of_name (by decide)) rfl (Nat.le_of_ble_eq_true rfl) (fun p e s m args below meth c A Q hx hb hml hown hts hK hA hX hret ls hP hD hS hl => ?_)
  have hl : lv_has ls 1 [(0, .int v0)] := hl
  have c351 := hts (.constant RX10 351 (2147483647)) (by decide +kernel)
  have c352 := hts (.constant RX10 352 (65536)) (by decide +kernel)
  obtain ⟨H, hH⟩ : ∃ H, H = s.heap := ⟨_, rfl⟩
  obtain ⟨locs, hlocs⟩ : ∃ z : List Loc, z = [] := ⟨_, rfl⟩
  have hS : va_S A s.heap H locs := by rw [hH, hlocs]; exact hS
  have hP : va_P D vwCl [] H := by rw [hH]; exact hP
  suffices h9 : W p l e rmX10_drawn s m args below meth c H locs 0 0 Q (F0 m 0 ls []) by rw [hH, hlocs] at h9; exact h9
  clear hH hlocs
  unfold X10_drawn at heq
  refine lv_iload_n hx hb dX10_drawn_0 rfl (lv_at hl 0 rfl) ?_
  refine lv_ldcw (v := (2147483647 : Int32)) hx hb hown c351 dX10_drawn_1 ?_
  refine lv_iand hx hb dX10_drawn_4 ?_
  refine lv_ldcw (v := (65536 : Int32)) hx hb hown c352 dX10_drawn_5 ?_
  obtain ⟨n_1, heq⟩ := dvi_h heq
  refine lv_idiv hx hb dX10_drawn_8 n_1 ?_
  have heq := Option.some.inj heq
  subst heq
  exact hret 9 H locs ls hP hD hS rfl dX10_drawn_9
theorem dX10_partOf_0 : decode cX10_partOf 0 = .ok (.iload_n 1, 1) := by decide +kernel
theorem dX10_partOf_1 : decode cX10_partOf 1 = .ok (.istore_n 3, 1) := by decide +kernel
theorem dX10_partOf_2 : decode cX10_partOf 2 = .ok (.iload_n 0, 1) := by decide +kernel
theorem dX10_partOf_3 : decode cX10_partOf 3 = .ok (.istore 4, 2) := by decide +kernel
theorem dX10_partOf_5 : decode cX10_partOf 5 = .ok (.iconst 0, 1) := by decide +kernel
theorem dX10_partOf_6 : decode cX10_partOf 6 = .ok (.istore 5, 2) := by decide +kernel
theorem dX10_partOf_8 : decode cX10_partOf 8 = .ok (.iload 5, 2) := by decide +kernel
theorem dX10_partOf_10 : decode cX10_partOf 10 = .ok (.bipush 64, 2) := by decide +kernel
theorem dX10_partOf_12 : decode cX10_partOf 12 = .ok (.if_icmp .ge 27, 3) := by decide +kernel
theorem dX10_partOf_15 : decode cX10_partOf 15 = .ok (.iload 4, 2) := by decide +kernel
theorem dX10_partOf_17 : decode cX10_partOf 17 = .ok (.ifCond .eq 22, 3) := by decide +kernel
theorem dX10_partOf_20 : decode cX10_partOf 20 = .ok (.iload_n 3, 1) := by decide +kernel
theorem dX10_partOf_21 : decode cX10_partOf 21 = .ok (.iload 4, 2) := by decide +kernel
theorem dX10_partOf_23 : decode cX10_partOf 23 = .ok (.irem, 1) := by decide +kernel
theorem dX10_partOf_24 : decode cX10_partOf 24 = .ok (.istore 6, 2) := by decide +kernel
theorem dX10_partOf_26 : decode cX10_partOf 26 = .ok (.iload 4, 2) := by decide +kernel
theorem dX10_partOf_28 : decode cX10_partOf 28 = .ok (.istore_n 3, 1) := by decide +kernel
theorem dX10_partOf_29 : decode cX10_partOf 29 = .ok (.iload 6, 2) := by decide +kernel
theorem dX10_partOf_31 : decode cX10_partOf 31 = .ok (.istore 4, 2) := by decide +kernel
theorem dX10_partOf_33 : decode cX10_partOf 33 = .ok (.iinc 5 1, 3) := by decide +kernel
theorem dX10_partOf_36 : decode cX10_partOf 36 = .ok (.goto (-28), 3) := by decide +kernel
theorem dX10_partOf_39 : decode cX10_partOf 39 = .ok (.iload_n 3, 1) := by decide +kernel
theorem dX10_partOf_40 : decode cX10_partOf 40 = .ok (.ifCond .ne 5, 3) := by decide +kernel
theorem dX10_partOf_43 : decode cX10_partOf 43 = .ok (.lconst 0, 1) := by decide +kernel
theorem dX10_partOf_44 : decode cX10_partOf 44 = .ok (.lreturn, 1) := by decide +kernel
theorem dX10_partOf_45 : decode cX10_partOf 45 = .ok (.iload_n 2, 1) := by decide +kernel
theorem dX10_partOf_46 : decode cX10_partOf 46 = .ok (.ifCond .ne 10, 3) := by decide +kernel
theorem dX10_partOf_49 : decode cX10_partOf 49 = .ok (.iload_n 0, 1) := by decide +kernel
theorem dX10_partOf_50 : decode cX10_partOf 50 = .ok (.iload_n 3, 1) := by decide +kernel
theorem dX10_partOf_51 : decode cX10_partOf 51 = .ok (.idiv, 1) := by decide +kernel
theorem dX10_partOf_52 : decode cX10_partOf 52 = .ok (.i2l, 1) := by decide +kernel
theorem dX10_partOf_53 : decode cX10_partOf 53 = .ok (.goto 7, 3) := by decide +kernel
theorem dX10_partOf_56 : decode cX10_partOf 56 = .ok (.iload_n 1, 1) := by decide +kernel
theorem dX10_partOf_57 : decode cX10_partOf 57 = .ok (.iload_n 3, 1) := by decide +kernel
theorem dX10_partOf_58 : decode cX10_partOf 58 = .ok (.idiv, 1) := by decide +kernel
theorem dX10_partOf_59 : decode cX10_partOf 59 = .ok (.i2l, 1) := by decide +kernel
theorem dX10_partOf_60 : decode cX10_partOf 60 = .ok (.lreturn, 1) := by decide +kernel
/-! X10 partOf -/
def X10_partOf_p60 (t0 : Int64) : Option Int64 :=
    some t0
def X10_partOf_p39 (v0 : Int32) (v1 : Int32) (v2 : Int32) (v3 : Int32) : Option Int64 :=
    if v3 = 0 then
      (some (0 : Int64))
    else
    if v2 = 0 then
      (dvi v3 <|
      X10_partOf_p60 ((v0 / v3).toInt64))
    else
    dvi v3 <|
    X10_partOf_p60 ((v1 / v3).toInt64)
def X10_partOf_p8 : Nat → Int32 → Int32 → Int32 → Int32 → Int32 → Int32 → Option Int64
  | 0, _, _, _, _, _, _ => none
  | n + 1, v0, v1, v2, v3, v4, v5 =>
    if (64 : Int32) ≤ v5 then
      (X10_partOf_p39 v0 v1 v2 v3)
    else
    if v4 = 0 then
      (X10_partOf_p39 v0 v1 v2 v3)
    else
    dvi v4 <|
    nm ((v3 - v3 / v4 * v4)) fun x_8 =>
    nm (v5 + (1 : Int32)) fun x_9 =>
    X10_partOf_p8  n v0 v1 v2 v4 x_8 x_9
theorem X10_partOf_p8_s (n : Nat) (v0 : Int32) (v1 : Int32) (v2 : Int32) (v3 : Int32) (v4 : Int32) (v5 : Int32) : X10_partOf_p8  (n + 1) v0 v1 v2 v3 v4 v5 =
    (if (64 : Int32) ≤ v5 then
      (X10_partOf_p39 v0 v1 v2 v3)
    else
    if v4 = 0 then
      (X10_partOf_p39 v0 v1 v2 v3)
    else
    dvi v4 <|
    nm ((v3 - v3 / v4 * v4)) fun x_8 =>
    nm (v5 + (1 : Int32)) fun x_9 =>
    X10_partOf_p8  n v0 v1 v2 v4 x_8 x_9) := rfl
def X10_partOf (v0 : Int32) (v1 : Int32) (v2 : Int32) : Option Int64 :=
    X10_partOf_p8 65 v0 v1 v2 v1 v0 (0 : Int32)
abbrev rmX10_partOf : Room := { frames := 0, cells := 0, slots := 0, locals := 0 }
theorem hdX10_partOf : yX10_partOf.cls = RX10 ∧ yX10_partOf.cls ≠ "java/lang/invoke/MethodHandle" ∧ yX10_partOf.cls ≠ "java/lang/invoke/VarHandle" ∧ (parseMethodDescriptor yX10_partOf.desc).map (fun d => d.parameters.length) = some 3 := by decide +kernel
set_option maxRecDepth 100000 in
set_option maxHeartbeats 4000000 in
theorem okX10_partOf (z : Nat → Nat) (l : Launch) (D : va_G) {v0 : Int32} {v1 : Int32} {v2 : Int32} {r : Int64} (heq : X10_partOf v0 v1 v2 = some r) : hCl z l D [] yX10_partOf wsX10_partOf rmX10_partOf [.int v0, .int v1, .int v2] [] r [] := by
  refine h_body_l (plainFor_of_name (by decide)) rfl (Nat.le_of_ble_eq_true rfl) (fun p e s m args below meth c A Q hx hb hml hown hts hK hA hX hret ls hP hD hS hl => ?_)
  have hl : lv_has ls 7 [(0, .int v0), (1, .int v1), (2, .int v2)] := hl
  have b60 : ∀ (t0 : Int64) (H : Heap) (locs : List Loc) (ls : Array Slot), va_P D vwCl [] H → va_D A [] → va_S A s.heap H locs → lv_has ls 7 [] → X10_partOf_p60  t0 = some r → W p l e rmX10_partOf s m args below meth c H locs 0 0 Q (F0 m 60 ls [.long t0]) := by
    intro t0 H locs ls hP hD hS hl heq
    unfold X10_partOf_p60 at heq
    have heq := Option.some.inj heq
    subst heq
    exact hret 60 H locs ls hP hD hS dX10_partOf_60
  have b39 : ∀ (v0 : Int32) (v1 : Int32) (v2 : Int32) (v3 : Int32) (H : Heap) (locs : List Loc) (ls : Array Slot), va_P D vwCl [] H → va_D A [] → va_S A s.heap H locs → lv_has ls 7 [(0, .int v0), (1, .int v1), (2, .int v2), (3, .int v3)] → X10_partOf_p39  v0 v1 v2 v3 = some r → W p l e rmX10_partOf s m args below meth c H locs 0 0 Q (F0 m 39 ls []) := by
    intro v0 v1 v2 v3 H locs ls hP hD hS hl heq
    unfold X10_partOf_p39 at heq
    refine lv_iload_n hx hb dX10_partOf_39 rfl (lv_at hl 3 rfl) ?_
    refine lv_if_ne (tgt := 45) hx hb dX10_partOf_40 (by decide) (fun c_1 => ?_) (fun c_1 => ?_)
    · have heq := it_f c_1 heq
      refine lv_iload_n hx hb dX10_partOf_45 rfl (lv_at hl 2 rfl) ?_
      refine lv_if_ne (tgt := 56) hx hb dX10_partOf_46 (by decide) (fun c_2 => ?_) (fun c_2 => ?_)
      · have heq := it_f c_2 heq
        refine lv_iload_n hx hb dX10_partOf_56 rfl (lv_at hl 1 rfl) ?_
        refine lv_iload_n hx hb dX10_partOf_57 rfl (lv_at hl 3 rfl) ?_
        obtain ⟨n_3, heq⟩ := dvi_h heq
        refine lv_idiv hx hb dX10_partOf_58 n_3 ?_
        refine lv_i2l hx hb dX10_partOf_59 rfl ?_
        exact b60 ((v1 / v3).toInt64) H locs ls hP hD hS (lv_sub hl [] rfl) heq
      have heq := it_t c_2 heq
      refine lv_iload_n hx hb dX10_partOf_49 rfl (lv_at hl 0 rfl) ?_
      refine lv_iload_n hx hb dX10_partOf_50 rfl (lv_at hl 3 rfl) ?_
      obtain ⟨n_4, heq⟩ := dvi_h heq
      refine lv_idiv hx hb dX10_partOf_51 n_4 ?_
      refine lv_i2l hx hb dX10_partOf_52 rfl ?_
      refine lv_goto (tgt := 60) hx hb dX10_partOf_53 (by decide) ?_
      exact b60 ((v0 / v3).toInt64) H locs ls hP hD hS (lv_sub hl [] rfl) heq
    have heq := it_t c_1 heq
    refine lv_lconst (v := (0 : Int64)) hx hb dX10_partOf_43 (by decide) ?_
    have heq := Option.some.inj heq
    subst heq
    exact hret 44 H locs ls hP hD hS dX10_partOf_44
  have b8 : ∀ (n : Nat), ∀ (v0 : Int32) (v1 : Int32) (v2 : Int32) (v3 : Int32) (v4 : Int32) (v5 : Int32) (H : Heap) (locs : List Loc) (ls : Array Slot), va_P D vwCl [] H → va_D A [] → va_S A s.heap H locs → lv_has ls 7 [(0, .int v0), (1, .int v1), (2, .int v2), (3, .int v3), (4, .int v4), (5, .int v5)] → X10_partOf_p8  n v0 v1 v2 v3 v4 v5 = some r → W p l e rmX10_partOf s m args below meth c H locs 0 0 Q (F0 m 8 ls []) := by
    intro n
    induction n with
    | zero => intro v0 v1 v2 v3 v4 v5 H locs ls hP hD hS hl heq; cases heq
    | succ n ih =>
      intro v0 v1 v2 v3 v4 v5 H locs ls hP hD hS hl heq
      rw [X10_partOf_p8_s] at heq
      refine lv_iload hx hb dX10_partOf_8 (lv_at hl 5 rfl) ?_
      refine lv_bipush (v := (64 : Int32)) hx hb dX10_partOf_10 (by decide) ?_
      refine lv_icmp_ge (tgt := 39) hx hb dX10_partOf_12 (by decide) (fun c_5 => ?_) (fun c_5 => ?_)
      · have heq := it_t c_5 heq
        exact b39 v0 v1 v2 v3 H locs ls hP hD hS (lv_sub hl [0, 1, 2, 3] rfl) heq
      have heq := it_f c_5 heq
      refine lv_iload hx hb dX10_partOf_15 (lv_at hl 4 rfl) ?_
      refine lv_if_eq (tgt := 39) hx hb dX10_partOf_17 (by decide) (fun c_6 => ?_) (fun c_6 => ?_)
      · have heq := it_t c_6 heq
        exact b39 v0 v1 v2 v3 H locs ls hP hD hS (lv_sub hl [0, 1, 2, 3] rfl) heq
      have heq := it_f c_6 heq
      refine lv_iload_n hx hb dX10_partOf_20 rfl (lv_at hl 3 rfl) ?_
      refine lv_iload hx hb dX10_partOf_21 (lv_at hl 4 rfl) ?_
      obtain ⟨n_7, heq⟩ := dvi_h heq
      refine lv_irem hx hb dX10_partOf_23 n_7 ?_
      refine lv_topi (fun x_8 ex_8 => ?_)
      have heq := nm_h ex_8 heq
      refine lv_istore (lv' := [(6, .int x_8), (0, .int v0), (1, .int v1), (2, .int v2), (3, .int v3), (4, .int v4), (5, .int v5)]) hx hb dX10_partOf_24 hl (by decide) rfl (fun ls hl => ?_)
      refine lv_iload hx hb dX10_partOf_26 (lv_at hl 5 rfl) ?_
      refine lv_istore_n (lv' := [(3, .int v4), (6, .int x_8), (0, .int v0), (1, .int v1), (2, .int v2), (4, .int v4), (5, .int v5)]) hx hb dX10_partOf_28 rfl hl (by decide) rfl (fun ls hl => ?_)
      refine lv_iload hx hb dX10_partOf_29 (lv_at hl 1 rfl) ?_
      refine lv_istore (lv' := [(4, .int x_8), (3, .int v4), (6, .int x_8), (0, .int v0), (1, .int v1), (2, .int v2), (5, .int v5)]) hx hb dX10_partOf_31 hl (by decide) rfl (fun ls hl => ?_)
      obtain ⟨x_9, ex_9⟩ : ∃ y : Int32, y = v5 + (1 : Int32) := ⟨_, rfl⟩
      have heq := nm_h ex_9 heq
      refine lv_iinc (v := x_9) (lv' := [(5, .int x_9), (4, .int x_8), (3, .int v4), (6, .int x_8), (0, .int v0), (1, .int v1), (2, .int v2)]) hx hb dX10_partOf_33 hl (k := 6) rfl (by rw [ex_9]; rfl) (by decide) rfl (fun ls hl => ?_)
      refine lv_goto (tgt := 8) hx hb dX10_partOf_36 (by decide) ?_
      exact ih v0 v1 v2 v4 x_8 x_9 H locs ls hP hD hS (lv_sub hl [4, 5, 6, 2, 1, 0] rfl) heq
  obtain ⟨H, hH⟩ : ∃ H, H = s.heap := ⟨_, rfl⟩
  obtain ⟨locs, hlocs⟩ : ∃ z : List Loc, z = [] := ⟨_, rfl⟩
  have hS : va_S A s.heap H locs := by rw [hH, hlocs]; exact hS
  have hP : va_P D vwCl [] H := by rw [hH]; exact hP
  suffices h9 : W p l e rmX10_partOf s m args below meth c H locs 0 0 Q (F0 m 0 ls []) by rw [hH, hlocs] at h9; exact h9
  clear hH hlocs
  unfold X10_partOf at heq
  refine lv_iload_n hx hb dX10_partOf_0 rfl (lv_at hl 1 rfl) ?_
  refine lv_istore_n (lv' := [(3, .int v1), (0, .int v0), (1, .int v1), (2, .int v2)]) hx hb dX10_partOf_1 rfl hl (by decide) rfl (fun ls hl => ?_)
  refine lv_iload_n hx hb dX10_partOf_2 rfl (lv_at hl 1 rfl) ?_
  refine lv_istore (lv' := [(4, .int v0), (3, .int v1), (0, .int v0), (1, .int v1), (2, .int v2)]) hx hb dX10_partOf_3 hl (by decide) rfl (fun ls hl => ?_)
  refine lv_iconst (v := (0 : Int32)) hx hb dX10_partOf_5 (by decide) ?_
  refine lv_istore (lv' := [(5, .int (0 : Int32)), (4, .int v0), (3, .int v1), (0, .int v0), (1, .int v1), (2, .int v2)]) hx hb dX10_partOf_6 hl (by decide) rfl (fun ls hl => ?_)
  exact b8 65 v0 v1 v2 v1 v0 (0 : Int32) H locs ls hP hD hS (lv_sub hl [3, 4, 5, 2, 1, 0] rfl) heq
theorem dX10_cellOf_0 : decode cX10_cellOf 0 = .ok (.iload_n 1, 1) := by decide +kernel
theorem dX10_cellOf_1 : decode cX10_cellOf 1 = .ok (.istore_n 2, 1) := by decide +kernel
theorem dX10_cellOf_2 : decode cX10_cellOf 2 = .ok (.iconst 0, 1) := by decide +kernel
theorem dX10_cellOf_3 : decode cX10_cellOf 3 = .ok (.istore_n 3, 1) := by decide +kernel
theorem dX10_cellOf_4 : decode cX10_cellOf 4 = .ok (.iload_n 3, 1) := by decide +kernel
theorem dX10_cellOf_5 : decode cX10_cellOf 5 = .ok (.bipush 12, 2) := by decide +kernel
theorem dX10_cellOf_7 : decode cX10_cellOf 7 = .ok (.if_icmp .ge 27, 3) := by decide +kernel
theorem dX10_cellOf_10 : decode cX10_cellOf 10 = .ok (.iload_n 0, 1) := by decide +kernel
theorem dX10_cellOf_11 : decode cX10_cellOf 11 = .ok (.iload_n 3, 1) := by decide +kernel
theorem dX10_cellOf_12 : decode cX10_cellOf 12 = .ok (.ishr, 1) := by decide +kernel
theorem dX10_cellOf_13 : decode cX10_cellOf 13 = .ok (.iconst 1, 1) := by decide +kernel
theorem dX10_cellOf_14 : decode cX10_cellOf 14 = .ok (.iand, 1) := by decide +kernel
theorem dX10_cellOf_15 : decode cX10_cellOf 15 = .ok (.iconst 1, 1) := by decide +kernel
theorem dX10_cellOf_16 : decode cX10_cellOf 16 = .ok (.if_icmp .ne 12, 3) := by decide +kernel
theorem dX10_cellOf_19 : decode cX10_cellOf 19 = .ok (.iload_n 2, 1) := by decide +kernel
theorem dX10_cellOf_20 : decode cX10_cellOf 20 = .ok (.ifCond .ne 5, 3) := by decide +kernel
theorem dX10_cellOf_23 : decode cX10_cellOf 23 = .ok (.iload_n 3, 1) := by decide +kernel
theorem dX10_cellOf_24 : decode cX10_cellOf 24 = .ok (.ireturn, 1) := by decide +kernel
theorem dX10_cellOf_25 : decode cX10_cellOf 25 = .ok (.iinc 2 (-1), 3) := by decide +kernel
theorem dX10_cellOf_28 : decode cX10_cellOf 28 = .ok (.iinc 3 1, 3) := by decide +kernel
theorem dX10_cellOf_31 : decode cX10_cellOf 31 = .ok (.goto (-27), 3) := by decide +kernel
theorem dX10_cellOf_34 : decode cX10_cellOf 34 = .ok (.bipush (-4), 2) := by decide +kernel
theorem dX10_cellOf_36 : decode cX10_cellOf 36 = .ok (.ireturn, 1) := by decide +kernel
/-! X10 cellOf -/
def X10_cellOf_p23 (v3 : Int32) : Option Int32 :=
    some v3
def X10_cellOf_p28 (k4 : Int32 → Int32 → Int32 → Option Int32) (v0 : Int32) (v2 : Int32) (v3 : Int32) : Option Int32 :=
    nm (v3 + (1 : Int32)) fun x_1 =>
    k4 v0 v2 x_1
def X10_cellOf_p4 : Nat → Int32 → Int32 → Int32 → Option Int32
  | 0, _, _, _ => none
  | n + 1, v0, v2, v3 =>
    if (12 : Int32) ≤ v3 then
      (some (-4 : Int32))
    else
    if ((v0 >>> (v3 &&& 31)) &&& (1 : Int32)) = (1 : Int32) then
      (if v2 = 0 then
        (X10_cellOf_p23 v3)
      else
      nm (v2 + (-1 : Int32)) fun x_5 =>
      X10_cellOf_p28 (fun v0 v2 v3 => X10_cellOf_p4  n v0 v2 v3) v0 x_5 v3)
    else
    X10_cellOf_p28 (fun v0 v2 v3 => X10_cellOf_p4  n v0 v2 v3) v0 v2 v3
theorem X10_cellOf_p4_s (n : Nat) (v0 : Int32) (v2 : Int32) (v3 : Int32) : X10_cellOf_p4  (n + 1) v0 v2 v3 =
    (if (12 : Int32) ≤ v3 then
      (some (-4 : Int32))
    else
    if ((v0 >>> (v3 &&& 31)) &&& (1 : Int32)) = (1 : Int32) then
      (if v2 = 0 then
        (X10_cellOf_p23 v3)
      else
      nm (v2 + (-1 : Int32)) fun x_5 =>
      X10_cellOf_p28 (fun v0 v2 v3 => X10_cellOf_p4  n v0 v2 v3) v0 x_5 v3)
    else
    X10_cellOf_p28 (fun v0 v2 v3 => X10_cellOf_p4  n v0 v2 v3) v0 v2 v3) := rfl
def X10_cellOf (v0 : Int32) (v1 : Int32) : Option Int32 :=
    X10_cellOf_p4 13 v0 v1 (0 : Int32)
abbrev rmX10_cellOf : Room := { frames := 0, cells := 0, slots := 0, locals := 0 }
theorem hdX10_cellOf : yX10_cellOf.cls = RX10 ∧ yX10_cellOf.cls ≠ "java/lang/invoke/MethodHandle" ∧ yX10_cellOf.cls ≠ "java/lang/invoke/VarHandle" ∧ (parseMethodDescriptor yX10_cellOf.desc).map (fun d => d.parameters.length) = some 2 := by decide +kernel
set_option maxRecDepth 100000 in
set_option maxHeartbeats 4000000 in
theorem okX10_cellOf (z : Nat → Nat) (l : Launch) (D : va_G) {v0 : Int32} {v1 : Int32} {r : Int32} (heq : X10_cellOf v0 v1 = some r) : hCi z l D [] yX10_cellOf wsX10_cellOf rmX10_cellOf [.int v0, .int v1] [] r [] := by
  refine h_body_i (plainFor_of_name (by decide)) rfl (Nat.le_of_ble_eq_true rfl) (fun p e s m args below meth c A Q hx hb hml hown hts hK hA hX hret ls hP hD hS hl => ?_)
  have hl : lv_has ls 4 [(0, .int v0), (1, .int v1)] := hl
  have b23 : ∀ (v3 : Int32) (H : Heap) (locs : List Loc) (ls : Array Slot), va_P D vwCl [] H → va_D A [] → va_S A s.heap H locs → lv_has ls 4 [(3, .int v3)] → X10_cellOf_p23  v3 = some r → W p l e rmX10_cellOf s m args below meth c H locs 0 0 Q (F0 m 23 ls []) := by
    intro v3 H locs ls hP hD hS hl heq
    unfold X10_cellOf_p23 at heq
    refine lv_iload_n hx hb dX10_cellOf_23 rfl (lv_at hl 0 rfl) ?_
    have heq := Option.some.inj heq
    subst heq
    exact hret 24 H locs ls hP hD hS rfl dX10_cellOf_24
  have b28 : ∀ (k4 : Int32 → Int32 → Int32 → Option Int32) (hk4 : ∀ (v0 : Int32) (v2 : Int32) (v3 : Int32) (H : Heap) (locs : List Loc) (ls : Array Slot), va_P D vwCl [] H → va_D A [] → va_S A s.heap H locs → lv_has ls 4 [(0, .int v0), (2, .int v2), (3, .int v3)] → k4 v0 v2 v3 = some r → W p l e rmX10_cellOf s m args below meth c H locs 0 0 Q (F0 m 4 ls [])), ∀ (v0 : Int32) (v2 : Int32) (v3 : Int32) (H : Heap) (locs : List Loc) (ls : Array Slot), va_P D vwCl [] H → va_D A [] → va_S A s.heap H locs → lv_has ls 4 [(0, .int v0), (2, .int v2), (3, .int v3)] → X10_cellOf_p28 k4 v0 v2 v3 = some r → W p l e rmX10_cellOf s m args below meth c H locs 0 0 Q (F0 m 28 ls []) := by
    intro k4 hk4 v0 v2 v3 H locs ls hP hD hS hl heq
    unfold X10_cellOf_p28 at heq
    obtain ⟨x_1, ex_1⟩ : ∃ y : Int32, y = v3 + (1 : Int32) := ⟨_, rfl⟩
    have heq := nm_h ex_1 heq
    refine lv_iinc (v := x_1) (lv' := [(3, .int x_1), (0, .int v0), (2, .int v2)]) hx hb dX10_cellOf_28 hl (k := 2) rfl (by rw [ex_1]; rfl) (by decide) rfl (fun ls hl => ?_)
    refine lv_goto (tgt := 4) hx hb dX10_cellOf_31 (by decide) ?_
    exact hk4 v0 v2 x_1 H locs ls hP hD hS (lv_sub hl [1, 2, 0] rfl) heq
  have b4 : ∀ (n : Nat), ∀ (v0 : Int32) (v2 : Int32) (v3 : Int32) (H : Heap) (locs : List Loc) (ls : Array Slot), va_P D vwCl [] H → va_D A [] → va_S A s.heap H locs → lv_has ls 4 [(0, .int v0), (2, .int v2), (3, .int v3)] → X10_cellOf_p4  n v0 v2 v3 = some r → W p l e rmX10_cellOf s m args below meth c H locs 0 0 Q (F0 m 4 ls []) := by
    intro n
    induction n with
    | zero => intro v0 v2 v3 H locs ls hP hD hS hl heq; cases heq
    | succ n ih =>
      intro v0 v2 v3 H locs ls hP hD hS hl heq
      rw [X10_cellOf_p4_s] at heq
      refine lv_iload_n hx hb dX10_cellOf_4 rfl (lv_at hl 2 rfl) ?_
      refine lv_bipush (v := (12 : Int32)) hx hb dX10_cellOf_5 (by decide) ?_
      refine lv_icmp_ge (tgt := 34) hx hb dX10_cellOf_7 (by decide) (fun c_2 => ?_) (fun c_2 => ?_)
      · have heq := it_t c_2 heq
        refine lv_bipush (v := (-4 : Int32)) hx hb dX10_cellOf_34 (by decide) ?_
        have heq := Option.some.inj heq
        subst heq
        exact hret 36 H locs ls hP hD hS rfl dX10_cellOf_36
      have heq := it_f c_2 heq
      refine lv_iload_n hx hb dX10_cellOf_10 rfl (lv_at hl 0 rfl) ?_
      refine lv_iload_n hx hb dX10_cellOf_11 rfl (lv_at hl 2 rfl) ?_
      refine lv_ishr hx hb dX10_cellOf_12 ?_
      refine lv_iconst (v := (1 : Int32)) hx hb dX10_cellOf_13 (by decide) ?_
      refine lv_iand hx hb dX10_cellOf_14 ?_
      refine lv_iconst (v := (1 : Int32)) hx hb dX10_cellOf_15 (by decide) ?_
      refine lv_icmp_ne (tgt := 28) hx hb dX10_cellOf_16 (by decide) (fun c_3 => ?_) (fun c_3 => ?_)
      · have heq := it_f c_3 heq
        exact b28 (fun v0 v2 v3 => X10_cellOf_p4  n v0 v2 v3) ih v0 v2 v3 H locs ls hP hD hS (lv_sub hl [0, 1, 2] rfl) heq
      have heq := it_t c_3 heq
      refine lv_iload_n hx hb dX10_cellOf_19 rfl (lv_at hl 1 rfl) ?_
      refine lv_if_ne (tgt := 25) hx hb dX10_cellOf_20 (by decide) (fun c_4 => ?_) (fun c_4 => ?_)
      · have heq := it_f c_4 heq
        obtain ⟨x_5, ex_5⟩ : ∃ y : Int32, y = v2 + (-1 : Int32) := ⟨_, rfl⟩
        have heq := nm_h ex_5 heq
        refine lv_iinc (v := x_5) (lv' := [(2, .int x_5), (0, .int v0), (3, .int v3)]) hx hb dX10_cellOf_25 hl (k := 1) rfl (by rw [ex_5]; rfl) (by decide) rfl (fun ls hl => ?_)
        exact b28 (fun v0 v2 v3 => X10_cellOf_p4  n v0 v2 v3) ih v0 x_5 v3 H locs ls hP hD hS (lv_sub hl [1, 0, 2] rfl) heq
      have heq := it_t c_4 heq
      exact b23 v3 H locs ls hP hD hS (lv_sub hl [2] rfl) heq
  obtain ⟨H, hH⟩ : ∃ H, H = s.heap := ⟨_, rfl⟩
  obtain ⟨locs, hlocs⟩ : ∃ z : List Loc, z = [] := ⟨_, rfl⟩
  have hS : va_S A s.heap H locs := by rw [hH, hlocs]; exact hS
  have hP : va_P D vwCl [] H := by rw [hH]; exact hP
  suffices h9 : W p l e rmX10_cellOf s m args below meth c H locs 0 0 Q (F0 m 0 ls []) by rw [hH, hlocs] at h9; exact h9
  clear hH hlocs
  unfold X10_cellOf at heq
  refine lv_iload_n hx hb dX10_cellOf_0 rfl (lv_at hl 1 rfl) ?_
  refine lv_istore_n (lv' := [(2, .int v1), (0, .int v0), (1, .int v1)]) hx hb dX10_cellOf_1 rfl hl (by decide) rfl (fun ls hl => ?_)
  refine lv_iconst (v := (0 : Int32)) hx hb dX10_cellOf_2 (by decide) ?_
  refine lv_istore_n (lv' := [(3, .int (0 : Int32)), (2, .int v1), (0, .int v0), (1, .int v1)]) hx hb dX10_cellOf_3 rfl hl (by decide) rfl (fun ls hl => ?_)
  exact b4 13 v0 v1 (0 : Int32) H locs ls hP hD hS (lv_sub hl [2, 1, 0] rfl) heq
theorem dX10_digitsBehind_0 : decode cX10_digitsBehind 0 = .ok (.iload_n 0, 1) := by decide +kernel
theorem dX10_digitsBehind_1 : decode cX10_digitsBehind 1 = .ok (.tableswitch 117 97 119 #[111, 117, 107, 117, 117, 115, 109, 109, 117, 117, 117, 107, 117, 111, 113, 117, 117, 117, 117, 117, 117, 117, 107], 107) := by decide +kernel
theorem dX10_digitsBehind_108 : decode cX10_digitsBehind 108 = .ok (.iconst 4, 1) := by decide +kernel
theorem dX10_digitsBehind_109 : decode cX10_digitsBehind 109 = .ok (.ireturn, 1) := by decide +kernel
theorem dX10_digitsBehind_110 : decode cX10_digitsBehind 110 = .ok (.iconst 3, 1) := by decide +kernel
theorem dX10_digitsBehind_111 : decode cX10_digitsBehind 111 = .ok (.ireturn, 1) := by decide +kernel
theorem dX10_digitsBehind_112 : decode cX10_digitsBehind 112 = .ok (.iconst 2, 1) := by decide +kernel
theorem dX10_digitsBehind_113 : decode cX10_digitsBehind 113 = .ok (.ireturn, 1) := by decide +kernel
theorem dX10_digitsBehind_114 : decode cX10_digitsBehind 114 = .ok (.iconst 5, 1) := by decide +kernel
theorem dX10_digitsBehind_115 : decode cX10_digitsBehind 115 = .ok (.ireturn, 1) := by decide +kernel
theorem dX10_digitsBehind_116 : decode cX10_digitsBehind 116 = .ok (.iconst 0, 1) := by decide +kernel
theorem dX10_digitsBehind_117 : decode cX10_digitsBehind 117 = .ok (.ireturn, 1) := by decide +kernel
theorem dX10_digitsBehind_118 : decode cX10_digitsBehind 118 = .ok (.bipush (-4), 2) := by decide +kernel
theorem dX10_digitsBehind_120 : decode cX10_digitsBehind 120 = .ok (.ireturn, 1) := by decide +kernel
/-! X10 digitsBehind -/
def X10_digitsBehind (v0 : Int32) : Option Int32 :=
    if v0 = (97 : Int32) then
      (some (2 : Int32))
    else
    if v0 = (98 : Int32) then
      (some (-4 : Int32))
    else
    if v0 = (99 : Int32) then
      (some (4 : Int32))
    else
    if v0 = (100 : Int32) then
      (some (-4 : Int32))
    else
    if v0 = (101 : Int32) then
      (some (-4 : Int32))
    else
    if v0 = (102 : Int32) then
      (some (0 : Int32))
    else
    if v0 = (103 : Int32) then
      (some (3 : Int32))
    else
    if v0 = (104 : Int32) then
      (some (3 : Int32))
    else
    if v0 = (105 : Int32) then
      (some (-4 : Int32))
    else
    if v0 = (106 : Int32) then
      (some (-4 : Int32))
    else
    if v0 = (107 : Int32) then
      (some (-4 : Int32))
    else
    if v0 = (108 : Int32) then
      (some (4 : Int32))
    else
    if v0 = (109 : Int32) then
      (some (-4 : Int32))
    else
    if v0 = (110 : Int32) then
      (some (2 : Int32))
    else
    if v0 = (111 : Int32) then
      (some (5 : Int32))
    else
    if v0 = (112 : Int32) then
      (some (-4 : Int32))
    else
    if v0 = (113 : Int32) then
      (some (-4 : Int32))
    else
    if v0 = (114 : Int32) then
      (some (-4 : Int32))
    else
    if v0 = (115 : Int32) then
      (some (-4 : Int32))
    else
    if v0 = (116 : Int32) then
      (some (-4 : Int32))
    else
    if v0 = (117 : Int32) then
      (some (-4 : Int32))
    else
    if v0 = (118 : Int32) then
      (some (-4 : Int32))
    else
    if v0 = (119 : Int32) then
      (some (4 : Int32))
    else
    some (-4 : Int32)
abbrev rmX10_digitsBehind : Room := { frames := 0, cells := 0, slots := 0, locals := 0 }
theorem hdX10_digitsBehind : yX10_digitsBehind.cls = RX10 ∧ yX10_digitsBehind.cls ≠ "java/lang/invoke/MethodHandle" ∧ yX10_digitsBehind.cls ≠ "java/lang/invoke/VarHandle" ∧ (parseMethodDescriptor yX10_digitsBehind.desc).map (fun d => d.parameters.length) = some 1 := by decide +kernel
set_option maxRecDepth 100000 in
set_option maxHeartbeats 4000000 in
theorem okX10_digitsBehind (z : Nat → Nat) (l : Launch) (D : va_G) {v0 : Int32} {r : Int32} (heq : X10_digitsBehind v0 = some r) : hCi z l D [] yX10_digitsBehind wsX10_digitsBehind rmX10_digitsBehind [.int v0] [] r [] := by
  refine h_body_i (plainFor_of_name (by decide)) rfl (Nat.le_of_ble_eq_true rfl) (fun p e s m args below meth c A Q hx hb hml hown hts hK hA hX hret ls hP hD hS hl => ?_)
  have hl : lv_has ls 1 [(0, .int v0)] := hl
  obtain ⟨H, hH⟩ : ∃ H, H = s.heap := ⟨_, rfl⟩
  obtain ⟨locs, hlocs⟩ : ∃ z : List Loc, z = [] := ⟨_, rfl⟩
  have hS : va_S A s.heap H locs := by rw [hH, hlocs]; exact hS
  have hP : va_P D vwCl [] H := by rw [hH]; exact hP
  suffices h9 : W p l e rmX10_digitsBehind s m args below meth c H locs 0 0 Q (F0 m 0 ls []) by rw [hH, hlocs] at h9; exact h9
  clear hH hlocs
  unfold X10_digitsBehind at heq
  refine lv_iload_n hx hb dX10_digitsBehind_0 rfl (lv_at hl 0 rfl) ?_
  by_cases c_1 : v0 = (97 : Int32)
  · have heq := it_t c_1 heq
    refine lv_tableIn (tgt := 112) hx hb dX10_digitsBehind_1 (by rw [c_1]; decide) (by rw [c_1]; decide) (by rw [c_1]; rfl) (by decide) ?_
    refine lv_iconst (v := (2 : Int32)) hx hb dX10_digitsBehind_112 (by decide) ?_
    have heq := Option.some.inj heq
    subst heq
    exact hret 113 H locs ls hP hD hS rfl dX10_digitsBehind_113
  have heq := it_f c_1 heq
  by_cases c_2 : v0 = (98 : Int32)
  · have heq := it_t c_2 heq
    refine lv_tableIn (tgt := 118) hx hb dX10_digitsBehind_1 (by rw [c_2]; decide) (by rw [c_2]; decide) (by rw [c_2]; rfl) (by decide) ?_
    refine lv_bipush (v := (-4 : Int32)) hx hb dX10_digitsBehind_118 (by decide) ?_
    have heq := Option.some.inj heq
    subst heq
    exact hret 120 H locs ls hP hD hS rfl dX10_digitsBehind_120
  have heq := it_f c_2 heq
  by_cases c_3 : v0 = (99 : Int32)
  · have heq := it_t c_3 heq
    refine lv_tableIn (tgt := 108) hx hb dX10_digitsBehind_1 (by rw [c_3]; decide) (by rw [c_3]; decide) (by rw [c_3]; rfl) (by decide) ?_
    refine lv_iconst (v := (4 : Int32)) hx hb dX10_digitsBehind_108 (by decide) ?_
    have heq := Option.some.inj heq
    subst heq
    exact hret 109 H locs ls hP hD hS rfl dX10_digitsBehind_109
  have heq := it_f c_3 heq
  by_cases c_4 : v0 = (100 : Int32)
  · have heq := it_t c_4 heq
    refine lv_tableIn (tgt := 118) hx hb dX10_digitsBehind_1 (by rw [c_4]; decide) (by rw [c_4]; decide) (by rw [c_4]; rfl) (by decide) ?_
    refine lv_bipush (v := (-4 : Int32)) hx hb dX10_digitsBehind_118 (by decide) ?_
    have heq := Option.some.inj heq
    subst heq
    exact hret 120 H locs ls hP hD hS rfl dX10_digitsBehind_120
  have heq := it_f c_4 heq
  by_cases c_5 : v0 = (101 : Int32)
  · have heq := it_t c_5 heq
    refine lv_tableIn (tgt := 118) hx hb dX10_digitsBehind_1 (by rw [c_5]; decide) (by rw [c_5]; decide) (by rw [c_5]; rfl) (by decide) ?_
    refine lv_bipush (v := (-4 : Int32)) hx hb dX10_digitsBehind_118 (by decide) ?_
    have heq := Option.some.inj heq
    subst heq
    exact hret 120 H locs ls hP hD hS rfl dX10_digitsBehind_120
  have heq := it_f c_5 heq
  by_cases c_6 : v0 = (102 : Int32)
  · have heq := it_t c_6 heq
    refine lv_tableIn (tgt := 116) hx hb dX10_digitsBehind_1 (by rw [c_6]; decide) (by rw [c_6]; decide) (by rw [c_6]; rfl) (by decide) ?_
    refine lv_iconst (v := (0 : Int32)) hx hb dX10_digitsBehind_116 (by decide) ?_
    have heq := Option.some.inj heq
    subst heq
    exact hret 117 H locs ls hP hD hS rfl dX10_digitsBehind_117
  have heq := it_f c_6 heq
  by_cases c_7 : v0 = (103 : Int32)
  · have heq := it_t c_7 heq
    refine lv_tableIn (tgt := 110) hx hb dX10_digitsBehind_1 (by rw [c_7]; decide) (by rw [c_7]; decide) (by rw [c_7]; rfl) (by decide) ?_
    refine lv_iconst (v := (3 : Int32)) hx hb dX10_digitsBehind_110 (by decide) ?_
    have heq := Option.some.inj heq
    subst heq
    exact hret 111 H locs ls hP hD hS rfl dX10_digitsBehind_111
  have heq := it_f c_7 heq
  by_cases c_8 : v0 = (104 : Int32)
  · have heq := it_t c_8 heq
    refine lv_tableIn (tgt := 110) hx hb dX10_digitsBehind_1 (by rw [c_8]; decide) (by rw [c_8]; decide) (by rw [c_8]; rfl) (by decide) ?_
    refine lv_iconst (v := (3 : Int32)) hx hb dX10_digitsBehind_110 (by decide) ?_
    have heq := Option.some.inj heq
    subst heq
    exact hret 111 H locs ls hP hD hS rfl dX10_digitsBehind_111
  have heq := it_f c_8 heq
  by_cases c_9 : v0 = (105 : Int32)
  · have heq := it_t c_9 heq
    refine lv_tableIn (tgt := 118) hx hb dX10_digitsBehind_1 (by rw [c_9]; decide) (by rw [c_9]; decide) (by rw [c_9]; rfl) (by decide) ?_
    refine lv_bipush (v := (-4 : Int32)) hx hb dX10_digitsBehind_118 (by decide) ?_
    have heq := Option.some.inj heq
    subst heq
    exact hret 120 H locs ls hP hD hS rfl dX10_digitsBehind_120
  have heq := it_f c_9 heq
  by_cases c_10 : v0 = (106 : Int32)
  · have heq := it_t c_10 heq
    refine lv_tableIn (tgt := 118) hx hb dX10_digitsBehind_1 (by rw [c_10]; decide) (by rw [c_10]; decide) (by rw [c_10]; rfl) (by decide) ?_
    refine lv_bipush (v := (-4 : Int32)) hx hb dX10_digitsBehind_118 (by decide) ?_
    have heq := Option.some.inj heq
    subst heq
    exact hret 120 H locs ls hP hD hS rfl dX10_digitsBehind_120
  have heq := it_f c_10 heq
  by_cases c_11 : v0 = (107 : Int32)
  · have heq := it_t c_11 heq
    refine lv_tableIn (tgt := 118) hx hb dX10_digitsBehind_1 (by rw [c_11]; decide) (by rw [c_11]; decide) (by rw [c_11]; rfl) (by decide) ?_
    refine lv_bipush (v := (-4 : Int32)) hx hb dX10_digitsBehind_118 (by decide) ?_
    have heq := Option.some.inj heq
    subst heq
    exact hret 120 H locs ls hP hD hS rfl dX10_digitsBehind_120
  have heq := it_f c_11 heq
  by_cases c_12 : v0 = (108 : Int32)
  · have heq := it_t c_12 heq
    refine lv_tableIn (tgt := 108) hx hb dX10_digitsBehind_1 (by rw [c_12]; decide) (by rw [c_12]; decide) (by rw [c_12]; rfl) (by decide) ?_
    refine lv_iconst (v := (4 : Int32)) hx hb dX10_digitsBehind_108 (by decide) ?_
    have heq := Option.some.inj heq
    subst heq
    exact hret 109 H locs ls hP hD hS rfl dX10_digitsBehind_109
  have heq := it_f c_12 heq
  by_cases c_13 : v0 = (109 : Int32)
  · have heq := it_t c_13 heq
    refine lv_tableIn (tgt := 118) hx hb dX10_digitsBehind_1 (by rw [c_13]; decide) (by rw [c_13]; decide) (by rw [c_13]; rfl) (by decide) ?_
    refine lv_bipush (v := (-4 : Int32)) hx hb dX10_digitsBehind_118 (by decide) ?_
    have heq := Option.some.inj heq
    subst heq
    exact hret 120 H locs ls hP hD hS rfl dX10_digitsBehind_120
  have heq := it_f c_13 heq
  by_cases c_14 : v0 = (110 : Int32)
  · have heq := it_t c_14 heq
    refine lv_tableIn (tgt := 112) hx hb dX10_digitsBehind_1 (by rw [c_14]; decide) (by rw [c_14]; decide) (by rw [c_14]; rfl) (by decide) ?_
    refine lv_iconst (v := (2 : Int32)) hx hb dX10_digitsBehind_112 (by decide) ?_
    have heq := Option.some.inj heq
    subst heq
    exact hret 113 H locs ls hP hD hS rfl dX10_digitsBehind_113
  have heq := it_f c_14 heq
  by_cases c_15 : v0 = (111 : Int32)
  · have heq := it_t c_15 heq
    refine lv_tableIn (tgt := 114) hx hb dX10_digitsBehind_1 (by rw [c_15]; decide) (by rw [c_15]; decide) (by rw [c_15]; rfl) (by decide) ?_
    refine lv_iconst (v := (5 : Int32)) hx hb dX10_digitsBehind_114 (by decide) ?_
    have heq := Option.some.inj heq
    subst heq
    exact hret 115 H locs ls hP hD hS rfl dX10_digitsBehind_115
  have heq := it_f c_15 heq
  by_cases c_16 : v0 = (112 : Int32)
  · have heq := it_t c_16 heq
    refine lv_tableIn (tgt := 118) hx hb dX10_digitsBehind_1 (by rw [c_16]; decide) (by rw [c_16]; decide) (by rw [c_16]; rfl) (by decide) ?_
    refine lv_bipush (v := (-4 : Int32)) hx hb dX10_digitsBehind_118 (by decide) ?_
    have heq := Option.some.inj heq
    subst heq
    exact hret 120 H locs ls hP hD hS rfl dX10_digitsBehind_120
  have heq := it_f c_16 heq
  by_cases c_17 : v0 = (113 : Int32)
  · have heq := it_t c_17 heq
    refine lv_tableIn (tgt := 118) hx hb dX10_digitsBehind_1 (by rw [c_17]; decide) (by rw [c_17]; decide) (by rw [c_17]; rfl) (by decide) ?_
    refine lv_bipush (v := (-4 : Int32)) hx hb dX10_digitsBehind_118 (by decide) ?_
    have heq := Option.some.inj heq
    subst heq
    exact hret 120 H locs ls hP hD hS rfl dX10_digitsBehind_120
  have heq := it_f c_17 heq
  by_cases c_18 : v0 = (114 : Int32)
  · have heq := it_t c_18 heq
    refine lv_tableIn (tgt := 118) hx hb dX10_digitsBehind_1 (by rw [c_18]; decide) (by rw [c_18]; decide) (by rw [c_18]; rfl) (by decide) ?_
    refine lv_bipush (v := (-4 : Int32)) hx hb dX10_digitsBehind_118 (by decide) ?_
    have heq := Option.some.inj heq
    subst heq
    exact hret 120 H locs ls hP hD hS rfl dX10_digitsBehind_120
  have heq := it_f c_18 heq
  by_cases c_19 : v0 = (115 : Int32)
  · have heq := it_t c_19 heq
    refine lv_tableIn (tgt := 118) hx hb dX10_digitsBehind_1 (by rw [c_19]; decide) (by rw [c_19]; decide) (by rw [c_19]; rfl) (by decide) ?_
    refine lv_bipush (v := (-4 : Int32)) hx hb dX10_digitsBehind_118 (by decide) ?_
    have heq := Option.some.inj heq
    subst heq
    exact hret 120 H locs ls hP hD hS rfl dX10_digitsBehind_120
  have heq := it_f c_19 heq
  by_cases c_20 : v0 = (116 : Int32)
  · have heq := it_t c_20 heq
    refine lv_tableIn (tgt := 118) hx hb dX10_digitsBehind_1 (by rw [c_20]; decide) (by rw [c_20]; decide) (by rw [c_20]; rfl) (by decide) ?_
    refine lv_bipush (v := (-4 : Int32)) hx hb dX10_digitsBehind_118 (by decide) ?_
    have heq := Option.some.inj heq
    subst heq
    exact hret 120 H locs ls hP hD hS rfl dX10_digitsBehind_120
  have heq := it_f c_20 heq
  by_cases c_21 : v0 = (117 : Int32)
  · have heq := it_t c_21 heq
    refine lv_tableIn (tgt := 118) hx hb dX10_digitsBehind_1 (by rw [c_21]; decide) (by rw [c_21]; decide) (by rw [c_21]; rfl) (by decide) ?_
    refine lv_bipush (v := (-4 : Int32)) hx hb dX10_digitsBehind_118 (by decide) ?_
    have heq := Option.some.inj heq
    subst heq
    exact hret 120 H locs ls hP hD hS rfl dX10_digitsBehind_120
  have heq := it_f c_21 heq
  by_cases c_22 : v0 = (118 : Int32)
  · have heq := it_t c_22 heq
    refine lv_tableIn (tgt := 118) hx hb dX10_digitsBehind_1 (by rw [c_22]; decide) (by rw [c_22]; decide) (by rw [c_22]; rfl) (by decide) ?_
    refine lv_bipush (v := (-4 : Int32)) hx hb dX10_digitsBehind_118 (by decide) ?_
    have heq := Option.some.inj heq
    subst heq
    exact hret 120 H locs ls hP hD hS rfl dX10_digitsBehind_120
  have heq := it_f c_22 heq
  by_cases c_23 : v0 = (119 : Int32)
  · have heq := it_t c_23 heq
    refine lv_tableIn (tgt := 108) hx hb dX10_digitsBehind_1 (by rw [c_23]; decide) (by rw [c_23]; decide) (by rw [c_23]; rfl) (by decide) ?_
    refine lv_iconst (v := (4 : Int32)) hx hb dX10_digitsBehind_108 (by decide) ?_
    have heq := Option.some.inj heq
    subst heq
    exact hret 109 H locs ls hP hD hS rfl dX10_digitsBehind_109
  have heq := it_f c_23 heq
  refine lv_tableOut (tgt := 118) hx hb dX10_digitsBehind_1 (sw_out fun k h1 h2 => ?_) (by decide) ?_
  · rcases (show k = 97 ∨ k = 98 ∨ k = 99 ∨ k = 100 ∨ k = 101 ∨ k = 102 ∨ k = 103 ∨ k = 104 ∨ k = 105 ∨ k = 106 ∨ k = 107 ∨ k = 108 ∨ k = 109 ∨ k = 110 ∨ k = 111 ∨ k = 112 ∨ k = 113 ∨ k = 114 ∨ k = 115 ∨ k = 116 ∨ k = 117 ∨ k = 118 ∨ k = 119 by omega) with rfl | rfl | rfl | rfl | rfl | rfl | rfl | rfl | rfl | rfl | rfl | rfl | rfl | rfl | rfl | rfl | rfl | rfl | rfl | rfl | rfl | rfl | rfl
    · exact c_1
    · exact c_2
    · exact c_3
    · exact c_4
    · exact c_5
    · exact c_6
    · exact c_7
    · exact c_8
    · exact c_9
    · exact c_10
    · exact c_11
    · exact c_12
    · exact c_13
    · exact c_14
    · exact c_15
    · exact c_16
    · exact c_17
    · exact c_18
    · exact c_19
    · exact c_20
    · exact c_21
    · exact c_22
    · exact c_23
  refine lv_bipush (v := (-4 : Int32)) hx hb dX10_digitsBehind_118 (by decide) ?_
  have heq := Option.some.inj heq
  subst heq
  exact hret 120 H locs ls hP hD hS rfl dX10_digitsBehind_120
set_option maxRecDepth 20000 in
theorem ggX10_lengthOf_X10_digitsBehind : GoodIn wsX10_lengthOf wsX10_digitsBehind := goodIn_r _ [8] (by decide +kernel) (by decide +kernel)
set_option maxRecDepth 20000 in
theorem gX10_lengthOf_X10_digitsBehind : GoodIn wsX10_lengthOf (va_wsS RX10 325 yX10_digitsBehind wsX10_digitsBehind) := goodIn_app (goodIn_of _ (by decide +kernel)) ggX10_lengthOf_X10_digitsBehind
theorem dX10_lengthOf_0 : decode cX10_lengthOf 0 = .ok (.iconst 0, 1) := by decide +kernel
theorem dX10_lengthOf_1 : decode cX10_lengthOf 1 = .ok (.iload_n 0, 1) := by decide +kernel
theorem dX10_lengthOf_2 : decode cX10_lengthOf 2 = .ok (.invokestatic 325, 3) := by decide +kernel
theorem dX10_lengthOf_5 : decode cX10_lengthOf 5 = .ok (.invokestatic 238, 3) := by decide +kernel
theorem dX10_lengthOf_8 : decode cX10_lengthOf 8 = .ok (.iconst 2, 1) := by decide +kernel
theorem dX10_lengthOf_9 : decode cX10_lengthOf 9 = .ok (.iadd, 1) := by decide +kernel
theorem dX10_lengthOf_10 : decode cX10_lengthOf 10 = .ok (.ireturn, 1) := by decide +kernel
/-! X10 lengthOf -/
def X10_lengthOf (v0 : Int32) : Option Int32 :=
    bd1 (X10_digitsBehind v0) fun y_1 =>
    nm (if (0 : Int32) < y_1 then y_1 else (0 : Int32)) fun x_3 =>
    some (x_3 + (2 : Int32))
abbrev rmX10_lengthOf : Room := { frames := 1, cells := 0, slots := 0, locals := 21 }
theorem hdX10_lengthOf : yX10_lengthOf.cls = RX10 ∧ yX10_lengthOf.cls ≠ "java/lang/invoke/MethodHandle" ∧ yX10_lengthOf.cls ≠ "java/lang/invoke/VarHandle" ∧ (parseMethodDescriptor yX10_lengthOf.desc).map (fun d => d.parameters.length) = some 1 := by decide +kernel
set_option maxRecDepth 100000 in
set_option maxHeartbeats 4000000 in
theorem okX10_lengthOf (z : Nat → Nat) (l : Launch) (D : va_G) {v0 : Int32} {r : Int32} (heq : X10_lengthOf v0 = some r) : hCi z l D [] yX10_lengthOf wsX10_lengthOf rmX10_lengthOf [.int v0] [] r [] := by
  refine h_body_i (plainFor_of_name (by decide)) rfl (Nat.le_of_ble_eq_true rfl) (fun p e s m args below meth c A Q hx hb hml hown hts hK hA hX hret ls hP hD hS hl => ?_)
  have hl : lv_has ls 1 [(0, .int v0)] := hl
  have m238_0 := hts (.methodLink RX10 238 Lib.Math.max.name) (by decide +kernel)
  have m238_1 := hts (.static Lib.Math.max.name) (by decide +kernel)
  have m238_2 := hts (.initialized "java/lang/Math") (by decide +kernel)
  have m238_3 := hts (.code Lib.Math.max.name Lib.Math.max.code 2 (some .int)) (by decide +kernel)
  obtain ⟨H, hH⟩ : ∃ H, H = s.heap := ⟨_, rfl⟩
  obtain ⟨locs, hlocs⟩ : ∃ z : List Loc, z = [] := ⟨_, rfl⟩
  have hS : va_S A s.heap H locs := by rw [hH, hlocs]; exact hS
  have hP : va_P D vwCl [] H := by rw [hH]; exact hP
  suffices h9 : W p l e rmX10_lengthOf s m args below meth c H locs 0 0 Q (F0 m 0 ls []) by rw [hH, hlocs] at h9; exact h9
  clear hH hlocs
  unfold X10_lengthOf at heq
  refine lv_iconst (v := (0 : Int32)) hx hb dX10_lengthOf_0 (by decide) ?_
  refine lv_iload_n hx hb dX10_lengthOf_1 rfl (lv_at hl 0 rfl) ?_
  obtain ⟨y_1, h_2, heq⟩ := bd1_h heq
  refine h_si (own := RX10) (As := [.int v0]) (rest := [.int (0 : Int32)]) (w0 := []) (w1 := []) (wr := []) hx hb hml hown hts (okX10_digitsBehind z l D h_2) (va_cwS 1 hts gX10_lengthOf_X10_digitsBehind rfl rfl rfl (hdX10_digitsBehind).2 ⟨Nat.le_of_ble_eq_true rfl, Nat.le_of_ble_eq_true rfl⟩) (hK.sub [] rfl) hA hX hP hD hS (List.Perm.refl _) (List.Perm.refl _) rfl hl.1 rfl (Nat.le_of_ble_eq_true rfl) dX10_lengthOf_2 ⟨Nat.le_of_ble_eq_true rfl, Nat.le_of_ble_eq_true rfl⟩ (fun H locs hP hD hS => ?_)
  refine va_mmax hx hb (hml.trans hl.1.symm) hown m238_0 m238_1 m238_2 m238_3 (Nat.le_of_ble_eq_true rfl) (Nat.le_of_ble_eq_true rfl) (Nat.le_of_ble_eq_true rfl) (Nat.le_of_ble_eq_true rfl) dX10_lengthOf_5 ?_
  refine lv_topi (fun x_3 ex_3 => ?_)
  have heq := nm_h ex_3 heq
  refine lv_iconst (v := (2 : Int32)) hx hb dX10_lengthOf_8 (by decide) ?_
  refine lv_iadd hx hb dX10_lengthOf_9 ?_
  have heq := Option.some.inj heq
  subst heq
  exact hret 10 H locs ls hP hD hS rfl dX10_lengthOf_10
