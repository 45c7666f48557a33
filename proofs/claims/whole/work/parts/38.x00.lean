theorem dX8_takeFrom_0 : decode cX8_takeFrom 0 = .ok (.iconst 0, 1) := by decide +kernel
theorem dX8_takeFrom_1 : decode cX8_takeFrom 1 = .ok (.istore_n 2, 1) := by decide +kernel
theorem dX8_takeFrom_2 : decode cX8_takeFrom 2 = .ok (.iload_n 2, 1) := by decide +kernel
theorem dX8_takeFrom_3 : decode cX8_takeFrom 3 = .ok (.bipush 12, 2) := by decide +kernel
theorem dX8_takeFrom_5 : decode cX8_takeFrom 5 = .ok (.if_icmp .ge 45, 3) := by decide +kernel
theorem dX8_takeFrom_8 : decode cX8_takeFrom 8 = .ok (.aload_n 0, 1) := by decide +kernel
theorem dX8_takeFrom_9 : decode cX8_takeFrom 9 = .ok (.getfield 11, 3) := by decide +kernel
theorem dX8_takeFrom_12 : decode cX8_takeFrom 12 = .ok (.iload_n 2, 1) := by decide +kernel
theorem dX8_takeFrom_13 : decode cX8_takeFrom 13 = .ok (.aload_n 1, 1) := by decide +kernel
theorem dX8_takeFrom_14 : decode cX8_takeFrom 14 = .ok (.getfield 11, 3) := by decide +kernel
theorem dX8_takeFrom_17 : decode cX8_takeFrom 17 = .ok (.iload_n 2, 1) := by decide +kernel
theorem dX8_takeFrom_18 : decode cX8_takeFrom 18 = .ok (.aaload, 1) := by decide +kernel
theorem dX8_takeFrom_19 : decode cX8_takeFrom 19 = .ok (.aastore, 1) := by decide +kernel
theorem dX8_takeFrom_20 : decode cX8_takeFrom 20 = .ok (.aload_n 0, 1) := by decide +kernel
theorem dX8_takeFrom_21 : decode cX8_takeFrom 21 = .ok (.getfield 17, 3) := by decide +kernel
theorem dX8_takeFrom_24 : decode cX8_takeFrom 24 = .ok (.iload_n 2, 1) := by decide +kernel
theorem dX8_takeFrom_25 : decode cX8_takeFrom 25 = .ok (.aload_n 1, 1) := by decide +kernel
theorem dX8_takeFrom_26 : decode cX8_takeFrom 26 = .ok (.getfield 17, 3) := by decide +kernel
theorem dX8_takeFrom_29 : decode cX8_takeFrom 29 = .ok (.iload_n 2, 1) := by decide +kernel
theorem dX8_takeFrom_30 : decode cX8_takeFrom 30 = .ok (.iaload, 1) := by decide +kernel
theorem dX8_takeFrom_31 : decode cX8_takeFrom 31 = .ok (.iastore, 1) := by decide +kernel
theorem dX8_takeFrom_32 : decode cX8_takeFrom 32 = .ok (.aload_n 0, 1) := by decide +kernel
theorem dX8_takeFrom_33 : decode cX8_takeFrom 33 = .ok (.getfield 21, 3) := by decide +kernel
theorem dX8_takeFrom_36 : decode cX8_takeFrom 36 = .ok (.iload_n 2, 1) := by decide +kernel
theorem dX8_takeFrom_37 : decode cX8_takeFrom 37 = .ok (.aload_n 1, 1) := by decide +kernel
theorem dX8_takeFrom_38 : decode cX8_takeFrom 38 = .ok (.getfield 21, 3) := by decide +kernel
theorem dX8_takeFrom_41 : decode cX8_takeFrom 41 = .ok (.iload_n 2, 1) := by decide +kernel
theorem dX8_takeFrom_42 : decode cX8_takeFrom 42 = .ok (.iaload, 1) := by decide +kernel
theorem dX8_takeFrom_43 : decode cX8_takeFrom 43 = .ok (.iastore, 1) := by decide +kernel
theorem dX8_takeFrom_44 : decode cX8_takeFrom 44 = .ok (.iinc 2 1, 3) := by decide +kernel
theorem dX8_takeFrom_47 : decode cX8_takeFrom 47 = .ok (.goto (-45), 3) := by decide +kernel
theorem dX8_takeFrom_50 : decode cX8_takeFrom 50 = .ok (.iconst 0, 1) := by decide +kernel
theorem dX8_takeFrom_51 : decode cX8_takeFrom 51 = .ok (.istore_n 2, 1) := by decide +kernel
theorem dX8_takeFrom_52 : decode cX8_takeFrom 52 = .ok (.iload_n 2, 1) := by decide +kernel
theorem dX8_takeFrom_53 : decode cX8_takeFrom 53 = .ok (.bipush 7, 2) := by decide +kernel
theorem dX8_takeFrom_55 : decode cX8_takeFrom 55 = .ok (.if_icmp .ge 21, 3) := by decide +kernel
theorem dX8_takeFrom_58 : decode cX8_takeFrom 58 = .ok (.aload_n 0, 1) := by decide +kernel
theorem dX8_takeFrom_59 : decode cX8_takeFrom 59 = .ok (.getfield 24, 3) := by decide +kernel
theorem dX8_takeFrom_62 : decode cX8_takeFrom 62 = .ok (.iload_n 2, 1) := by decide +kernel
theorem dX8_takeFrom_63 : decode cX8_takeFrom 63 = .ok (.aload_n 1, 1) := by decide +kernel
theorem dX8_takeFrom_64 : decode cX8_takeFrom 64 = .ok (.getfield 24, 3) := by decide +kernel
theorem dX8_takeFrom_67 : decode cX8_takeFrom 67 = .ok (.iload_n 2, 1) := by decide +kernel
theorem dX8_takeFrom_68 : decode cX8_takeFrom 68 = .ok (.iaload, 1) := by decide +kernel
theorem dX8_takeFrom_69 : decode cX8_takeFrom 69 = .ok (.iastore, 1) := by decide +kernel
theorem dX8_takeFrom_70 : decode cX8_takeFrom 70 = .ok (.iinc 2 1, 3) := by decide +kernel
theorem dX8_takeFrom_73 : decode cX8_takeFrom 73 = .ok (.goto (-21), 3) := by decide +kernel
theorem dX8_takeFrom_76 : decode cX8_takeFrom 76 = .ok (.iconst 0, 1) := by decide +kernel
theorem dX8_takeFrom_77 : decode cX8_takeFrom 77 = .ok (.istore_n 2, 1) := by decide +kernel
theorem dX8_takeFrom_78 : decode cX8_takeFrom 78 = .ok (.iload_n 2, 1) := by decide +kernel
theorem dX8_takeFrom_79 : decode cX8_takeFrom 79 = .ok (.bipush 6, 2) := by decide +kernel
theorem dX8_takeFrom_81 : decode cX8_takeFrom 81 = .ok (.if_icmp .ge 33, 3) := by decide +kernel
theorem dX8_takeFrom_84 : decode cX8_takeFrom 84 = .ok (.aload_n 0, 1) := by decide +kernel
theorem dX8_takeFrom_85 : decode cX8_takeFrom 85 = .ok (.getfield 27, 3) := by decide +kernel
theorem dX8_takeFrom_88 : decode cX8_takeFrom 88 = .ok (.iload_n 2, 1) := by decide +kernel
theorem dX8_takeFrom_89 : decode cX8_takeFrom 89 = .ok (.aload_n 1, 1) := by decide +kernel
theorem dX8_takeFrom_90 : decode cX8_takeFrom 90 = .ok (.getfield 27, 3) := by decide +kernel
theorem dX8_takeFrom_93 : decode cX8_takeFrom 93 = .ok (.iload_n 2, 1) := by decide +kernel
theorem dX8_takeFrom_94 : decode cX8_takeFrom 94 = .ok (.iaload, 1) := by decide +kernel
theorem dX8_takeFrom_95 : decode cX8_takeFrom 95 = .ok (.iastore, 1) := by decide +kernel
theorem dX8_takeFrom_96 : decode cX8_takeFrom 96 = .ok (.aload_n 0, 1) := by decide +kernel
theorem dX8_takeFrom_97 : decode cX8_takeFrom 97 = .ok (.getfield 30, 3) := by decide +kernel
theorem dX8_takeFrom_100 : decode cX8_takeFrom 100 = .ok (.iload_n 2, 1) := by decide +kernel
theorem dX8_takeFrom_101 : decode cX8_takeFrom 101 = .ok (.aload_n 1, 1) := by decide +kernel
theorem dX8_takeFrom_102 : decode cX8_takeFrom 102 = .ok (.getfield 30, 3) := by decide +kernel
theorem dX8_takeFrom_105 : decode cX8_takeFrom 105 = .ok (.iload_n 2, 1) := by decide +kernel
theorem dX8_takeFrom_106 : decode cX8_takeFrom 106 = .ok (.iaload, 1) := by decide +kernel
theorem dX8_takeFrom_107 : decode cX8_takeFrom 107 = .ok (.iastore, 1) := by decide +kernel
theorem dX8_takeFrom_108 : decode cX8_takeFrom 108 = .ok (.iinc 2 1, 3) := by decide +kernel
theorem dX8_takeFrom_111 : decode cX8_takeFrom 111 = .ok (.goto (-33), 3) := by decide +kernel
theorem dX8_takeFrom_114 : decode cX8_takeFrom 114 = .ok (.aload_n 0, 1) := by decide +kernel
theorem dX8_takeFrom_115 : decode cX8_takeFrom 115 = .ok (.aload_n 1, 1) := by decide +kernel
theorem dX8_takeFrom_116 : decode cX8_takeFrom 116 = .ok (.getfield 40, 3) := by decide +kernel
theorem dX8_takeFrom_119 : decode cX8_takeFrom 119 = .ok (.putfield 40, 3) := by decide +kernel
theorem dX8_takeFrom_122 : decode cX8_takeFrom 122 = .ok (.aload_n 0, 1) := by decide +kernel
theorem dX8_takeFrom_123 : decode cX8_takeFrom 123 = .ok (.aload_n 1, 1) := by decide +kernel
theorem dX8_takeFrom_124 : decode cX8_takeFrom 124 = .ok (.getfield 43, 3) := by decide +kernel
theorem dX8_takeFrom_127 : decode cX8_takeFrom 127 = .ok (.putfield 43, 3) := by decide +kernel
theorem dX8_takeFrom_130 : decode cX8_takeFrom 130 = .ok (.aload_n 0, 1) := by decide +kernel
theorem dX8_takeFrom_131 : decode cX8_takeFrom 131 = .ok (.aload_n 1, 1) := by decide +kernel
theorem dX8_takeFrom_132 : decode cX8_takeFrom 132 = .ok (.getfield 47, 3) := by decide +kernel
theorem dX8_takeFrom_135 : decode cX8_takeFrom 135 = .ok (.putfield 47, 3) := by decide +kernel
theorem dX8_takeFrom_138 : decode cX8_takeFrom 138 = .ok (.aload_n 0, 1) := by decide +kernel
theorem dX8_takeFrom_139 : decode cX8_takeFrom 139 = .ok (.aload_n 1, 1) := by decide +kernel
theorem dX8_takeFrom_140 : decode cX8_takeFrom 140 = .ok (.getfield 36, 3) := by decide +kernel
theorem dX8_takeFrom_143 : decode cX8_takeFrom 143 = .ok (.putfield 36, 3) := by decide +kernel
theorem dX8_takeFrom_146 : decode cX8_takeFrom 146 = .ok (.return_, 1) := by decide +kernel
/-! X8 takeFrom_1_0 -/
def X8_takeFrom_1_0_p114 (xs : XS) : Option (Unit × XS) :=
    nm (uT xs 1 (sF (xT xs 1) 6 (gF (xT xs 0) 6))) fun xs_1 =>
    gz (gF (xT xs_1 0) 7) <|
    nm (uT xs_1 1 (sF (xT xs_1 1) 7 (gF (xT xs_1 0) 7))) fun xs_3 =>
    nm (uT xs_3 1 (sF (xT xs_3 1) 8 (gF (xT xs_3 0) 8))) fun xs_4 =>
    nm (uT xs_4 1 (sF (xT xs_4 1) 9 (gF (xT xs_4 0) 9))) fun xs_5 =>
    some ((), xs_5)
def X8_takeFrom_1_0_p78 : Nat → XS → Int32 → Option (Unit × XS)
  | 0, _, _ => none
  | n + 1, xs, v2 =>
    if (6 : Int32) ≤ v2 then
      (X8_takeFrom_1_0_p114 xs)
    else
    inr v2 6 <|
    inr v2 6 <|
    nm (uT xs 1 (sA (xT xs 1) 4 v2.toNatClampNeg (gA (xT xs 0) 4 v2.toNatClampNeg))) fun xs_9 =>
    inr v2 6 <|
    inr v2 6 <|
    nm (uT xs_9 1 (sA (xT xs_9 1) 5 v2.toNatClampNeg (gA (xT xs_9 0) 5 v2.toNatClampNeg))) fun xs_12 =>
    nm (v2 + (1 : Int32)) fun x_13 =>
    X8_takeFrom_1_0_p78 n xs_12 x_13
theorem X8_takeFrom_1_0_p78_s (n : Nat) (xs : XS) (v2 : Int32) : X8_takeFrom_1_0_p78 (n + 1) xs v2 =
    (if (6 : Int32) ≤ v2 then
      (X8_takeFrom_1_0_p114 xs)
    else
    inr v2 6 <|
    inr v2 6 <|
    nm (uT xs 1 (sA (xT xs 1) 4 v2.toNatClampNeg (gA (xT xs 0) 4 v2.toNatClampNeg))) fun xs_9 =>
    inr v2 6 <|
    inr v2 6 <|
    nm (uT xs_9 1 (sA (xT xs_9 1) 5 v2.toNatClampNeg (gA (xT xs_9 0) 5 v2.toNatClampNeg))) fun xs_12 =>
    nm (v2 + (1 : Int32)) fun x_13 =>
    X8_takeFrom_1_0_p78 n xs_12 x_13) := rfl
def X8_takeFrom_1_0_p76 (xs : XS) : Option (Unit × XS) :=
    X8_takeFrom_1_0_p78 7 xs (0 : Int32)
def X8_takeFrom_1_0_p52 : Nat → XS → Int32 → Option (Unit × XS)
  | 0, _, _ => none
  | n + 1, xs, v2 =>
    if (7 : Int32) ≤ v2 then
      (X8_takeFrom_1_0_p76 xs)
    else
    inr v2 7 <|
    inr v2 7 <|
    nm (uT xs 1 (sA (xT xs 1) 3 v2.toNatClampNeg (gA (xT xs 0) 3 v2.toNatClampNeg))) fun xs_17 =>
    nm (v2 + (1 : Int32)) fun x_18 =>
    X8_takeFrom_1_0_p52 n xs_17 x_18
theorem X8_takeFrom_1_0_p52_s (n : Nat) (xs : XS) (v2 : Int32) : X8_takeFrom_1_0_p52 (n + 1) xs v2 =
    (if (7 : Int32) ≤ v2 then
      (X8_takeFrom_1_0_p76 xs)
    else
    inr v2 7 <|
    inr v2 7 <|
    nm (uT xs 1 (sA (xT xs 1) 3 v2.toNatClampNeg (gA (xT xs 0) 3 v2.toNatClampNeg))) fun xs_17 =>
    nm (v2 + (1 : Int32)) fun x_18 =>
    X8_takeFrom_1_0_p52 n xs_17 x_18) := rfl
def X8_takeFrom_1_0_p50 (xs : XS) : Option (Unit × XS) :=
    X8_takeFrom_1_0_p52 8 xs (0 : Int32)
def X8_takeFrom_1_0_p2 : Nat → XS → Int32 → Option (Unit × XS)
  | 0, _, _ => none
  | n + 1, xs, v2 =>
    if (12 : Int32) ≤ v2 then
      (X8_takeFrom_1_0_p50 xs)
    else
    inr v2 12 <|
    inr v2 12 <|
    nm (uB xs 1 v2.toNatClampNeg (xB xs 0 v2.toNatClampNeg)) fun xs_24 =>
    inr v2 12 <|
    inr v2 12 <|
    nm (uT xs_24 1 (sA (xT xs_24 1) 1 v2.toNatClampNeg (gA (xT xs_24 0) 1 v2.toNatClampNeg))) fun xs_27 =>
    inr v2 12 <|
    inr v2 12 <|
    nm (uT xs_27 1 (sA (xT xs_27 1) 2 v2.toNatClampNeg (gA (xT xs_27 0) 2 v2.toNatClampNeg))) fun xs_30 =>
    nm (v2 + (1 : Int32)) fun x_31 =>
    X8_takeFrom_1_0_p2 n xs_30 x_31
theorem X8_takeFrom_1_0_p2_s (n : Nat) (xs : XS) (v2 : Int32) : X8_takeFrom_1_0_p2 (n + 1) xs v2 =
    (if (12 : Int32) ≤ v2 then
      (X8_takeFrom_1_0_p50 xs)
    else
    inr v2 12 <|
    inr v2 12 <|
    nm (uB xs 1 v2.toNatClampNeg (xB xs 0 v2.toNatClampNeg)) fun xs_24 =>
    inr v2 12 <|
    inr v2 12 <|
    nm (uT xs_24 1 (sA (xT xs_24 1) 1 v2.toNatClampNeg (gA (xT xs_24 0) 1 v2.toNatClampNeg))) fun xs_27 =>
    inr v2 12 <|
    inr v2 12 <|
    nm (uT xs_27 1 (sA (xT xs_27 1) 2 v2.toNatClampNeg (gA (xT xs_27 0) 2 v2.toNatClampNeg))) fun xs_30 =>
    nm (v2 + (1 : Int32)) fun x_31 =>
    X8_takeFrom_1_0_p2 n xs_30 x_31) := rfl
def X8_takeFrom_1_0 (xs : XS) : Option (Unit × XS) :=
    X8_takeFrom_1_0_p2 13 xs (0 : Int32)
abbrev rmX8_takeFrom_1_0 : Room := { frames := 0, cells := 0, slots := 0, locals := 0 }
theorem hdX8_takeFrom : yX8_takeFrom.cls = RX8 ∧ yX8_takeFrom.cls ≠ "java/lang/invoke/MethodHandle" ∧ yX8_takeFrom.cls ≠ "java/lang/invoke/VarHandle" ∧ (parseMethodDescriptor yX8_takeFrom.desc).map (fun d => d.parameters.length) = some 1 := by decide +kernel
set_option maxRecDepth 100000 in
set_option maxHeartbeats 8000000 in
theorem okX8_takeFrom_1_0 (z : Nat → Nat) (l : Launch) (D : va_G) (T : mT3) (b : Nat → Nat) {xa : XA} {xs : XS} {xs' : XS} (hR : xRel b xa xs) (heq : X8_takeFrom_1_0 xs = some ((), xs')) : hXv xSub z l D T b yX8_takeFrom wsX8_takeFrom rmX8_takeFrom_1_0 [.ref (b 10), .ref (b 3)] xa xs xs' := by
  refine xbody_v (plainFor_of_name (by decide)) rfl (Nat.le_of_ble_eq_true rfl) (fun p e s m args below meth c A Q hx hb hml hown hts hK hA hX hret ls hP hD hS hl => ?_)
  have hl : lv_has ls 3 [(0, .ref (b 10)), (1, .ref (b 3))] := hl
  have hin8 : ∀ w ∈ wsX80, w ∈ wsX8_takeFrom := by decide +kernel
  have f11 : (Cond.fieldLink RX8 11 RX8 (TX8 0).2.1 (TX8 0).2.2.1).before args s = true := hts (.fieldLink RX8 11 RX8 "foot" "[LLaidDownTheLane$Brick;") (by decide +kernel)
  have f17 : (Cond.fieldLink RX8 17 RX8 (TX8 1).2.1 (TX8 1).2.2.1).before args s = true := hts (.fieldLink RX8 17 RX8 "bears" "[I") (by decide +kernel)
  have f21 : (Cond.fieldLink RX8 21 RX8 (TX8 2).2.1 (TX8 2).2.2.1).before args s = true := hts (.fieldLink RX8 21 RX8 "burns" "[I") (by decide +kernel)
  have f24 : (Cond.fieldLink RX8 24 RX8 (TX8 3).2.1 (TX8 3).2.2.1).before args s = true := hts (.fieldLink RX8 24 RX8 "told" "[I") (by decide +kernel)
  have f27 : (Cond.fieldLink RX8 27 RX8 (TX8 4).2.1 (TX8 4).2.2.1).before args s = true := hts (.fieldLink RX8 27 RX8 "houseSide" "[I") (by decide +kernel)
  have f30 : (Cond.fieldLink RX8 30 RX8 (TX8 5).2.1 (TX8 5).2.2.1).before args s = true := hts (.fieldLink RX8 30 RX8 "houseFar" "[I") (by decide +kernel)
  have f36 : (Cond.fieldLink RX8 36 RX8 (TX8 9).2.1 (TX8 9).2.2.1).before args s = true := hts (.fieldLink RX8 36 RX8 "fallenTo" "I") (by decide +kernel)
  have f40 : (Cond.fieldLink RX8 40 RX8 (TX8 6).2.1 (TX8 6).2.2.1).before args s = true := hts (.fieldLink RX8 40 RX8 "houses" "I") (by decide +kernel)
  have f43 : (Cond.fieldLink RX8 43 RX8 (TX8 7).2.1 (TX8 7).2.2.1).before args s = true := hts (.fieldLink RX8 43 RX8 "lit" "Z") (by decide +kernel)
  have f47 : (Cond.fieldLink RX8 47 RX8 (TX8 8).2.1 (TX8 8).2.2.1).before args s = true := hts (.fieldLink RX8 47 RX8 "minute" "I") (by decide +kernel)
  obtain ⟨xa0, hxa0⟩ : ∃ z : XA, z = xa := ⟨_, rfl⟩
  rw [← hxa0] at hret
  have hU : xSub xa0 xa := by rw [hxa0]; exact xSub.rf
  clear hxa0
  have b114 : ∀ (xs : XS) (xa : XA) (H : Heap) (locs : List Loc) (ls : Array Slot), xRel b xa xs → xSub xa0 xa → va_P D vwCl (xW b T xa xs) H → va_D A (xW b T xa xs) → va_S A s.heap H locs → lv_has ls 3 [(0, .ref (b 10)), (1, .ref (b 3))] → X8_takeFrom_1_0_p114 xs = some ((), xs') → W p l e rmX8_takeFrom_1_0 s m args below meth c H locs 0 0 Q (F0 m 114 ls []) := by
    intro xs xa H locs ls hR hU hP hD hS hl heq
    unfold X8_takeFrom_1_0_p114 at heq
    refine lv_aload_n hx hb dX8_takeFrom_114 rfl (lv_at hl 0 rfl) ?_
    refine lv_aload_n hx hb dX8_takeFrom_115 rfl (lv_at hl 1 rfl) ?_
    refine va_get (D := D) (ci := 8) (v := .int (gF (xT xs 0) 6)) (C := RX8) (T := TX8) (N := 10) hx hb hts hin8 hown hK hP 3 rfl rfl 6 (by decide) f40 (fun _ h9 => h9) rfl dX8_takeFrom_116 ?_
    refine va_put (D := D) (ci := 8) (v := .int (gF (xT xs 0) 6)) (ty := .int) (C := RX8) (T := TX8) (N := 10) hx hb hts hin8 tyX8 tyX8_ok nmX8 hown hK hP hD hS 10 rfl rfl 6 (by decide) f40 (fun _ h9 => h9) rfl (by decide +kernel) rfl rfl (Nat.le_of_ble_eq_true rfl) dX8_takeFrom_119 (fun H locs hP hD hS => ?_)
    obtain ⟨xs_1, exs_1⟩ : ∃ z, z = uT xs 1 (sF (xT xs 1) 6 (gF (xT xs 0) 6)) := ⟨_, rfl⟩
    have hP : va_P D vwCl (xW b T xa (uT xs 1 (sF (xT xs 1) 6 (gF (xT xs 0) 6)))) H := hP
    have hD : va_D A (xW b T xa (uT xs 1 (sF (xT xs 1) 6 (gF (xT xs 0) 6)))) := hD
    have hR : xRel b xa (uT xs 1 (sF (xT xs 1) 6 (gF (xT xs 0) 6))) := hR.uT _ _
    rw [← exs_1] at hP hD hR
    have heq := nm_h exs_1 heq
    refine lv_aload_n hx hb dX8_takeFrom_122 rfl (lv_at hl 0 rfl) ?_
    refine lv_aload_n hx hb dX8_takeFrom_123 rfl (lv_at hl 1 rfl) ?_
    refine va_get (D := D) (ci := 8) (v := .int (gF (xT xs_1 0) 7)) (C := RX8) (T := TX8) (N := 10) hx hb hts hin8 hown hK hP 3 rfl rfl 7 (by decide) f43 (fun _ h9 => h9) rfl dX8_takeFrom_124 ?_
    obtain ⟨n_2, n_2f, heq⟩ := gz_h heq
    refine va_put (D := D) (ci := 8) (v := .int (gF (xT xs_1 0) 7)) (ty := .boolean) (C := RX8) (T := TX8) (N := 10) hx hb hts hin8 tyX8 tyX8_ok nmX8 hown hK hP hD hS 10 rfl rfl 7 (by decide) f43 (fun _ h9 => h9) rfl (by decide +kernel) n_2 n_2f (Nat.le_of_ble_eq_true rfl) dX8_takeFrom_127 (fun H locs hP hD hS => ?_)
    obtain ⟨xs_3, exs_3⟩ : ∃ z, z = uT xs_1 1 (sF (xT xs_1 1) 7 (gF (xT xs_1 0) 7)) := ⟨_, rfl⟩
    have hP : va_P D vwCl (xW b T xa (uT xs_1 1 (sF (xT xs_1 1) 7 (gF (xT xs_1 0) 7)))) H := hP
    have hD : va_D A (xW b T xa (uT xs_1 1 (sF (xT xs_1 1) 7 (gF (xT xs_1 0) 7)))) := hD
    have hR : xRel b xa (uT xs_1 1 (sF (xT xs_1 1) 7 (gF (xT xs_1 0) 7))) := hR.uT _ _
    rw [← exs_3] at hP hD hR
    have heq := nm_h exs_3 heq
    refine lv_aload_n hx hb dX8_takeFrom_130 rfl (lv_at hl 0 rfl) ?_
    refine lv_aload_n hx hb dX8_takeFrom_131 rfl (lv_at hl 1 rfl) ?_
    refine va_get (D := D) (ci := 8) (v := .int (gF (xT xs_3 0) 8)) (C := RX8) (T := TX8) (N := 10) hx hb hts hin8 hown hK hP 3 rfl rfl 8 (by decide) f47 (fun _ h9 => h9) rfl dX8_takeFrom_132 ?_
    refine va_put (D := D) (ci := 8) (v := .int (gF (xT xs_3 0) 8)) (ty := .int) (C := RX8) (T := TX8) (N := 10) hx hb hts hin8 tyX8 tyX8_ok nmX8 hown hK hP hD hS 10 rfl rfl 8 (by decide) f47 (fun _ h9 => h9) rfl (by decide +kernel) rfl rfl (Nat.le_of_ble_eq_true rfl) dX8_takeFrom_135 (fun H locs hP hD hS => ?_)
    obtain ⟨xs_4, exs_4⟩ : ∃ z, z = uT xs_3 1 (sF (xT xs_3 1) 8 (gF (xT xs_3 0) 8)) := ⟨_, rfl⟩
    have hP : va_P D vwCl (xW b T xa (uT xs_3 1 (sF (xT xs_3 1) 8 (gF (xT xs_3 0) 8)))) H := hP
    have hD : va_D A (xW b T xa (uT xs_3 1 (sF (xT xs_3 1) 8 (gF (xT xs_3 0) 8)))) := hD
    have hR : xRel b xa (uT xs_3 1 (sF (xT xs_3 1) 8 (gF (xT xs_3 0) 8))) := hR.uT _ _
    rw [← exs_4] at hP hD hR
    have heq := nm_h exs_4 heq
    refine lv_aload_n hx hb dX8_takeFrom_138 rfl (lv_at hl 0 rfl) ?_
    refine lv_aload_n hx hb dX8_takeFrom_139 rfl (lv_at hl 1 rfl) ?_
    refine va_get (D := D) (ci := 8) (v := .int (gF (xT xs_4 0) 9)) (C := RX8) (T := TX8) (N := 10) hx hb hts hin8 hown hK hP 3 rfl rfl 9 (by decide) f36 (fun _ h9 => h9) rfl dX8_takeFrom_140 ?_
    refine va_put (D := D) (ci := 8) (v := .int (gF (xT xs_4 0) 9)) (ty := .int) (C := RX8) (T := TX8) (N := 10) hx hb hts hin8 tyX8 tyX8_ok nmX8 hown hK hP hD hS 10 rfl rfl 9 (by decide) f36 (fun _ h9 => h9) rfl (by decide +kernel) rfl rfl (Nat.le_of_ble_eq_true rfl) dX8_takeFrom_143 (fun H locs hP hD hS => ?_)
    obtain ⟨xs_5, exs_5⟩ : ∃ z, z = uT xs_4 1 (sF (xT xs_4 1) 9 (gF (xT xs_4 0) 9)) := ⟨_, rfl⟩
    have hP : va_P D vwCl (xW b T xa (uT xs_4 1 (sF (xT xs_4 1) 9 (gF (xT xs_4 0) 9)))) H := hP
    have hD : va_D A (xW b T xa (uT xs_4 1 (sF (xT xs_4 1) 9 (gF (xT xs_4 0) 9)))) := hD
    have hR : xRel b xa (uT xs_4 1 (sF (xT xs_4 1) 9 (gF (xT xs_4 0) 9))) := hR.uT _ _
    rw [← exs_5] at hP hD hR
    have heq := nm_h exs_5 heq
    obtain ⟨-, heq2⟩ := ret_h heq
    subst heq2
    exact hret 146 H locs ls xa hR hU hP hD hS dX8_takeFrom_146
  have b78 : ∀ (n : Nat), ∀ (xs : XS) (v2 : Int32) (xa : XA) (H : Heap) (locs : List Loc) (ls : Array Slot), xRel b xa xs → xSub xa0 xa → va_P D vwCl (xW b T xa xs) H → va_D A (xW b T xa xs) → va_S A s.heap H locs → lv_has ls 3 [(0, .ref (b 10)), (1, .ref (b 3)), (2, .int v2)] → X8_takeFrom_1_0_p78 n xs v2 = some ((), xs') → W p l e rmX8_takeFrom_1_0 s m args below meth c H locs 0 0 Q (F0 m 78 ls []) := by
    intro n
    induction n with
    | zero => intro xs v2 xa H locs ls hR hU hP hD hS hl heq; cases heq
    | succ n ih =>
      intro xs v2 xa H locs ls hR hU hP hD hS hl heq
      rw [X8_takeFrom_1_0_p78_s] at heq
      refine lv_iload_n hx hb dX8_takeFrom_78 rfl (lv_at hl 2 rfl) ?_
      refine lv_bipush (v := (6 : Int32)) hx hb dX8_takeFrom_79 (by decide) ?_
      refine lv_icmp_ge (tgt := 114) hx hb dX8_takeFrom_81 (by decide) (fun c_6 => ?_) (fun c_6 => ?_)
      · have heq := it_t c_6 heq
        exact b114 xs xa H locs ls hR hU hP hD hS (lv_sub hl [0, 1] rfl) heq
      have heq := it_f c_6 heq
      refine lv_aload_n hx hb dX8_takeFrom_84 rfl (lv_at hl 0 rfl) ?_
      refine va_get (D := D) (ci := 8) (v := .ref (b 15)) (C := RX8) (T := TX8) (N := 10) hx hb hts hin8 hown hK hP 10 rfl rfl 4 (by decide) f27 (fun _ h9 => h9) rfl dX8_takeFrom_85 ?_
      refine lv_iload_n hx hb dX8_takeFrom_88 rfl (lv_at hl 2 rfl) ?_
      refine lv_aload_n hx hb dX8_takeFrom_89 rfl (lv_at hl 1 rfl) ?_
      refine va_get (D := D) (ci := 8) (v := .ref (b 8)) (C := RX8) (T := TX8) (N := 10) hx hb hts hin8 hown hK hP 3 rfl rfl 4 (by decide) f27 (fun _ h9 => h9) rfl dX8_takeFrom_90 ?_
      refine lv_iload_n hx hb dX8_takeFrom_93 rfl (lv_at hl 2 rfl) ?_
      obtain ⟨n_7, heq⟩ := inr_h heq
      refine va_iald (f := gA (xT xs 0) 4) (n := 6) hx hb hK hP 8 0 rfl rfl n_7 dX8_takeFrom_94 ?_
      obtain ⟨n_8, heq⟩ := inr_h heq
      refine va_iast (f := gA (xT xs 1) 4) (n := 6) hx hb hK hP hD hS 15 0 rfl rfl n_8 dX8_takeFrom_95 (fun H locs hP hD hS => ?_)
      obtain ⟨xs_9, exs_9⟩ : ∃ z, z = uT xs 1 (sA (xT xs 1) 4 v2.toNatClampNeg (gA (xT xs 0) 4 v2.toNatClampNeg)) := ⟨_, rfl⟩
      have hP : va_P D vwCl (xW b T xa (uT xs 1 (sA (xT xs 1) 4 v2.toNatClampNeg (gA (xT xs 0) 4 v2.toNatClampNeg)))) H := hP
      have hD : va_D A (xW b T xa (uT xs 1 (sA (xT xs 1) 4 v2.toNatClampNeg (gA (xT xs 0) 4 v2.toNatClampNeg)))) := hD
      have hR : xRel b xa (uT xs 1 (sA (xT xs 1) 4 v2.toNatClampNeg (gA (xT xs 0) 4 v2.toNatClampNeg))) := hR.uT _ _
      rw [← exs_9] at hP hD hR
      have heq := nm_h exs_9 heq
      refine lv_aload_n hx hb dX8_takeFrom_96 rfl (lv_at hl 0 rfl) ?_
      refine va_get (D := D) (ci := 8) (v := .ref (b 16)) (C := RX8) (T := TX8) (N := 10) hx hb hts hin8 hown hK hP 10 rfl rfl 5 (by decide) f30 (fun _ h9 => h9) rfl dX8_takeFrom_97 ?_
      refine lv_iload_n hx hb dX8_takeFrom_100 rfl (lv_at hl 2 rfl) ?_
      refine lv_aload_n hx hb dX8_takeFrom_101 rfl (lv_at hl 1 rfl) ?_
      refine va_get (D := D) (ci := 8) (v := .ref (b 9)) (C := RX8) (T := TX8) (N := 10) hx hb hts hin8 hown hK hP 3 rfl rfl 5 (by decide) f30 (fun _ h9 => h9) rfl dX8_takeFrom_102 ?_
      refine lv_iload_n hx hb dX8_takeFrom_105 rfl (lv_at hl 2 rfl) ?_
      obtain ⟨n_10, heq⟩ := inr_h heq
      refine va_iald (f := gA (xT xs_9 0) 5) (n := 6) hx hb hK hP 9 0 rfl rfl n_10 dX8_takeFrom_106 ?_
      obtain ⟨n_11, heq⟩ := inr_h heq
      refine va_iast (f := gA (xT xs_9 1) 5) (n := 6) hx hb hK hP hD hS 16 0 rfl rfl n_11 dX8_takeFrom_107 (fun H locs hP hD hS => ?_)
      obtain ⟨xs_12, exs_12⟩ : ∃ z, z = uT xs_9 1 (sA (xT xs_9 1) 5 v2.toNatClampNeg (gA (xT xs_9 0) 5 v2.toNatClampNeg)) := ⟨_, rfl⟩
      have hP : va_P D vwCl (xW b T xa (uT xs_9 1 (sA (xT xs_9 1) 5 v2.toNatClampNeg (gA (xT xs_9 0) 5 v2.toNatClampNeg)))) H := hP
      have hD : va_D A (xW b T xa (uT xs_9 1 (sA (xT xs_9 1) 5 v2.toNatClampNeg (gA (xT xs_9 0) 5 v2.toNatClampNeg)))) := hD
      have hR : xRel b xa (uT xs_9 1 (sA (xT xs_9 1) 5 v2.toNatClampNeg (gA (xT xs_9 0) 5 v2.toNatClampNeg))) := hR.uT _ _
      rw [← exs_12] at hP hD hR
      have heq := nm_h exs_12 heq
      obtain ⟨x_13, ex_13⟩ : ∃ y : Int32, y = v2 + (1 : Int32) := ⟨_, rfl⟩
      have heq := nm_h ex_13 heq
      refine lv_iinc (v := x_13) (lv' := [(2, .int x_13), (0, .ref (b 10)), (1, .ref (b 3))]) hx hb dX8_takeFrom_108 hl (k := 2) rfl (by rw [ex_13]; rfl) (by decide) rfl (fun ls hl => ?_)
      refine lv_goto (tgt := 78) hx hb dX8_takeFrom_111 (by decide) ?_
      exact ih xs_12 x_13 xa H locs ls hR hU hP hD hS (lv_sub hl [1, 2, 0] rfl) heq
  have b76 : ∀ (xs : XS) (xa : XA) (H : Heap) (locs : List Loc) (ls : Array Slot), xRel b xa xs → xSub xa0 xa → va_P D vwCl (xW b T xa xs) H → va_D A (xW b T xa xs) → va_S A s.heap H locs → lv_has ls 3 [(0, .ref (b 10)), (1, .ref (b 3))] → X8_takeFrom_1_0_p76 xs = some ((), xs') → W p l e rmX8_takeFrom_1_0 s m args below meth c H locs 0 0 Q (F0 m 76 ls []) := by
    intro xs xa H locs ls hR hU hP hD hS hl heq
    unfold X8_takeFrom_1_0_p76 at heq
    refine lv_iconst (v := (0 : Int32)) hx hb dX8_takeFrom_76 (by decide) ?_
    refine lv_istore_n (lv' := [(2, .int (0 : Int32)), (0, .ref (b 10)), (1, .ref (b 3))]) hx hb dX8_takeFrom_77 rfl hl (by decide) rfl (fun ls hl => ?_)
    exact b78 7 xs (0 : Int32) xa H locs ls hR hU hP hD hS (lv_sub hl [1, 2, 0] rfl) heq
  have b52 : ∀ (n : Nat), ∀ (xs : XS) (v2 : Int32) (xa : XA) (H : Heap) (locs : List Loc) (ls : Array Slot), xRel b xa xs → xSub xa0 xa → va_P D vwCl (xW b T xa xs) H → va_D A (xW b T xa xs) → va_S A s.heap H locs → lv_has ls 3 [(0, .ref (b 10)), (1, .ref (b 3)), (2, .int v2)] → X8_takeFrom_1_0_p52 n xs v2 = some ((), xs') → W p l e rmX8_takeFrom_1_0 s m args below meth c H locs 0 0 Q (F0 m 52 ls []) := by
    intro n
    induction n with
    | zero => intro xs v2 xa H locs ls hR hU hP hD hS hl heq; cases heq
    | succ n ih =>
      intro xs v2 xa H locs ls hR hU hP hD hS hl heq
      rw [X8_takeFrom_1_0_p52_s] at heq
      refine lv_iload_n hx hb dX8_takeFrom_52 rfl (lv_at hl 2 rfl) ?_
      refine lv_bipush (v := (7 : Int32)) hx hb dX8_takeFrom_53 (by decide) ?_
      refine lv_icmp_ge (tgt := 76) hx hb dX8_takeFrom_55 (by decide) (fun c_14 => ?_) (fun c_14 => ?_)
      · have heq := it_t c_14 heq
        exact b76 xs xa H locs ls hR hU hP hD hS (lv_sub hl [0, 1] rfl) heq
      have heq := it_f c_14 heq
      refine lv_aload_n hx hb dX8_takeFrom_58 rfl (lv_at hl 0 rfl) ?_
      refine va_get (D := D) (ci := 8) (v := .ref (b 14)) (C := RX8) (T := TX8) (N := 10) hx hb hts hin8 hown hK hP 10 rfl rfl 3 (by decide) f24 (fun _ h9 => h9) rfl dX8_takeFrom_59 ?_
      refine lv_iload_n hx hb dX8_takeFrom_62 rfl (lv_at hl 2 rfl) ?_
      refine lv_aload_n hx hb dX8_takeFrom_63 rfl (lv_at hl 1 rfl) ?_
      refine va_get (D := D) (ci := 8) (v := .ref (b 7)) (C := RX8) (T := TX8) (N := 10) hx hb hts hin8 hown hK hP 3 rfl rfl 3 (by decide) f24 (fun _ h9 => h9) rfl dX8_takeFrom_64 ?_
      refine lv_iload_n hx hb dX8_takeFrom_67 rfl (lv_at hl 2 rfl) ?_
      obtain ⟨n_15, heq⟩ := inr_h heq
      refine va_iald (f := gA (xT xs 0) 3) (n := 7) hx hb hK hP 7 0 rfl rfl n_15 dX8_takeFrom_68 ?_
      obtain ⟨n_16, heq⟩ := inr_h heq
      refine va_iast (f := gA (xT xs 1) 3) (n := 7) hx hb hK hP hD hS 14 0 rfl rfl n_16 dX8_takeFrom_69 (fun H locs hP hD hS => ?_)
      obtain ⟨xs_17, exs_17⟩ : ∃ z, z = uT xs 1 (sA (xT xs 1) 3 v2.toNatClampNeg (gA (xT xs 0) 3 v2.toNatClampNeg)) := ⟨_, rfl⟩
      have hP : va_P D vwCl (xW b T xa (uT xs 1 (sA (xT xs 1) 3 v2.toNatClampNeg (gA (xT xs 0) 3 v2.toNatClampNeg)))) H := hP
      have hD : va_D A (xW b T xa (uT xs 1 (sA (xT xs 1) 3 v2.toNatClampNeg (gA (xT xs 0) 3 v2.toNatClampNeg)))) := hD
      have hR : xRel b xa (uT xs 1 (sA (xT xs 1) 3 v2.toNatClampNeg (gA (xT xs 0) 3 v2.toNatClampNeg))) := hR.uT _ _
      rw [← exs_17] at hP hD hR
      have heq := nm_h exs_17 heq
      obtain ⟨x_18, ex_18⟩ : ∃ y : Int32, y = v2 + (1 : Int32) := ⟨_, rfl⟩
      have heq := nm_h ex_18 heq
      refine lv_iinc (v := x_18) (lv' := [(2, .int x_18), (0, .ref (b 10)), (1, .ref (b 3))]) hx hb dX8_takeFrom_70 hl (k := 2) rfl (by rw [ex_18]; rfl) (by decide) rfl (fun ls hl => ?_)
      refine lv_goto (tgt := 52) hx hb dX8_takeFrom_73 (by decide) ?_
      exact ih xs_17 x_18 xa H locs ls hR hU hP hD hS (lv_sub hl [1, 2, 0] rfl) heq
  have b50 : ∀ (xs : XS) (xa : XA) (H : Heap) (locs : List Loc) (ls : Array Slot), xRel b xa xs → xSub xa0 xa → va_P D vwCl (xW b T xa xs) H → va_D A (xW b T xa xs) → va_S A s.heap H locs → lv_has ls 3 [(0, .ref (b 10)), (1, .ref (b 3))] → X8_takeFrom_1_0_p50 xs = some ((), xs') → W p l e rmX8_takeFrom_1_0 s m args below meth c H locs 0 0 Q (F0 m 50 ls []) := by
    intro xs xa H locs ls hR hU hP hD hS hl heq
    unfold X8_takeFrom_1_0_p50 at heq
    refine lv_iconst (v := (0 : Int32)) hx hb dX8_takeFrom_50 (by decide) ?_
    refine lv_istore_n (lv' := [(2, .int (0 : Int32)), (0, .ref (b 10)), (1, .ref (b 3))]) hx hb dX8_takeFrom_51 rfl hl (by decide) rfl (fun ls hl => ?_)
    exact b52 8 xs (0 : Int32) xa H locs ls hR hU hP hD hS (lv_sub hl [1, 2, 0] rfl) heq
  have b2 : ∀ (n : Nat), ∀ (xs : XS) (v2 : Int32) (xa : XA) (H : Heap) (locs : List Loc) (ls : Array Slot), xRel b xa xs → xSub xa0 xa → va_P D vwCl (xW b T xa xs) H → va_D A (xW b T xa xs) → va_S A s.heap H locs → lv_has ls 3 [(0, .ref (b 10)), (1, .ref (b 3)), (2, .int v2)] → X8_takeFrom_1_0_p2 n xs v2 = some ((), xs') → W p l e rmX8_takeFrom_1_0 s m args below meth c H locs 0 0 Q (F0 m 2 ls []) := by
    intro n
    induction n with
    | zero => intro xs v2 xa H locs ls hR hU hP hD hS hl heq; cases heq
    | succ n ih =>
      intro xs v2 xa H locs ls hR hU hP hD hS hl heq
      rw [X8_takeFrom_1_0_p2_s] at heq
      refine lv_iload_n hx hb dX8_takeFrom_2 rfl (lv_at hl 2 rfl) ?_
      refine lv_bipush (v := (12 : Int32)) hx hb dX8_takeFrom_3 (by decide) ?_
      refine lv_icmp_ge (tgt := 50) hx hb dX8_takeFrom_5 (by decide) (fun c_19 => ?_) (fun c_19 => ?_)
      · have heq := it_t c_19 heq
        exact b50 xs xa H locs ls hR hU hP hD hS (lv_sub hl [0, 1] rfl) heq
      have heq := it_f c_19 heq
      refine lv_aload_n hx hb dX8_takeFrom_8 rfl (lv_at hl 0 rfl) ?_
      refine va_get (D := D) (ci := 8) (v := .ref (b 11)) (C := RX8) (T := TX8) (N := 10) hx hb hts hin8 hown hK hP 10 rfl rfl 0 (by decide) f11 (fun _ h9 => h9) rfl dX8_takeFrom_9 ?_
      refine lv_iload_n hx hb dX8_takeFrom_12 rfl (lv_at hl 2 rfl) ?_
      refine lv_aload_n hx hb dX8_takeFrom_13 rfl (lv_at hl 1 rfl) ?_
      refine va_get (D := D) (ci := 8) (v := .ref (b 4)) (C := RX8) (T := TX8) (N := 10) hx hb hts hin8 hown hK hP 3 rfl rfl 0 (by decide) f11 (fun _ h9 => h9) rfl dX8_takeFrom_14 ?_
      refine lv_iload_n hx hb dX8_takeFrom_17 rfl (lv_at hl 2 rfl) ?_
      obtain ⟨n_20, heq⟩ := inr_h heq
      have hb_21 := hR.1 0 (by decide) v2.toNatClampNeg (in_lt n_20)
      refine va_aldq (C := RX0) (n := 12) (f := fun j => some (xFo xa 0 j)) hx hb hK hP 4 1 rfl rfl n_20 dX8_takeFrom_18 ?_
      refine W.eq (g2 := F0 m 19 ls [.ref (xFo xa 0 v2.toNatClampNeg), .int v2, .ref (b 11)]) rfl ?_
      obtain ⟨n_22, heq⟩ := inr_h heq
      refine x_aast1 hx hb hK hX hP hD hS hb_21 hR n_22 dX8_takeFrom_19 (fun H locs hP hD hS => ?_)
      obtain ⟨xa_23, exa_23⟩ : ∃ z, z = xFoot xa 1 v2.toNatClampNeg (xFo xa 0 v2.toNatClampNeg) := ⟨_, rfl⟩
      have hR : xRel b (xFoot xa 1 v2.toNatClampNeg (xFo xa 0 v2.toNatClampNeg)) (uB xs 1 v2.toNatClampNeg (xB xs 0 v2.toNatClampNeg)) := hR.foot hb_21
      have hsxa_23 : xSub xa xa_23 := by rw [exa_23]; exact xSub.foot
      rw [← exa_23] at hP hD hR
      have hU := xSub.tr hU hsxa_23
      obtain ⟨xs_24, exs_24⟩ : ∃ z, z = uB xs 1 v2.toNatClampNeg (xB xs 0 v2.toNatClampNeg) := ⟨_, rfl⟩
      rw [← exs_24] at hP hD hR
      have heq := nm_h exs_24 heq
      refine lv_aload_n hx hb dX8_takeFrom_20 rfl (lv_at hl 0 rfl) ?_
      refine va_get (D := D) (ci := 8) (v := .ref (b 12)) (C := RX8) (T := TX8) (N := 10) hx hb hts hin8 hown hK hP 10 rfl rfl 1 (by decide) f17 (fun _ h9 => h9) rfl dX8_takeFrom_21 ?_
      refine lv_iload_n hx hb dX8_takeFrom_24 rfl (lv_at hl 2 rfl) ?_
      refine lv_aload_n hx hb dX8_takeFrom_25 rfl (lv_at hl 1 rfl) ?_
      refine va_get (D := D) (ci := 8) (v := .ref (b 5)) (C := RX8) (T := TX8) (N := 10) hx hb hts hin8 hown hK hP 3 rfl rfl 1 (by decide) f17 (fun _ h9 => h9) rfl dX8_takeFrom_26 ?_
      refine lv_iload_n hx hb dX8_takeFrom_29 rfl (lv_at hl 2 rfl) ?_
      obtain ⟨n_25, heq⟩ := inr_h heq
      refine va_iald (f := gA (xT xs_24 0) 1) (n := 12) hx hb hK hP 5 0 rfl rfl n_25 dX8_takeFrom_30 ?_
      obtain ⟨n_26, heq⟩ := inr_h heq
      refine va_iast (f := gA (xT xs_24 1) 1) (n := 12) hx hb hK hP hD hS 12 0 rfl rfl n_26 dX8_takeFrom_31 (fun H locs hP hD hS => ?_)
      obtain ⟨xs_27, exs_27⟩ : ∃ z, z = uT xs_24 1 (sA (xT xs_24 1) 1 v2.toNatClampNeg (gA (xT xs_24 0) 1 v2.toNatClampNeg)) := ⟨_, rfl⟩
      have hP : va_P D vwCl (xW b T xa_23 (uT xs_24 1 (sA (xT xs_24 1) 1 v2.toNatClampNeg (gA (xT xs_24 0) 1 v2.toNatClampNeg)))) H := hP
      have hD : va_D A (xW b T xa_23 (uT xs_24 1 (sA (xT xs_24 1) 1 v2.toNatClampNeg (gA (xT xs_24 0) 1 v2.toNatClampNeg)))) := hD
      have hR : xRel b xa_23 (uT xs_24 1 (sA (xT xs_24 1) 1 v2.toNatClampNeg (gA (xT xs_24 0) 1 v2.toNatClampNeg))) := hR.uT _ _
      rw [← exs_27] at hP hD hR
      have heq := nm_h exs_27 heq
      refine lv_aload_n hx hb dX8_takeFrom_32 rfl (lv_at hl 0 rfl) ?_
      refine va_get (D := D) (ci := 8) (v := .ref (b 13)) (C := RX8) (T := TX8) (N := 10) hx hb hts hin8 hown hK hP 10 rfl rfl 2 (by decide) f21 (fun _ h9 => h9) rfl dX8_takeFrom_33 ?_
      refine lv_iload_n hx hb dX8_takeFrom_36 rfl (lv_at hl 2 rfl) ?_
      refine lv_aload_n hx hb dX8_takeFrom_37 rfl (lv_at hl 1 rfl) ?_
      refine va_get (D := D) (ci := 8) (v := .ref (b 6)) (C := RX8) (T := TX8) (N := 10) hx hb hts hin8 hown hK hP 3 rfl rfl 2 (by decide) f21 (fun _ h9 => h9) rfl dX8_takeFrom_38 ?_
      refine lv_iload_n hx hb dX8_takeFrom_41 rfl (lv_at hl 2 rfl) ?_
      obtain ⟨n_28, heq⟩ := inr_h heq
      refine va_iald (f := gA (xT xs_27 0) 2) (n := 12) hx hb hK hP 6 0 rfl rfl n_28 dX8_takeFrom_42 ?_
      obtain ⟨n_29, heq⟩ := inr_h heq
      refine va_iast (f := gA (xT xs_27 1) 2) (n := 12) hx hb hK hP hD hS 13 0 rfl rfl n_29 dX8_takeFrom_43 (fun H locs hP hD hS => ?_)
      obtain ⟨xs_30, exs_30⟩ : ∃ z, z = uT xs_27 1 (sA (xT xs_27 1) 2 v2.toNatClampNeg (gA (xT xs_27 0) 2 v2.toNatClampNeg)) := ⟨_, rfl⟩
      have hP : va_P D vwCl (xW b T xa_23 (uT xs_27 1 (sA (xT xs_27 1) 2 v2.toNatClampNeg (gA (xT xs_27 0) 2 v2.toNatClampNeg)))) H := hP
      have hD : va_D A (xW b T xa_23 (uT xs_27 1 (sA (xT xs_27 1) 2 v2.toNatClampNeg (gA (xT xs_27 0) 2 v2.toNatClampNeg)))) := hD
      have hR : xRel b xa_23 (uT xs_27 1 (sA (xT xs_27 1) 2 v2.toNatClampNeg (gA (xT xs_27 0) 2 v2.toNatClampNeg))) := hR.uT _ _
      rw [← exs_30] at hP hD hR
      have heq := nm_h exs_30 heq
      obtain ⟨x_31, ex_31⟩ : ∃ y : Int32, y = v2 + (1 : Int32) := ⟨_, rfl⟩
      have heq := nm_h ex_31 heq
      refine lv_iinc (v := x_31) (lv' := [(2, .int x_31), (0, .ref (b 10)), (1, .ref (b 3))]) hx hb dX8_takeFrom_44 hl (k := 2) rfl (by rw [ex_31]; rfl) (by decide) rfl (fun ls hl => ?_)
      refine lv_goto (tgt := 2) hx hb dX8_takeFrom_47 (by decide) ?_
      exact ih xs_30 x_31 xa_23 H locs ls hR hU hP hD hS (lv_sub hl [1, 2, 0] rfl) heq
  obtain ⟨H, hH⟩ : ∃ H, H = s.heap := ⟨_, rfl⟩
  obtain ⟨locs, hlocs⟩ : ∃ z : List Loc, z = [] := ⟨_, rfl⟩
  have hS : va_S A s.heap H locs := by rw [hH, hlocs]; exact hS
  have hP : va_P D vwCl (xW b T xa xs) H := by rw [hH]; exact hP
  suffices h9 : W p l e rmX8_takeFrom_1_0 s m args below meth c H locs 0 0 Q (F0 m 0 ls []) by rw [hH, hlocs] at h9; exact h9
  clear hH hlocs
  unfold X8_takeFrom_1_0 at heq
  refine lv_iconst (v := (0 : Int32)) hx hb dX8_takeFrom_0 (by decide) ?_
  refine lv_istore_n (lv' := [(2, .int (0 : Int32)), (0, .ref (b 10)), (1, .ref (b 3))]) hx hb dX8_takeFrom_1 rfl hl (by decide) rfl (fun ls hl => ?_)
  exact b2 13 xs (0 : Int32) xa H locs ls hR hU hP hD hS (lv_sub hl [1, 2, 0] rfl) heq
/-! X8 takeFrom_0_1 -/
def X8_takeFrom_0_1_p114 (xs : XS) : Option (Unit × XS) :=
    nm (uT xs 0 (sF (xT xs 0) 6 (gF (xT xs 1) 6))) fun xs_1 =>
    gz (gF (xT xs_1 1) 7) <|
    nm (uT xs_1 0 (sF (xT xs_1 0) 7 (gF (xT xs_1 1) 7))) fun xs_3 =>
    nm (uT xs_3 0 (sF (xT xs_3 0) 8 (gF (xT xs_3 1) 8))) fun xs_4 =>
    nm (uT xs_4 0 (sF (xT xs_4 0) 9 (gF (xT xs_4 1) 9))) fun xs_5 =>
    some ((), xs_5)
def X8_takeFrom_0_1_p78 : Nat → XS → Int32 → Option (Unit × XS)
  | 0, _, _ => none
  | n + 1, xs, v2 =>
    if (6 : Int32) ≤ v2 then
      (X8_takeFrom_0_1_p114 xs)
    else
    inr v2 6 <|
    inr v2 6 <|
    nm (uT xs 0 (sA (xT xs 0) 4 v2.toNatClampNeg (gA (xT xs 1) 4 v2.toNatClampNeg))) fun xs_9 =>
    inr v2 6 <|
    inr v2 6 <|
    nm (uT xs_9 0 (sA (xT xs_9 0) 5 v2.toNatClampNeg (gA (xT xs_9 1) 5 v2.toNatClampNeg))) fun xs_12 =>
    nm (v2 + (1 : Int32)) fun x_13 =>
    X8_takeFrom_0_1_p78 n xs_12 x_13
theorem X8_takeFrom_0_1_p78_s (n : Nat) (xs : XS) (v2 : Int32) : X8_takeFrom_0_1_p78 (n + 1) xs v2 =
    (if (6 : Int32) ≤ v2 then
      (X8_takeFrom_0_1_p114 xs)
    else
    inr v2 6 <|
    inr v2 6 <|
    nm (uT xs 0 (sA (xT xs 0) 4 v2.toNatClampNeg (gA (xT xs 1) 4 v2.toNatClampNeg))) fun xs_9 =>
    inr v2 6 <|
    inr v2 6 <|
    nm (uT xs_9 0 (sA (xT xs_9 0) 5 v2.toNatClampNeg (gA (xT xs_9 1) 5 v2.toNatClampNeg))) fun xs_12 =>
    nm (v2 + (1 : Int32)) fun x_13 =>
    X8_takeFrom_0_1_p78 n xs_12 x_13) := rfl
def X8_takeFrom_0_1_p76 (xs : XS) : Option (Unit × XS) :=
    X8_takeFrom_0_1_p78 7 xs (0 : Int32)
def X8_takeFrom_0_1_p52 : Nat → XS → Int32 → Option (Unit × XS)
  | 0, _, _ => none
  | n + 1, xs, v2 =>
    if (7 : Int32) ≤ v2 then
      (X8_takeFrom_0_1_p76 xs)
    else
    inr v2 7 <|
    inr v2 7 <|
    nm (uT xs 0 (sA (xT xs 0) 3 v2.toNatClampNeg (gA (xT xs 1) 3 v2.toNatClampNeg))) fun xs_17 =>
    nm (v2 + (1 : Int32)) fun x_18 =>
    X8_takeFrom_0_1_p52 n xs_17 x_18
theorem X8_takeFrom_0_1_p52_s (n : Nat) (xs : XS) (v2 : Int32) : X8_takeFrom_0_1_p52 (n + 1) xs v2 =
    (if (7 : Int32) ≤ v2 then
      (X8_takeFrom_0_1_p76 xs)
    else
    inr v2 7 <|
    inr v2 7 <|
    nm (uT xs 0 (sA (xT xs 0) 3 v2.toNatClampNeg (gA (xT xs 1) 3 v2.toNatClampNeg))) fun xs_17 =>
    nm (v2 + (1 : Int32)) fun x_18 =>
    X8_takeFrom_0_1_p52 n xs_17 x_18) := rfl
def X8_takeFrom_0_1_p50 (xs : XS) : Option (Unit × XS) :=
    X8_takeFrom_0_1_p52 8 xs (0 : Int32)
def X8_takeFrom_0_1_p2 : Nat → XS → Int32 → Option (Unit × XS)
  | 0, _, _ => none
  | n + 1, xs, v2 =>
    if (12 : Int32) ≤ v2 then
      (X8_takeFrom_0_1_p50 xs)
    else
    inr v2 12 <|
    inr v2 12 <|
    nm (uB xs 0 v2.toNatClampNeg (xB xs 1 v2.toNatClampNeg)) fun xs_24 =>
    inr v2 12 <|
    inr v2 12 <|
    nm (uT xs_24 0 (sA (xT xs_24 0) 1 v2.toNatClampNeg (gA (xT xs_24 1) 1 v2.toNatClampNeg))) fun xs_27 =>
    inr v2 12 <|
    inr v2 12 <|
    nm (uT xs_27 0 (sA (xT xs_27 0) 2 v2.toNatClampNeg (gA (xT xs_27 1) 2 v2.toNatClampNeg))) fun xs_30 =>
    nm (v2 + (1 : Int32)) fun x_31 =>
    X8_takeFrom_0_1_p2 n xs_30 x_31
theorem X8_takeFrom_0_1_p2_s (n : Nat) (xs : XS) (v2 : Int32) : X8_takeFrom_0_1_p2 (n + 1) xs v2 =
    (if (12 : Int32) ≤ v2 then
      (X8_takeFrom_0_1_p50 xs)
    else
    inr v2 12 <|
    inr v2 12 <|
    nm (uB xs 0 v2.toNatClampNeg (xB xs 1 v2.toNatClampNeg)) fun xs_24 =>
    inr v2 12 <|
    inr v2 12 <|
    nm (uT xs_24 0 (sA (xT xs_24 0) 1 v2.toNatClampNeg (gA (xT xs_24 1) 1 v2.toNatClampNeg))) fun xs_27 =>
    inr v2 12 <|
    inr v2 12 <|
    nm (uT xs_27 0 (sA (xT xs_27 0) 2 v2.toNatClampNeg (gA (xT xs_27 1) 2 v2.toNatClampNeg))) fun xs_30 =>
    nm (v2 + (1 : Int32)) fun x_31 =>
    X8_takeFrom_0_1_p2 n xs_30 x_31) := rfl
def X8_takeFrom_0_1 (xs : XS) : Option (Unit × XS) :=
    X8_takeFrom_0_1_p2 13 xs (0 : Int32)
abbrev rmX8_takeFrom_0_1 : Room := { frames := 0, cells := 0, slots := 0, locals := 0 }
set_option maxRecDepth 100000 in
set_option maxHeartbeats 8000000 in
theorem okX8_takeFrom_0_1 (z : Nat → Nat) (l : Launch) (D : va_G) (T : mT3) (b : Nat → Nat) {xa : XA} {xs : XS} {xs' : XS} (hR : xRel b xa xs) (heq : X8_takeFrom_0_1 xs = some ((), xs')) : hXv xSub z l D T b yX8_takeFrom wsX8_takeFrom rmX8_takeFrom_0_1 [.ref (b 3), .ref (b 10)] xa xs xs' := by
  refine xbody_v (plainFor_of_name (by decide)) rfl (Nat.le_of_ble_eq_true rfl) (fun p e s m args below meth c A Q hx hb hml hown hts hK hA hX hret ls hP hD hS hl => ?_)
  have hl : lv_has ls 3 [(0, .ref (b 3)), (1, .ref (b 10))] := hl
  have hin8 : ∀ w ∈ wsX80, w ∈ wsX8_takeFrom := by decide +kernel
  have f11 : (Cond.fieldLink RX8 11 RX8 (TX8 0).2.1 (TX8 0).2.2.1).before args s = true := hts (.fieldLink RX8 11 RX8 "foot" "[LLaidDownTheLane$Brick;") (by decide +kernel)
  have f17 : (Cond.fieldLink RX8 17 RX8 (TX8 1).2.1 (TX8 1).2.2.1).before args s = true := hts (.fieldLink RX8 17 RX8 "bears" "[I") (by decide +kernel)
  have f21 : (Cond.fieldLink RX8 21 RX8 (TX8 2).2.1 (TX8 2).2.2.1).before args s = true := hts (.fieldLink RX8 21 RX8 "burns" "[I") (by decide +kernel)
  have f24 : (Cond.fieldLink RX8 24 RX8 (TX8 3).2.1 (TX8 3).2.2.1).before args s = true := hts (.fieldLink RX8 24 RX8 "told" "[I") (by decide +kernel)
  have f27 : (Cond.fieldLink RX8 27 RX8 (TX8 4).2.1 (TX8 4).2.2.1).before args s = true := hts (.fieldLink RX8 27 RX8 "houseSide" "[I") (by decide +kernel)
  have f30 : (Cond.fieldLink RX8 30 RX8 (TX8 5).2.1 (TX8 5).2.2.1).before args s = true := hts (.fieldLink RX8 30 RX8 "houseFar" "[I") (by decide +kernel)
  have f36 : (Cond.fieldLink RX8 36 RX8 (TX8 9).2.1 (TX8 9).2.2.1).before args s = true := hts (.fieldLink RX8 36 RX8 "fallenTo" "I") (by decide +kernel)
  have f40 : (Cond.fieldLink RX8 40 RX8 (TX8 6).2.1 (TX8 6).2.2.1).before args s = true := hts (.fieldLink RX8 40 RX8 "houses" "I") (by decide +kernel)
  have f43 : (Cond.fieldLink RX8 43 RX8 (TX8 7).2.1 (TX8 7).2.2.1).before args s = true := hts (.fieldLink RX8 43 RX8 "lit" "Z") (by decide +kernel)
  have f47 : (Cond.fieldLink RX8 47 RX8 (TX8 8).2.1 (TX8 8).2.2.1).before args s = true := hts (.fieldLink RX8 47 RX8 "minute" "I") (by decide +kernel)
  obtain ⟨xa0, hxa0⟩ : ∃ z : XA, z = xa := ⟨_, rfl⟩
  rw [← hxa0] at hret
  have hU : xSub xa0 xa := by rw [hxa0]; exact xSub.rf
  clear hxa0
  have b114 : ∀ (xs : XS) (xa : XA) (H : Heap) (locs : List Loc) (ls : Array Slot), xRel b xa xs → xSub xa0 xa → va_P D vwCl (xW b T xa xs) H → va_D A (xW b T xa xs) → va_S A s.heap H locs → lv_has ls 3 [(0, .ref (b 3)), (1, .ref (b 10))] → X8_takeFrom_0_1_p114 xs = some ((), xs') → W p l e rmX8_takeFrom_0_1 s m args below meth c H locs 0 0 Q (F0 m 114 ls []) := by
    intro xs xa H locs ls hR hU hP hD hS hl heq
    unfold X8_takeFrom_0_1_p114 at heq
    refine lv_aload_n hx hb dX8_takeFrom_114 rfl (lv_at hl 0 rfl) ?_
    refine lv_aload_n hx hb dX8_takeFrom_115 rfl (lv_at hl 1 rfl) ?_
    refine va_get (D := D) (ci := 8) (v := .int (gF (xT xs 1) 6)) (C := RX8) (T := TX8) (N := 10) hx hb hts hin8 hown hK hP 10 rfl rfl 6 (by decide) f40 (fun _ h9 => h9) rfl dX8_takeFrom_116 ?_
    refine va_put (D := D) (ci := 8) (v := .int (gF (xT xs 1) 6)) (ty := .int) (C := RX8) (T := TX8) (N := 10) hx hb hts hin8 tyX8 tyX8_ok nmX8 hown hK hP hD hS 3 rfl rfl 6 (by decide) f40 (fun _ h9 => h9) rfl (by decide +kernel) rfl rfl (Nat.le_of_ble_eq_true rfl) dX8_takeFrom_119 (fun H locs hP hD hS => ?_)
    obtain ⟨xs_1, exs_1⟩ : ∃ z, z = uT xs 0 (sF (xT xs 0) 6 (gF (xT xs 1) 6)) := ⟨_, rfl⟩
    have hP : va_P D vwCl (xW b T xa (uT xs 0 (sF (xT xs 0) 6 (gF (xT xs 1) 6)))) H := hP
    have hD : va_D A (xW b T xa (uT xs 0 (sF (xT xs 0) 6 (gF (xT xs 1) 6)))) := hD
    have hR : xRel b xa (uT xs 0 (sF (xT xs 0) 6 (gF (xT xs 1) 6))) := hR.uT _ _
    rw [← exs_1] at hP hD hR
    have heq := nm_h exs_1 heq
    refine lv_aload_n hx hb dX8_takeFrom_122 rfl (lv_at hl 0 rfl) ?_
    refine lv_aload_n hx hb dX8_takeFrom_123 rfl (lv_at hl 1 rfl) ?_
    refine va_get (D := D) (ci := 8) (v := .int (gF (xT xs_1 1) 7)) (C := RX8) (T := TX8) (N := 10) hx hb hts hin8 hown hK hP 10 rfl rfl 7 (by decide) f43 (fun _ h9 => h9) rfl dX8_takeFrom_124 ?_
    obtain ⟨n_2, n_2f, heq⟩ := gz_h heq
    refine va_put (D := D) (ci := 8) (v := .int (gF (xT xs_1 1) 7)) (ty := .boolean) (C := RX8) (T := TX8) (N := 10) hx hb hts hin8 tyX8 tyX8_ok nmX8 hown hK hP hD hS 3 rfl rfl 7 (by decide) f43 (fun _ h9 => h9) rfl (by decide +kernel) n_2 n_2f (Nat.le_of_ble_eq_true rfl) dX8_takeFrom_127 (fun H locs hP hD hS => ?_)
    obtain ⟨xs_3, exs_3⟩ : ∃ z, z = uT xs_1 0 (sF (xT xs_1 0) 7 (gF (xT xs_1 1) 7)) := ⟨_, rfl⟩
    have hP : va_P D vwCl (xW b T xa (uT xs_1 0 (sF (xT xs_1 0) 7 (gF (xT xs_1 1) 7)))) H := hP
    have hD : va_D A (xW b T xa (uT xs_1 0 (sF (xT xs_1 0) 7 (gF (xT xs_1 1) 7)))) := hD
    have hR : xRel b xa (uT xs_1 0 (sF (xT xs_1 0) 7 (gF (xT xs_1 1) 7))) := hR.uT _ _
    rw [← exs_3] at hP hD hR
    have heq := nm_h exs_3 heq
    refine lv_aload_n hx hb dX8_takeFrom_130 rfl (lv_at hl 0 rfl) ?_
    refine lv_aload_n hx hb dX8_takeFrom_131 rfl (lv_at hl 1 rfl) ?_
    refine va_get (D := D) (ci := 8) (v := .int (gF (xT xs_3 1) 8)) (C := RX8) (T := TX8) (N := 10) hx hb hts hin8 hown hK hP 10 rfl rfl 8 (by decide) f47 (fun _ h9 => h9) rfl dX8_takeFrom_132 ?_
    refine va_put (D := D) (ci := 8) (v := .int (gF (xT xs_3 1) 8)) (ty := .int) (C := RX8) (T := TX8) (N := 10) hx hb hts hin8 tyX8 tyX8_ok nmX8 hown hK hP hD hS 3 rfl rfl 8 (by decide) f47 (fun _ h9 => h9) rfl (by decide +kernel) rfl rfl (Nat.le_of_ble_eq_true rfl) dX8_takeFrom_135 (fun H locs hP hD hS => ?_)
    obtain ⟨xs_4, exs_4⟩ : ∃ z, z = uT xs_3 0 (sF (xT xs_3 0) 8 (gF (xT xs_3 1) 8)) := ⟨_, rfl⟩
    have hP : va_P D vwCl (xW b T xa (uT xs_3 0 (sF (xT xs_3 0) 8 (gF (xT xs_3 1) 8)))) H := hP
    have hD : va_D A (xW b T xa (uT xs_3 0 (sF (xT xs_3 0) 8 (gF (xT xs_3 1) 8)))) := hD
    have hR : xRel b xa (uT xs_3 0 (sF (xT xs_3 0) 8 (gF (xT xs_3 1) 8))) := hR.uT _ _
    rw [← exs_4] at hP hD hR
    have heq := nm_h exs_4 heq
    refine lv_aload_n hx hb dX8_takeFrom_138 rfl (lv_at hl 0 rfl) ?_
    refine lv_aload_n hx hb dX8_takeFrom_139 rfl (lv_at hl 1 rfl) ?_
    refine va_get (D := D) (ci := 8) (v := .int (gF (xT xs_4 1) 9)) (C := RX8) (T := TX8) (N := 10) hx hb hts hin8 hown hK hP 10 rfl rfl 9 (by decide) f36 (fun _ h9 => h9) rfl dX8_takeFrom_140 ?_
    refine va_put (D := D) (ci := 8) (v := .int (gF (xT xs_4 1) 9)) (ty := .int) (C := RX8) (T := TX8) (N := 10) hx hb hts hin8 tyX8 tyX8_ok nmX8 hown hK hP hD hS 3 rfl rfl 9 (by decide) f36 (fun _ h9 => h9) rfl (by decide +kernel) rfl rfl (Nat.le_of_ble_eq_true rfl) dX8_takeFrom_143 (fun H locs hP hD hS => ?_)
    obtain ⟨xs_5, exs_5⟩ : ∃ z, z = uT xs_4 0 (sF (xT xs_4 0) 9 (gF (xT xs_4 1) 9)) := ⟨_, rfl⟩
    have hP : va_P D vwCl (xW b T xa (uT xs_4 0 (sF (xT xs_4 0) 9 (gF (xT xs_4 1) 9)))) H := hP
    have hD : va_D A (xW b T xa (uT xs_4 0 (sF (xT xs_4 0) 9 (gF (xT xs_4 1) 9)))) := hD
    have hR : xRel b xa (uT xs_4 0 (sF (xT xs_4 0) 9 (gF (xT xs_4 1) 9))) := hR.uT _ _
    rw [← exs_5] at hP hD hR
    have heq := nm_h exs_5 heq
    obtain ⟨-, heq2⟩ := ret_h heq
    subst heq2
    exact hret 146 H locs ls xa hR hU hP hD hS dX8_takeFrom_146
  have b78 : ∀ (n : Nat), ∀ (xs : XS) (v2 : Int32) (xa : XA) (H : Heap) (locs : List Loc) (ls : Array Slot), xRel b xa xs → xSub xa0 xa → va_P D vwCl (xW b T xa xs) H → va_D A (xW b T xa xs) → va_S A s.heap H locs → lv_has ls 3 [(0, .ref (b 3)), (1, .ref (b 10)), (2, .int v2)] → X8_takeFrom_0_1_p78 n xs v2 = some ((), xs') → W p l e rmX8_takeFrom_0_1 s m args below meth c H locs 0 0 Q (F0 m 78 ls []) := by
    intro n
    induction n with
    | zero => intro xs v2 xa H locs ls hR hU hP hD hS hl heq; cases heq
    | succ n ih =>
      intro xs v2 xa H locs ls hR hU hP hD hS hl heq
      rw [X8_takeFrom_0_1_p78_s] at heq
      refine lv_iload_n hx hb dX8_takeFrom_78 rfl (lv_at hl 2 rfl) ?_
      refine lv_bipush (v := (6 : Int32)) hx hb dX8_takeFrom_79 (by decide) ?_
      refine lv_icmp_ge (tgt := 114) hx hb dX8_takeFrom_81 (by decide) (fun c_6 => ?_) (fun c_6 => ?_)
      · have heq := it_t c_6 heq
        exact b114 xs xa H locs ls hR hU hP hD hS (lv_sub hl [0, 1] rfl) heq
      have heq := it_f c_6 heq
      refine lv_aload_n hx hb dX8_takeFrom_84 rfl (lv_at hl 0 rfl) ?_
      refine va_get (D := D) (ci := 8) (v := .ref (b 8)) (C := RX8) (T := TX8) (N := 10) hx hb hts hin8 hown hK hP 3 rfl rfl 4 (by decide) f27 (fun _ h9 => h9) rfl dX8_takeFrom_85 ?_
      refine lv_iload_n hx hb dX8_takeFrom_88 rfl (lv_at hl 2 rfl) ?_
      refine lv_aload_n hx hb dX8_takeFrom_89 rfl (lv_at hl 1 rfl) ?_
      refine va_get (D := D) (ci := 8) (v := .ref (b 15)) (C := RX8) (T := TX8) (N := 10) hx hb hts hin8 hown hK hP 10 rfl rfl 4 (by decide) f27 (fun _ h9 => h9) rfl dX8_takeFrom_90 ?_
      refine lv_iload_n hx hb dX8_takeFrom_93 rfl (lv_at hl 2 rfl) ?_
      obtain ⟨n_7, heq⟩ := inr_h heq
      refine va_iald (f := gA (xT xs 1) 4) (n := 6) hx hb hK hP 15 0 rfl rfl n_7 dX8_takeFrom_94 ?_
      obtain ⟨n_8, heq⟩ := inr_h heq
      refine va_iast (f := gA (xT xs 0) 4) (n := 6) hx hb hK hP hD hS 8 0 rfl rfl n_8 dX8_takeFrom_95 (fun H locs hP hD hS => ?_)
      obtain ⟨xs_9, exs_9⟩ : ∃ z, z = uT xs 0 (sA (xT xs 0) 4 v2.toNatClampNeg (gA (xT xs 1) 4 v2.toNatClampNeg)) := ⟨_, rfl⟩
      have hP : va_P D vwCl (xW b T xa (uT xs 0 (sA (xT xs 0) 4 v2.toNatClampNeg (gA (xT xs 1) 4 v2.toNatClampNeg)))) H := hP
      have hD : va_D A (xW b T xa (uT xs 0 (sA (xT xs 0) 4 v2.toNatClampNeg (gA (xT xs 1) 4 v2.toNatClampNeg)))) := hD
      have hR : xRel b xa (uT xs 0 (sA (xT xs 0) 4 v2.toNatClampNeg (gA (xT xs 1) 4 v2.toNatClampNeg))) := hR.uT _ _
      rw [← exs_9] at hP hD hR
      have heq := nm_h exs_9 heq
      refine lv_aload_n hx hb dX8_takeFrom_96 rfl (lv_at hl 0 rfl) ?_
      refine va_get (D := D) (ci := 8) (v := .ref (b 9)) (C := RX8) (T := TX8) (N := 10) hx hb hts hin8 hown hK hP 3 rfl rfl 5 (by decide) f30 (fun _ h9 => h9) rfl dX8_takeFrom_97 ?_
      refine lv_iload_n hx hb dX8_takeFrom_100 rfl (lv_at hl 2 rfl) ?_
      refine lv_aload_n hx hb dX8_takeFrom_101 rfl (lv_at hl 1 rfl) ?_
      refine va_get (D := D) (ci := 8) (v := .ref (b 16)) (C := RX8) (T := TX8) (N := 10) hx hb hts hin8 hown hK hP 10 rfl rfl 5 (by decide) f30 (fun _ h9 => h9) rfl dX8_takeFrom_102 ?_
      refine lv_iload_n hx hb dX8_takeFrom_105 rfl (lv_at hl 2 rfl) ?_
      obtain ⟨n_10, heq⟩ := inr_h heq
      refine va_iald (f := gA (xT xs_9 1) 5) (n := 6) hx hb hK hP 16 0 rfl rfl n_10 dX8_takeFrom_106 ?_
      obtain ⟨n_11, heq⟩ := inr_h heq
      refine va_iast (f := gA (xT xs_9 0) 5) (n := 6) hx hb hK hP hD hS 9 0 rfl rfl n_11 dX8_takeFrom_107 (fun H locs hP hD hS => ?_)
      obtain ⟨xs_12, exs_12⟩ : ∃ z, z = uT xs_9 0 (sA (xT xs_9 0) 5 v2.toNatClampNeg (gA (xT xs_9 1) 5 v2.toNatClampNeg)) := ⟨_, rfl⟩
      have hP : va_P D vwCl (xW b T xa (uT xs_9 0 (sA (xT xs_9 0) 5 v2.toNatClampNeg (gA (xT xs_9 1) 5 v2.toNatClampNeg)))) H := hP
      have hD : va_D A (xW b T xa (uT xs_9 0 (sA (xT xs_9 0) 5 v2.toNatClampNeg (gA (xT xs_9 1) 5 v2.toNatClampNeg)))) := hD
      have hR : xRel b xa (uT xs_9 0 (sA (xT xs_9 0) 5 v2.toNatClampNeg (gA (xT xs_9 1) 5 v2.toNatClampNeg))) := hR.uT _ _
      rw [← exs_12] at hP hD hR
      have heq := nm_h exs_12 heq
      obtain ⟨x_13, ex_13⟩ : ∃ y : Int32, y = v2 + (1 : Int32) := ⟨_, rfl⟩
      have heq := nm_h ex_13 heq
      refine lv_iinc (v := x_13) (lv' := [(2, .int x_13), (0, .ref (b 3)), (1, .ref (b 10))]) hx hb dX8_takeFrom_108 hl (k := 2) rfl (by rw [ex_13]; rfl) (by decide) rfl (fun ls hl => ?_)
      refine lv_goto (tgt := 78) hx hb dX8_takeFrom_111 (by decide) ?_
      exact ih xs_12 x_13 xa H locs ls hR hU hP hD hS (lv_sub hl [1, 2, 0] rfl) heq
  have b76 : ∀ (xs : XS) (xa : XA) (H : Heap) (locs : List Loc) (ls : Array Slot), xRel b xa xs → xSub xa0 xa → va_P D vwCl (xW b T xa xs) H → va_D A (xW b T xa xs) → va_S A s.heap H locs → lv_has ls 3 [(0, .ref (b 3)), (1, .ref (b 10))] → X8_takeFrom_0_1_p76 xs = some ((), xs') → W p l e rmX8_takeFrom_0_1 s m args below meth c H locs 0 0 Q (F0 m 76 ls []) := by
    intro xs xa H locs ls hR hU hP hD hS hl heq
    unfold X8_takeFrom_0_1_p76 at heq
    refine lv_iconst (v := (0 : Int32)) hx hb dX8_takeFrom_76 (by decide) ?_
    refine lv_istore_n (lv' := [(2, .int (0 : Int32)), (0, .ref (b 3)), (1, .ref (b 10))]) hx hb dX8_takeFrom_77 rfl hl (by decide) rfl (fun ls hl => ?_)
    exact b78 7 xs (0 : Int32) xa H locs ls hR hU hP hD hS (lv_sub hl [1, 2, 0] rfl) heq
  have b52 : ∀ (n : Nat), ∀ (xs : XS) (v2 : Int32) (xa : XA) (H : Heap) (locs : List Loc) (ls : Array Slot), xRel b xa xs → xSub xa0 xa → va_P D vwCl (xW b T xa xs) H → va_D A (xW b T xa xs) → va_S A s.heap H locs → lv_has ls 3 [(0, .ref (b 3)), (1, .ref (b 10)), (2, .int v2)] → X8_takeFrom_0_1_p52 n xs v2 = some ((), xs') → W p l e rmX8_takeFrom_0_1 s m args below meth c H locs 0 0 Q (F0 m 52 ls []) := by
    intro n
    induction n with
    | zero => intro xs v2 xa H locs ls hR hU hP hD hS hl heq; cases heq
    | succ n ih =>
      intro xs v2 xa H locs ls hR hU hP hD hS hl heq
      rw [X8_takeFrom_0_1_p52_s] at heq
      refine lv_iload_n hx hb dX8_takeFrom_52 rfl (lv_at hl 2 rfl) ?_
      refine lv_bipush (v := (7 : Int32)) hx hb dX8_takeFrom_53 (by decide) ?_
      refine lv_icmp_ge (tgt := 76) hx hb dX8_takeFrom_55 (by decide) (fun c_14 => ?_) (fun c_14 => ?_)
      · have heq := it_t c_14 heq
        exact b76 xs xa H locs ls hR hU hP hD hS (lv_sub hl [0, 1] rfl) heq
      have heq := it_f c_14 heq
      refine lv_aload_n hx hb dX8_takeFrom_58 rfl (lv_at hl 0 rfl) ?_
      refine va_get (D := D) (ci := 8) (v := .ref (b 7)) (C := RX8) (T := TX8) (N := 10) hx hb hts hin8 hown hK hP 3 rfl rfl 3 (by decide) f24 (fun _ h9 => h9) rfl dX8_takeFrom_59 ?_
      refine lv_iload_n hx hb dX8_takeFrom_62 rfl (lv_at hl 2 rfl) ?_
      refine lv_aload_n hx hb dX8_takeFrom_63 rfl (lv_at hl 1 rfl) ?_
      refine va_get (D := D) (ci := 8) (v := .ref (b 14)) (C := RX8) (T := TX8) (N := 10) hx hb hts hin8 hown hK hP 10 rfl rfl 3 (by decide) f24 (fun _ h9 => h9) rfl dX8_takeFrom_64 ?_
      refine lv_iload_n hx hb dX8_takeFrom_67 rfl (lv_at hl 2 rfl) ?_
      obtain ⟨n_15, heq⟩ := inr_h heq
      refine va_iald (f := gA (xT xs 1) 3) (n := 7) hx hb hK hP 14 0 rfl rfl n_15 dX8_takeFrom_68 ?_
      obtain ⟨n_16, heq⟩ := inr_h heq
      refine va_iast (f := gA (xT xs 0) 3) (n := 7) hx hb hK hP hD hS 7 0 rfl rfl n_16 dX8_takeFrom_69 (fun H locs hP hD hS => ?_)
      obtain ⟨xs_17, exs_17⟩ : ∃ z, z = uT xs 0 (sA (xT xs 0) 3 v2.toNatClampNeg (gA (xT xs 1) 3 v2.toNatClampNeg)) := ⟨_, rfl⟩
      have hP : va_P D vwCl (xW b T xa (uT xs 0 (sA (xT xs 0) 3 v2.toNatClampNeg (gA (xT xs 1) 3 v2.toNatClampNeg)))) H := hP
      have hD : va_D A (xW b T xa (uT xs 0 (sA (xT xs 0) 3 v2.toNatClampNeg (gA (xT xs 1) 3 v2.toNatClampNeg)))) := hD
      have hR : xRel b xa (uT xs 0 (sA (xT xs 0) 3 v2.toNatClampNeg (gA (xT xs 1) 3 v2.toNatClampNeg))) := hR.uT _ _
      rw [← exs_17] at hP hD hR
      have heq := nm_h exs_17 heq
      obtain ⟨x_18, ex_18⟩ : ∃ y : Int32, y = v2 + (1 : Int32) := ⟨_, rfl⟩
      have heq := nm_h ex_18 heq
      refine lv_iinc (v := x_18) (lv' := [(2, .int x_18), (0, .ref (b 3)), (1, .ref (b 10))]) hx hb dX8_takeFrom_70 hl (k := 2) rfl (by rw [ex_18]; rfl) (by decide) rfl (fun ls hl => ?_)
      refine lv_goto (tgt := 52) hx hb dX8_takeFrom_73 (by decide) ?_
      exact ih xs_17 x_18 xa H locs ls hR hU hP hD hS (lv_sub hl [1, 2, 0] rfl) heq
  have b50 : ∀ (xs : XS) (xa : XA) (H : Heap) (locs : List Loc) (ls : Array Slot), xRel b xa xs → xSub xa0 xa → va_P D vwCl (xW b T xa xs) H → va_D A (xW b T xa xs) → va_S A s.heap H locs → lv_has ls 3 [(0, .ref (b 3)), (1, .ref (b 10))] → X8_takeFrom_0_1_p50 xs = some ((), xs') → W p l e rmX8_takeFrom_0_1 s m args below meth c H locs 0 0 Q (F0 m 50 ls []) := by
    intro xs xa H locs ls hR hU hP hD hS hl heq
    unfold X8_takeFrom_0_1_p50 at heq
    refine lv_iconst (v := (0 : Int32)) hx hb dX8_takeFrom_50 (by decide) ?_
    refine lv_istore_n (lv' := [(2, .int (0 : Int32)), (0, .ref (b 3)), (1, .ref (b 10))]) hx hb dX8_takeFrom_51 rfl hl (by decide) rfl (fun ls hl => ?_)
    exact b52 8 xs (0 : Int32) xa H locs ls hR hU hP hD hS (lv_sub hl [1, 2, 0] rfl) heq
  have b2 : ∀ (n : Nat), ∀ (xs : XS) (v2 : Int32) (xa : XA) (H : Heap) (locs : List Loc) (ls : Array Slot), xRel b xa xs → xSub xa0 xa → va_P D vwCl (xW b T xa xs) H → va_D A (xW b T xa xs) → va_S A s.heap H locs → lv_has ls 3 [(0, .ref (b 3)), (1, .ref (b 10)), (2, .int v2)] → X8_takeFrom_0_1_p2 n xs v2 = some ((), xs') → W p l e rmX8_takeFrom_0_1 s m args below meth c H locs 0 0 Q (F0 m 2 ls []) := by
    intro n
    induction n with
    | zero => intro xs v2 xa H locs ls hR hU hP hD hS hl heq; cases heq
    | succ n ih =>
      intro xs v2 xa H locs ls hR hU hP hD hS hl heq
      rw [X8_takeFrom_0_1_p2_s] at heq
      refine lv_iload_n hx hb dX8_takeFrom_2 rfl (lv_at hl 2 rfl) ?_
      refine lv_bipush (v := (12 : Int32)) hx hb dX8_takeFrom_3 (by decide) ?_
      refine lv_icmp_ge (tgt := 50) hx hb dX8_takeFrom_5 (by decide) (fun c_19 => ?_) (fun c_19 => ?_)
      · have heq := it_t c_19 heq
        exact b50 xs xa H locs ls hR hU hP hD hS (lv_sub hl [0, 1] rfl) heq
      have heq := it_f c_19 heq
      refine lv_aload_n hx hb dX8_takeFrom_8 rfl (lv_at hl 0 rfl) ?_
      refine va_get (D := D) (ci := 8) (v := .ref (b 4)) (C := RX8) (T := TX8) (N := 10) hx hb hts hin8 hown hK hP 3 rfl rfl 0 (by decide) f11 (fun _ h9 => h9) rfl dX8_takeFrom_9 ?_
      refine lv_iload_n hx hb dX8_takeFrom_12 rfl (lv_at hl 2 rfl) ?_
      refine lv_aload_n hx hb dX8_takeFrom_13 rfl (lv_at hl 1 rfl) ?_
      refine va_get (D := D) (ci := 8) (v := .ref (b 11)) (C := RX8) (T := TX8) (N := 10) hx hb hts hin8 hown hK hP 10 rfl rfl 0 (by decide) f11 (fun _ h9 => h9) rfl dX8_takeFrom_14 ?_
      refine lv_iload_n hx hb dX8_takeFrom_17 rfl (lv_at hl 2 rfl) ?_
      obtain ⟨n_20, heq⟩ := inr_h heq
      have hb_21 := hR.1 1 (by decide) v2.toNatClampNeg (in_lt n_20)
      refine va_aldq (C := RX0) (n := 12) (f := fun j => some (xFo xa 1 j)) hx hb hK hP 11 1 rfl rfl n_20 dX8_takeFrom_18 ?_
      refine W.eq (g2 := F0 m 19 ls [.ref (xFo xa 1 v2.toNatClampNeg), .int v2, .ref (b 4)]) rfl ?_
      obtain ⟨n_22, heq⟩ := inr_h heq
      refine x_aast0 hx hb hK hX hP hD hS hb_21 hR n_22 dX8_takeFrom_19 (fun H locs hP hD hS => ?_)
      obtain ⟨xa_23, exa_23⟩ : ∃ z, z = xFoot xa 0 v2.toNatClampNeg (xFo xa 1 v2.toNatClampNeg) := ⟨_, rfl⟩
      have hR : xRel b (xFoot xa 0 v2.toNatClampNeg (xFo xa 1 v2.toNatClampNeg)) (uB xs 0 v2.toNatClampNeg (xB xs 1 v2.toNatClampNeg)) := hR.foot hb_21
      have hsxa_23 : xSub xa xa_23 := by rw [exa_23]; exact xSub.foot
      rw [← exa_23] at hP hD hR
      have hU := xSub.tr hU hsxa_23
      obtain ⟨xs_24, exs_24⟩ : ∃ z, z = uB xs 0 v2.toNatClampNeg (xB xs 1 v2.toNatClampNeg) := ⟨_, rfl⟩
      rw [← exs_24] at hP hD hR
      have heq := nm_h exs_24 heq
      refine lv_aload_n hx hb dX8_takeFrom_20 rfl (lv_at hl 0 rfl) ?_
      refine va_get (D := D) (ci := 8) (v := .ref (b 5)) (C := RX8) (T := TX8) (N := 10) hx hb hts hin8 hown hK hP 3 rfl rfl 1 (by decide) f17 (fun _ h9 => h9) rfl dX8_takeFrom_21 ?_
      refine lv_iload_n hx hb dX8_takeFrom_24 rfl (lv_at hl 2 rfl) ?_
      refine lv_aload_n hx hb dX8_takeFrom_25 rfl (lv_at hl 1 rfl) ?_
      refine va_get (D := D) (ci := 8) (v := .ref (b 12)) (C := RX8) (T := TX8) (N := 10) hx hb hts hin8 hown hK hP 10 rfl rfl 1 (by decide) f17 (fun _ h9 => h9) rfl dX8_takeFrom_26 ?_
      refine lv_iload_n hx hb dX8_takeFrom_29 rfl (lv_at hl 2 rfl) ?_
      obtain ⟨n_25, heq⟩ := inr_h heq
      refine va_iald (f := gA (xT xs_24 1) 1) (n := 12) hx hb hK hP 12 0 rfl rfl n_25 dX8_takeFrom_30 ?_
      obtain ⟨n_26, heq⟩ := inr_h heq
      refine va_iast (f := gA (xT xs_24 0) 1) (n := 12) hx hb hK hP hD hS 5 0 rfl rfl n_26 dX8_takeFrom_31 (fun H locs hP hD hS => ?_)
      obtain ⟨xs_27, exs_27⟩ : ∃ z, z = uT xs_24 0 (sA (xT xs_24 0) 1 v2.toNatClampNeg (gA (xT xs_24 1) 1 v2.toNatClampNeg)) := ⟨_, rfl⟩
      have hP : va_P D vwCl (xW b T xa_23 (uT xs_24 0 (sA (xT xs_24 0) 1 v2.toNatClampNeg (gA (xT xs_24 1) 1 v2.toNatClampNeg)))) H := hP
      have hD : va_D A (xW b T xa_23 (uT xs_24 0 (sA (xT xs_24 0) 1 v2.toNatClampNeg (gA (xT xs_24 1) 1 v2.toNatClampNeg)))) := hD
      have hR : xRel b xa_23 (uT xs_24 0 (sA (xT xs_24 0) 1 v2.toNatClampNeg (gA (xT xs_24 1) 1 v2.toNatClampNeg))) := hR.uT _ _
      rw [← exs_27] at hP hD hR
      have heq := nm_h exs_27 heq
      refine lv_aload_n hx hb dX8_takeFrom_32 rfl (lv_at hl 0 rfl) ?_
      refine va_get (D := D) (ci := 8) (v := .ref (b 6)) (C := RX8) (T := TX8) (N := 10) hx hb hts hin8 hown hK hP 3 rfl rfl 2 (by decide) f21 (fun _ h9 => h9) rfl dX8_takeFrom_33 ?_
      refine lv_iload_n hx hb dX8_takeFrom_36 rfl (lv_at hl 2 rfl) ?_
      refine lv_aload_n hx hb dX8_takeFrom_37 rfl (lv_at hl 1 rfl) ?_
      refine va_get (D := D) (ci := 8) (v := .ref (b 13)) (C := RX8) (T := TX8) (N := 10) hx hb hts hin8 hown hK hP 10 rfl rfl 2 (by decide) f21 (fun _ h9 => h9) rfl dX8_takeFrom_38 ?_
      refine lv_iload_n hx hb dX8_takeFrom_41 rfl (lv_at hl 2 rfl) ?_
      obtain ⟨n_28, heq⟩ := inr_h heq
      refine va_iald (f := gA (xT xs_27 1) 2) (n := 12) hx hb hK hP 13 0 rfl rfl n_28 dX8_takeFrom_42 ?_
      obtain ⟨n_29, heq⟩ := inr_h heq
      refine va_iast (f := gA (xT xs_27 0) 2) (n := 12) hx hb hK hP hD hS 6 0 rfl rfl n_29 dX8_takeFrom_43 (fun H locs hP hD hS => ?_)
      obtain ⟨xs_30, exs_30⟩ : ∃ z, z = uT xs_27 0 (sA (xT xs_27 0) 2 v2.toNatClampNeg (gA (xT xs_27 1) 2 v2.toNatClampNeg)) := ⟨_, rfl⟩
      have hP : va_P D vwCl (xW b T xa_23 (uT xs_27 0 (sA (xT xs_27 0) 2 v2.toNatClampNeg (gA (xT xs_27 1) 2 v2.toNatClampNeg)))) H := hP
      have hD : va_D A (xW b T xa_23 (uT xs_27 0 (sA (xT xs_27 0) 2 v2.toNatClampNeg (gA (xT xs_27 1) 2 v2.toNatClampNeg)))) := hD
      have hR : xRel b xa_23 (uT xs_27 0 (sA (xT xs_27 0) 2 v2.toNatClampNeg (gA (xT xs_27 1) 2 v2.toNatClampNeg))) := hR.uT _ _
      rw [← exs_30] at hP hD hR
      have heq := nm_h exs_30 heq
      obtain ⟨x_31, ex_31⟩ : ∃ y : Int32, y = v2 + (1 : Int32) := ⟨_, rfl⟩
      have heq := nm_h ex_31 heq
      refine lv_iinc (v := x_31) (lv' := [(2, .int x_31), (0, .ref (b 3)), (1, .ref (b 10))]) hx hb dX8_takeFrom_44 hl (k := 2) rfl (by rw [ex_31]; rfl) (by decide) rfl (fun ls hl => ?_)
      refine lv_goto (tgt := 2) hx hb dX8_takeFrom_47 (by decide) ?_
      exact ih xs_30 x_31 xa_23 H locs ls hR hU hP hD hS (lv_sub hl [1, 2, 0] rfl) heq
  obtain ⟨H, hH⟩ : ∃ H, H = s.heap := ⟨_, rfl⟩
  obtain ⟨locs, hlocs⟩ : ∃ z : List Loc, z = [] := ⟨_, rfl⟩
  have hS : va_S A s.heap H locs := by rw [hH, hlocs]; exact hS
  have hP : va_P D vwCl (xW b T xa xs) H := by rw [hH]; exact hP
  suffices h9 : W p l e rmX8_takeFrom_0_1 s m args below meth c H locs 0 0 Q (F0 m 0 ls []) by rw [hH, hlocs] at h9; exact h9
  clear hH hlocs
  unfold X8_takeFrom_0_1 at heq
  refine lv_iconst (v := (0 : Int32)) hx hb dX8_takeFrom_0 (by decide) ?_
  refine lv_istore_n (lv' := [(2, .int (0 : Int32)), (0, .ref (b 3)), (1, .ref (b 10))]) hx hb dX8_takeFrom_1 rfl hl (by decide) rfl (fun ls hl => ?_)
  exact b2 13 xs (0 : Int32) xa H locs ls hR hU hP hD hS (lv_sub hl [1, 2, 0] rfl) heq
/-! X8 takeFrom_2_0 -/
def X8_takeFrom_2_0_p114 (xs : XS) : Option (Unit × XS) :=
    nm (uT xs 2 (sF (xT xs 2) 6 (gF (xT xs 0) 6))) fun xs_1 =>
    gz (gF (xT xs_1 0) 7) <|
    nm (uT xs_1 2 (sF (xT xs_1 2) 7 (gF (xT xs_1 0) 7))) fun xs_3 =>
    nm (uT xs_3 2 (sF (xT xs_3 2) 8 (gF (xT xs_3 0) 8))) fun xs_4 =>
    nm (uT xs_4 2 (sF (xT xs_4 2) 9 (gF (xT xs_4 0) 9))) fun xs_5 =>
    some ((), xs_5)
def X8_takeFrom_2_0_p78 : Nat → XS → Int32 → Option (Unit × XS)
  | 0, _, _ => none
  | n + 1, xs, v2 =>
    if (6 : Int32) ≤ v2 then
      (X8_takeFrom_2_0_p114 xs)
    else
    inr v2 6 <|
    inr v2 6 <|
    nm (uT xs 2 (sA (xT xs 2) 4 v2.toNatClampNeg (gA (xT xs 0) 4 v2.toNatClampNeg))) fun xs_9 =>
    inr v2 6 <|
    inr v2 6 <|
    nm (uT xs_9 2 (sA (xT xs_9 2) 5 v2.toNatClampNeg (gA (xT xs_9 0) 5 v2.toNatClampNeg))) fun xs_12 =>
    nm (v2 + (1 : Int32)) fun x_13 =>
    X8_takeFrom_2_0_p78 n xs_12 x_13
theorem X8_takeFrom_2_0_p78_s (n : Nat) (xs : XS) (v2 : Int32) : X8_takeFrom_2_0_p78 (n + 1) xs v2 =
    (if (6 : Int32) ≤ v2 then
      (X8_takeFrom_2_0_p114 xs)
    else
    inr v2 6 <|
    inr v2 6 <|
    nm (uT xs 2 (sA (xT xs 2) 4 v2.toNatClampNeg (gA (xT xs 0) 4 v2.toNatClampNeg))) fun xs_9 =>
    inr v2 6 <|
    inr v2 6 <|
    nm (uT xs_9 2 (sA (xT xs_9 2) 5 v2.toNatClampNeg (gA (xT xs_9 0) 5 v2.toNatClampNeg))) fun xs_12 =>
    nm (v2 + (1 : Int32)) fun x_13 =>
    X8_takeFrom_2_0_p78 n xs_12 x_13) := rfl
def X8_takeFrom_2_0_p76 (xs : XS) : Option (Unit × XS) :=
    X8_takeFrom_2_0_p78 7 xs (0 : Int32)
def X8_takeFrom_2_0_p52 : Nat → XS → Int32 → Option (Unit × XS)
  | 0, _, _ => none
  | n + 1, xs, v2 =>
    if (7 : Int32) ≤ v2 then
      (X8_takeFrom_2_0_p76 xs)
    else
    inr v2 7 <|
    inr v2 7 <|
    nm (uT xs 2 (sA (xT xs 2) 3 v2.toNatClampNeg (gA (xT xs 0) 3 v2.toNatClampNeg))) fun xs_17 =>
    nm (v2 + (1 : Int32)) fun x_18 =>
    X8_takeFrom_2_0_p52 n xs_17 x_18
theorem X8_takeFrom_2_0_p52_s (n : Nat) (xs : XS) (v2 : Int32) : X8_takeFrom_2_0_p52 (n + 1) xs v2 =
    (if (7 : Int32) ≤ v2 then
      (X8_takeFrom_2_0_p76 xs)
    else
    inr v2 7 <|
    inr v2 7 <|
    nm (uT xs 2 (sA (xT xs 2) 3 v2.toNatClampNeg (gA (xT xs 0) 3 v2.toNatClampNeg))) fun xs_17 =>
    nm (v2 + (1 : Int32)) fun x_18 =>
    X8_takeFrom_2_0_p52 n xs_17 x_18) := rfl
def X8_takeFrom_2_0_p50 (xs : XS) : Option (Unit × XS) :=
    X8_takeFrom_2_0_p52 8 xs (0 : Int32)
def X8_takeFrom_2_0_p2 : Nat → XS → Int32 → Option (Unit × XS)
  | 0, _, _ => none
  | n + 1, xs, v2 =>
    if (12 : Int32) ≤ v2 then
      (X8_takeFrom_2_0_p50 xs)
    else
    inr v2 12 <|
    inr v2 12 <|
    nm (uB xs 2 v2.toNatClampNeg (xB xs 0 v2.toNatClampNeg)) fun xs_24 =>
    inr v2 12 <|
    inr v2 12 <|
    nm (uT xs_24 2 (sA (xT xs_24 2) 1 v2.toNatClampNeg (gA (xT xs_24 0) 1 v2.toNatClampNeg))) fun xs_27 =>
    inr v2 12 <|
    inr v2 12 <|
    nm (uT xs_27 2 (sA (xT xs_27 2) 2 v2.toNatClampNeg (gA (xT xs_27 0) 2 v2.toNatClampNeg))) fun xs_30 =>
    nm (v2 + (1 : Int32)) fun x_31 =>
    X8_takeFrom_2_0_p2 n xs_30 x_31
theorem X8_takeFrom_2_0_p2_s (n : Nat) (xs : XS) (v2 : Int32) : X8_takeFrom_2_0_p2 (n + 1) xs v2 =
    (if (12 : Int32) ≤ v2 then
      (X8_takeFrom_2_0_p50 xs)
    else
    inr v2 12 <|
    inr v2 12 <|
    nm (uB xs 2 v2.toNatClampNeg (xB xs 0 v2.toNatClampNeg)) fun xs_24 =>
    inr v2 12 <|
    inr v2 12 <|
    nm (uT xs_24 2 (sA (xT xs_24 2) 1 v2.toNatClampNeg (gA (xT xs_24 0) 1 v2.toNatClampNeg))) fun xs_27 =>
    inr v2 12 <|
    inr v2 12 <|
    nm (uT xs_27 2 (sA (xT xs_27 2) 2 v2.toNatClampNeg (gA (xT xs_27 0) 2 v2.toNatClampNeg))) fun xs_30 =>
    nm (v2 + (1 : Int32)) fun x_31 =>
    X8_takeFrom_2_0_p2 n xs_30 x_31) := rfl
def X8_takeFrom_2_0 (xs : XS) : Option (Unit × XS) :=
    X8_takeFrom_2_0_p2 13 xs (0 : Int32)
abbrev rmX8_takeFrom_2_0 : Room := { frames := 0, cells := 0, slots := 0, locals := 0 }
set_option maxRecDepth 100000 in
set_option maxHeartbeats 8000000 in
theorem okX8_takeFrom_2_0 (z : Nat → Nat) (l : Launch) (D : va_G) (T : mT3) (b : Nat → Nat) {xa : XA} {xs : XS} {xs' : XS} (hR : xRel b xa xs) (heq : X8_takeFrom_2_0 xs = some ((), xs')) : hXv xSub z l D T b yX8_takeFrom wsX8_takeFrom rmX8_takeFrom_2_0 [.ref (b 17), .ref (b 3)] xa xs xs' := by
  refine xbody_v (plainFor_of_name (by decide)) rfl (Nat.le_of_ble_eq_true rfl) (fun p e s m args below meth c A Q hx hb hml hown hts hK hA hX hret ls hP hD hS hl => ?_)
  have hl : lv_has ls 3 [(0, .ref (b 17)), (1, .ref (b 3))] := hl
  have hin8 : ∀ w ∈ wsX80, w ∈ wsX8_takeFrom := by decide +kernel
  have f11 : (Cond.fieldLink RX8 11 RX8 (TX8 0).2.1 (TX8 0).2.2.1).before args s = true := hts (.fieldLink RX8 11 RX8 "foot" "[LLaidDownTheLane$Brick;") (by decide +kernel)
  have f17 : (Cond.fieldLink RX8 17 RX8 (TX8 1).2.1 (TX8 1).2.2.1).before args s = true := hts (.fieldLink RX8 17 RX8 "bears" "[I") (by decide +kernel)
  have f21 : (Cond.fieldLink RX8 21 RX8 (TX8 2).2.1 (TX8 2).2.2.1).before args s = true := hts (.fieldLink RX8 21 RX8 "burns" "[I") (by decide +kernel)
  have f24 : (Cond.fieldLink RX8 24 RX8 (TX8 3).2.1 (TX8 3).2.2.1).before args s = true := hts (.fieldLink RX8 24 RX8 "told" "[I") (by decide +kernel)
  have f27 : (Cond.fieldLink RX8 27 RX8 (TX8 4).2.1 (TX8 4).2.2.1).before args s = true := hts (.fieldLink RX8 27 RX8 "houseSide" "[I") (by decide +kernel)
  have f30 : (Cond.fieldLink RX8 30 RX8 (TX8 5).2.1 (TX8 5).2.2.1).before args s = true := hts (.fieldLink RX8 30 RX8 "houseFar" "[I") (by decide +kernel)
  have f36 : (Cond.fieldLink RX8 36 RX8 (TX8 9).2.1 (TX8 9).2.2.1).before args s = true := hts (.fieldLink RX8 36 RX8 "fallenTo" "I") (by decide +kernel)
  have f40 : (Cond.fieldLink RX8 40 RX8 (TX8 6).2.1 (TX8 6).2.2.1).before args s = true := hts (.fieldLink RX8 40 RX8 "houses" "I") (by decide +kernel)
  have f43 : (Cond.fieldLink RX8 43 RX8 (TX8 7).2.1 (TX8 7).2.2.1).before args s = true := hts (.fieldLink RX8 43 RX8 "lit" "Z") (by decide +kernel)
  have f47 : (Cond.fieldLink RX8 47 RX8 (TX8 8).2.1 (TX8 8).2.2.1).before args s = true := hts (.fieldLink RX8 47 RX8 "minute" "I") (by decide +kernel)
  obtain ⟨xa0, hxa0⟩ : ∃ z : XA, z = xa := ⟨_, rfl⟩
  rw [← hxa0] at hret
  have hU : xSub xa0 xa := by rw [hxa0]; exact xSub.rf
  clear hxa0
  have b114 : ∀ (xs : XS) (xa : XA) (H : Heap) (locs : List Loc) (ls : Array Slot), xRel b xa xs → xSub xa0 xa → va_P D vwCl (xW b T xa xs) H → va_D A (xW b T xa xs) → va_S A s.heap H locs → lv_has ls 3 [(0, .ref (b 17)), (1, .ref (b 3))] → X8_takeFrom_2_0_p114 xs = some ((), xs') → W p l e rmX8_takeFrom_2_0 s m args below meth c H locs 0 0 Q (F0 m 114 ls []) := by
    intro xs xa H locs ls hR hU hP hD hS hl heq
    unfold X8_takeFrom_2_0_p114 at heq
    refine lv_aload_n hx hb dX8_takeFrom_114 rfl (lv_at hl 0 rfl) ?_
    refine lv_aload_n hx hb dX8_takeFrom_115 rfl (lv_at hl 1 rfl) ?_
    refine va_get (D := D) (ci := 8) (v := .int (gF (xT xs 0) 6)) (C := RX8) (T := TX8) (N := 10) hx hb hts hin8 hown hK hP 3 rfl rfl 6 (by decide) f40 (fun _ h9 => h9) rfl dX8_takeFrom_116 ?_
    refine va_put (D := D) (ci := 8) (v := .int (gF (xT xs 0) 6)) (ty := .int) (C := RX8) (T := TX8) (N := 10) hx hb hts hin8 tyX8 tyX8_ok nmX8 hown hK hP hD hS 17 rfl rfl 6 (by decide) f40 (fun _ h9 => h9) rfl (by decide +kernel) rfl rfl (Nat.le_of_ble_eq_true rfl) dX8_takeFrom_119 (fun H locs hP hD hS => ?_)
    obtain ⟨xs_1, exs_1⟩ : ∃ z, z = uT xs 2 (sF (xT xs 2) 6 (gF (xT xs 0) 6)) := ⟨_, rfl⟩
    have hP : va_P D vwCl (xW b T xa (uT xs 2 (sF (xT xs 2) 6 (gF (xT xs 0) 6)))) H := hP
    have hD : va_D A (xW b T xa (uT xs 2 (sF (xT xs 2) 6 (gF (xT xs 0) 6)))) := hD
    have hR : xRel b xa (uT xs 2 (sF (xT xs 2) 6 (gF (xT xs 0) 6))) := hR.uT _ _
    rw [← exs_1] at hP hD hR
    have heq := nm_h exs_1 heq
    refine lv_aload_n hx hb dX8_takeFrom_122 rfl (lv_at hl 0 rfl) ?_
    refine lv_aload_n hx hb dX8_takeFrom_123 rfl (lv_at hl 1 rfl) ?_
    refine va_get (D := D) (ci := 8) (v := .int (gF (xT xs_1 0) 7)) (C := RX8) (T := TX8) (N := 10) hx hb hts hin8 hown hK hP 3 rfl rfl 7 (by decide) f43 (fun _ h9 => h9) rfl dX8_takeFrom_124 ?_
    obtain ⟨n_2, n_2f, heq⟩ := gz_h heq
    refine va_put (D := D) (ci := 8) (v := .int (gF (xT xs_1 0) 7)) (ty := .boolean) (C := RX8) (T := TX8) (N := 10) hx hb hts hin8 tyX8 tyX8_ok nmX8 hown hK hP hD hS 17 rfl rfl 7 (by decide) f43 (fun _ h9 => h9) rfl (by decide +kernel) n_2 n_2f (Nat.le_of_ble_eq_true rfl) dX8_takeFrom_127 (fun H locs hP hD hS => ?_)
    obtain ⟨xs_3, exs_3⟩ : ∃ z, z = uT xs_1 2 (sF (xT xs_1 2) 7 (gF (xT xs_1 0) 7)) := ⟨_, rfl⟩
    have hP : va_P D vwCl (xW b T xa (uT xs_1 2 (sF (xT xs_1 2) 7 (gF (xT xs_1 0) 7)))) H := hP
    have hD : va_D A (xW b T xa (uT xs_1 2 (sF (xT xs_1 2) 7 (gF (xT xs_1 0) 7)))) := hD
    have hR : xRel b xa (uT xs_1 2 (sF (xT xs_1 2) 7 (gF (xT xs_1 0) 7))) := hR.uT _ _
    rw [← exs_3] at hP hD hR
    have heq := nm_h exs_3 heq
    refine lv_aload_n hx hb dX8_takeFrom_130 rfl (lv_at hl 0 rfl) ?_
    refine lv_aload_n hx hb dX8_takeFrom_131 rfl (lv_at hl 1 rfl) ?_
    refine va_get (D := D) (ci := 8) (v := .int (gF (xT xs_3 0) 8)) (C := RX8) (T := TX8) (N := 10) hx hb hts hin8 hown hK hP 3 rfl rfl 8 (by decide) f47 (fun _ h9 => h9) rfl dX8_takeFrom_132 ?_
    refine va_put (D := D) (ci := 8) (v := .int (gF (xT xs_3 0) 8)) (ty := .int) (C := RX8) (T := TX8) (N := 10) hx hb hts hin8 tyX8 tyX8_ok nmX8 hown hK hP hD hS 17 rfl rfl 8 (by decide) f47 (fun _ h9 => h9) rfl (by decide +kernel) rfl rfl (Nat.le_of_ble_eq_true rfl) dX8_takeFrom_135 (fun H locs hP hD hS => ?_)
    obtain ⟨xs_4, exs_4⟩ : ∃ z, z = uT xs_3 2 (sF (xT xs_3 2) 8 (gF (xT xs_3 0) 8)) := ⟨_, rfl⟩
    have hP : va_P D vwCl (xW b T xa (uT xs_3 2 (sF (xT xs_3 2) 8 (gF (xT xs_3 0) 8)))) H := hP
    have hD : va_D A (xW b T xa (uT xs_3 2 (sF (xT xs_3 2) 8 (gF (xT xs_3 0) 8)))) := hD
    have hR : xRel b xa (uT xs_3 2 (sF (xT xs_3 2) 8 (gF (xT xs_3 0) 8))) := hR.uT _ _
    rw [← exs_4] at hP hD hR
    have heq := nm_h exs_4 heq
    refine lv_aload_n hx hb dX8_takeFrom_138 rfl (lv_at hl 0 rfl) ?_
    refine lv_aload_n hx hb dX8_takeFrom_139 rfl (lv_at hl 1 rfl) ?_
    refine va_get (D := D) (ci := 8) (v := .int (gF (xT xs_4 0) 9)) (C := RX8) (T := TX8) (N := 10) hx hb hts hin8 hown hK hP 3 rfl rfl 9 (by decide) f36 (fun _ h9 => h9) rfl dX8_takeFrom_140 ?_
    refine va_put (D := D) (ci := 8) (v := .int (gF (xT xs_4 0) 9)) (ty := .int) (C := RX8) (T := TX8) (N := 10) hx hb hts hin8 tyX8 tyX8_ok nmX8 hown hK hP hD hS 17 rfl rfl 9 (by decide) f36 (fun _ h9 => h9) rfl (by decide +kernel) rfl rfl (Nat.le_of_ble_eq_true rfl) dX8_takeFrom_143 (fun H locs hP hD hS => ?_)
    obtain ⟨xs_5, exs_5⟩ : ∃ z, z = uT xs_4 2 (sF (xT xs_4 2) 9 (gF (xT xs_4 0) 9)) := ⟨_, rfl⟩
    have hP : va_P D vwCl (xW b T xa (uT xs_4 2 (sF (xT xs_4 2) 9 (gF (xT xs_4 0) 9)))) H := hP
    have hD : va_D A (xW b T xa (uT xs_4 2 (sF (xT xs_4 2) 9 (gF (xT xs_4 0) 9)))) := hD
    have hR : xRel b xa (uT xs_4 2 (sF (xT xs_4 2) 9 (gF (xT xs_4 0) 9))) := hR.uT _ _
    rw [← exs_5] at hP hD hR
    have heq := nm_h exs_5 heq
    obtain ⟨-, heq2⟩ := ret_h heq
    subst heq2
    exact hret 146 H locs ls xa hR hU hP hD hS dX8_takeFrom_146
  have b78 : ∀ (n : Nat), ∀ (xs : XS) (v2 : Int32) (xa : XA) (H : Heap) (locs : List Loc) (ls : Array Slot), xRel b xa xs → xSub xa0 xa → va_P D vwCl (xW b T xa xs) H → va_D A (xW b T xa xs) → va_S A s.heap H locs → lv_has ls 3 [(0, .ref (b 17)), (1, .ref (b 3)), (2, .int v2)] → X8_takeFrom_2_0_p78 n xs v2 = some ((), xs') → W p l e rmX8_takeFrom_2_0 s m args below meth c H locs 0 0 Q (F0 m 78 ls []) := by
    intro n
    induction n with
    | zero => intro xs v2 xa H locs ls hR hU hP hD hS hl heq; cases heq
    | succ n ih =>
      intro xs v2 xa H locs ls hR hU hP hD hS hl heq
      rw [X8_takeFrom_2_0_p78_s] at heq
      refine lv_iload_n hx hb dX8_takeFrom_78 rfl (lv_at hl 2 rfl) ?_
      refine lv_bipush (v := (6 : Int32)) hx hb dX8_takeFrom_79 (by decide) ?_
      refine lv_icmp_ge (tgt := 114) hx hb dX8_takeFrom_81 (by decide) (fun c_6 => ?_) (fun c_6 => ?_)
      · have heq := it_t c_6 heq
        exact b114 xs xa H locs ls hR hU hP hD hS (lv_sub hl [0, 1] rfl) heq
      have heq := it_f c_6 heq
      refine lv_aload_n hx hb dX8_takeFrom_84 rfl (lv_at hl 0 rfl) ?_
      refine va_get (D := D) (ci := 8) (v := .ref (b 22)) (C := RX8) (T := TX8) (N := 10) hx hb hts hin8 hown hK hP 17 rfl rfl 4 (by decide) f27 (fun _ h9 => h9) rfl dX8_takeFrom_85 ?_
      refine lv_iload_n hx hb dX8_takeFrom_88 rfl (lv_at hl 2 rfl) ?_
      refine lv_aload_n hx hb dX8_takeFrom_89 rfl (lv_at hl 1 rfl) ?_
      refine va_get (D := D) (ci := 8) (v := .ref (b 8)) (C := RX8) (T := TX8) (N := 10) hx hb hts hin8 hown hK hP 3 rfl rfl 4 (by decide) f27 (fun _ h9 => h9) rfl dX8_takeFrom_90 ?_
      refine lv_iload_n hx hb dX8_takeFrom_93 rfl (lv_at hl 2 rfl) ?_
      obtain ⟨n_7, heq⟩ := inr_h heq
      refine va_iald (f := gA (xT xs 0) 4) (n := 6) hx hb hK hP 8 0 rfl rfl n_7 dX8_takeFrom_94 ?_
      obtain ⟨n_8, heq⟩ := inr_h heq
      refine va_iast (f := gA (xT xs 2) 4) (n := 6) hx hb hK hP hD hS 22 0 rfl rfl n_8 dX8_takeFrom_95 (fun H locs hP hD hS => ?_)
      obtain ⟨xs_9, exs_9⟩ : ∃ z, z = uT xs 2 (sA (xT xs 2) 4 v2.toNatClampNeg (gA (xT xs 0) 4 v2.toNatClampNeg)) := ⟨_, rfl⟩
      have hP : va_P D vwCl (xW b T xa (uT xs 2 (sA (xT xs 2) 4 v2.toNatClampNeg (gA (xT xs 0) 4 v2.toNatClampNeg)))) H := hP
      have hD : va_D A (xW b T xa (uT xs 2 (sA (xT xs 2) 4 v2.toNatClampNeg (gA (xT xs 0) 4 v2.toNatClampNeg)))) := hD
      have hR : xRel b xa (uT xs 2 (sA (xT xs 2) 4 v2.toNatClampNeg (gA (xT xs 0) 4 v2.toNatClampNeg))) := hR.uT _ _
      rw [← exs_9] at hP hD hR
      have heq := nm_h exs_9 heq
      refine lv_aload_n hx hb dX8_takeFrom_96 rfl (lv_at hl 0 rfl) ?_
      refine va_get (D := D) (ci := 8) (v := .ref (b 23)) (C := RX8) (T := TX8) (N := 10) hx hb hts hin8 hown hK hP 17 rfl rfl 5 (by decide) f30 (fun _ h9 => h9) rfl dX8_takeFrom_97 ?_
      refine lv_iload_n hx hb dX8_takeFrom_100 rfl (lv_at hl 2 rfl) ?_
      refine lv_aload_n hx hb dX8_takeFrom_101 rfl (lv_at hl 1 rfl) ?_
      refine va_get (D := D) (ci := 8) (v := .ref (b 9)) (C := RX8) (T := TX8) (N := 10) hx hb hts hin8 hown hK hP 3 rfl rfl 5 (by decide) f30 (fun _ h9 => h9) rfl dX8_takeFrom_102 ?_
      refine lv_iload_n hx hb dX8_takeFrom_105 rfl (lv_at hl 2 rfl) ?_
      obtain ⟨n_10, heq⟩ := inr_h heq
      refine va_iald (f := gA (xT xs_9 0) 5) (n := 6) hx hb hK hP 9 0 rfl rfl n_10 dX8_takeFrom_106 ?_
      obtain ⟨n_11, heq⟩ := inr_h heq
      refine va_iast (f := gA (xT xs_9 2) 5) (n := 6) hx hb hK hP hD hS 23 0 rfl rfl n_11 dX8_takeFrom_107 (fun H locs hP hD hS => ?_)
      obtain ⟨xs_12, exs_12⟩ : ∃ z, z = uT xs_9 2 (sA (xT xs_9 2) 5 v2.toNatClampNeg (gA (xT xs_9 0) 5 v2.toNatClampNeg)) := ⟨_, rfl⟩
      have hP : va_P D vwCl (xW b T xa (uT xs_9 2 (sA (xT xs_9 2) 5 v2.toNatClampNeg (gA (xT xs_9 0) 5 v2.toNatClampNeg)))) H := hP
      have hD : va_D A (xW b T xa (uT xs_9 2 (sA (xT xs_9 2) 5 v2.toNatClampNeg (gA (xT xs_9 0) 5 v2.toNatClampNeg)))) := hD
      have hR : xRel b xa (uT xs_9 2 (sA (xT xs_9 2) 5 v2.toNatClampNeg (gA (xT xs_9 0) 5 v2.toNatClampNeg))) := hR.uT _ _
      rw [← exs_12] at hP hD hR
      have heq := nm_h exs_12 heq
      obtain ⟨x_13, ex_13⟩ : ∃ y : Int32, y = v2 + (1 : Int32) := ⟨_, rfl⟩
      have heq := nm_h ex_13 heq
      refine lv_iinc (v := x_13) (lv' := [(2, .int x_13), (0, .ref (b 17)), (1, .ref (b 3))]) hx hb dX8_takeFrom_108 hl (k := 2) rfl (by rw [ex_13]; rfl) (by decide) rfl (fun ls hl => ?_)
      refine lv_goto (tgt := 78) hx hb dX8_takeFrom_111 (by decide) ?_
      exact ih xs_12 x_13 xa H locs ls hR hU hP hD hS (lv_sub hl [1, 2, 0] rfl) heq
  have b76 : ∀ (xs : XS) (xa : XA) (H : Heap) (locs : List Loc) (ls : Array Slot), xRel b xa xs → xSub xa0 xa → va_P D vwCl (xW b T xa xs) H → va_D A (xW b T xa xs) → va_S A s.heap H locs → lv_has ls 3 [(0, .ref (b 17)), (1, .ref (b 3))] → X8_takeFrom_2_0_p76 xs = some ((), xs') → W p l e rmX8_takeFrom_2_0 s m args below meth c H locs 0 0 Q (F0 m 76 ls []) := by
    intro xs xa H locs ls hR hU hP hD hS hl heq
    unfold X8_takeFrom_2_0_p76 at heq
    refine lv_iconst (v := (0 : Int32)) hx hb dX8_takeFrom_76 (by decide) ?_
    refine lv_istore_n (lv' := [(2, .int (0 : Int32)), (0, .ref (b 17)), (1, .ref (b 3))]) hx hb dX8_takeFrom_77 rfl hl (by decide) rfl (fun ls hl => ?_)
    exact b78 7 xs (0 : Int32) xa H locs ls hR hU hP hD hS (lv_sub hl [1, 2, 0] rfl) heq
  have b52 : ∀ (n : Nat), ∀ (xs : XS) (v2 : Int32) (xa : XA) (H : Heap) (locs : List Loc) (ls : Array Slot), xRel b xa xs → xSub xa0 xa → va_P D vwCl (xW b T xa xs) H → va_D A (xW b T xa xs) → va_S A s.heap H locs → lv_has ls 3 [(0, .ref (b 17)), (1, .ref (b 3)), (2, .int v2)] → X8_takeFrom_2_0_p52 n xs v2 = some ((), xs') → W p l e rmX8_takeFrom_2_0 s m args below meth c H locs 0 0 Q (F0 m 52 ls []) := by
    intro n
    induction n with
    | zero => intro xs v2 xa H locs ls hR hU hP hD hS hl heq; cases heq
    | succ n ih =>
      intro xs v2 xa H locs ls hR hU hP hD hS hl heq
      rw [X8_takeFrom_2_0_p52_s] at heq
      refine lv_iload_n hx hb dX8_takeFrom_52 rfl (lv_at hl 2 rfl) ?_
      refine lv_bipush (v := (7 : Int32)) hx hb dX8_takeFrom_53 (by decide) ?_
      refine lv_icmp_ge (tgt := 76) hx hb dX8_takeFrom_55 (by decide) (fun c_14 => ?_) (fun c_14 => ?_)
      · have heq := it_t c_14 heq
        exact b76 xs xa H locs ls hR hU hP hD hS (lv_sub hl [0, 1] rfl) heq
      have heq := it_f c_14 heq
      refine lv_aload_n hx hb dX8_takeFrom_58 rfl (lv_at hl 0 rfl) ?_
      refine va_get (D := D) (ci := 8) (v := .ref (b 21)) (C := RX8) (T := TX8) (N := 10) hx hb hts hin8 hown hK hP 17 rfl rfl 3 (by decide) f24 (fun _ h9 => h9) rfl dX8_takeFrom_59 ?_
      refine lv_iload_n hx hb dX8_takeFrom_62 rfl (lv_at hl 2 rfl) ?_
      refine lv_aload_n hx hb dX8_takeFrom_63 rfl (lv_at hl 1 rfl) ?_
      refine va_get (D := D) (ci := 8) (v := .ref (b 7)) (C := RX8) (T := TX8) (N := 10) hx hb hts hin8 hown hK hP 3 rfl rfl 3 (by decide) f24 (fun _ h9 => h9) rfl dX8_takeFrom_64 ?_
      refine lv_iload_n hx hb dX8_takeFrom_67 rfl (lv_at hl 2 rfl) ?_
      obtain ⟨n_15, heq⟩ := inr_h heq
      refine va_iald (f := gA (xT xs 0) 3) (n := 7) hx hb hK hP 7 0 rfl rfl n_15 dX8_takeFrom_68 ?_
      obtain ⟨n_16, heq⟩ := inr_h heq
      refine va_iast (f := gA (xT xs 2) 3) (n := 7) hx hb hK hP hD hS 21 0 rfl rfl n_16 dX8_takeFrom_69 (fun H locs hP hD hS => ?_)
      obtain ⟨xs_17, exs_17⟩ : ∃ z, z = uT xs 2 (sA (xT xs 2) 3 v2.toNatClampNeg (gA (xT xs 0) 3 v2.toNatClampNeg)) := ⟨_, rfl⟩
      have hP : va_P D vwCl (xW b T xa (uT xs 2 (sA (xT xs 2) 3 v2.toNatClampNeg (gA (xT xs 0) 3 v2.toNatClampNeg)))) H := hP
      have hD : va_D A (xW b T xa (uT xs 2 (sA (xT xs 2) 3 v2.toNatClampNeg (gA (xT xs 0) 3 v2.toNatClampNeg)))) := hD
      have hR : xRel b xa (uT xs 2 (sA (xT xs 2) 3 v2.toNatClampNeg (gA (xT xs 0) 3 v2.toNatClampNeg))) := hR.uT _ _
      rw [← exs_17] at hP hD hR
      have heq := nm_h exs_17 heq
      obtain ⟨x_18, ex_18⟩ : ∃ y : Int32, y = v2 + (1 : Int32) := ⟨_, rfl⟩
      have heq := nm_h ex_18 heq
      refine lv_iinc (v := x_18) (lv' := [(2, .int x_18), (0, .ref (b 17)), (1, .ref (b 3))]) hx hb dX8_takeFrom_70 hl (k := 2) rfl (by rw [ex_18]; rfl) (by decide) rfl (fun ls hl => ?_)
      refine lv_goto (tgt := 52) hx hb dX8_takeFrom_73 (by decide) ?_
      exact ih xs_17 x_18 xa H locs ls hR hU hP hD hS (lv_sub hl [1, 2, 0] rfl) heq
  have b50 : ∀ (xs : XS) (xa : XA) (H : Heap) (locs : List Loc) (ls : Array Slot), xRel b xa xs → xSub xa0 xa → va_P D vwCl (xW b T xa xs) H → va_D A (xW b T xa xs) → va_S A s.heap H locs → lv_has ls 3 [(0, .ref (b 17)), (1, .ref (b 3))] → X8_takeFrom_2_0_p50 xs = some ((), xs') → W p l e rmX8_takeFrom_2_0 s m args below meth c H locs 0 0 Q (F0 m 50 ls []) := by
    intro xs xa H locs ls hR hU hP hD hS hl heq
    unfold X8_takeFrom_2_0_p50 at heq
    refine lv_iconst (v := (0 : Int32)) hx hb dX8_takeFrom_50 (by decide) ?_
    refine lv_istore_n (lv' := [(2, .int (0 : Int32)), (0, .ref (b 17)), (1, .ref (b 3))]) hx hb dX8_takeFrom_51 rfl hl (by decide) rfl (fun ls hl => ?_)
    exact b52 8 xs (0 : Int32) xa H locs ls hR hU hP hD hS (lv_sub hl [1, 2, 0] rfl) heq
  have b2 : ∀ (n : Nat), ∀ (xs : XS) (v2 : Int32) (xa : XA) (H : Heap) (locs : List Loc) (ls : Array Slot), xRel b xa xs → xSub xa0 xa → va_P D vwCl (xW b T xa xs) H → va_D A (xW b T xa xs) → va_S A s.heap H locs → lv_has ls 3 [(0, .ref (b 17)), (1, .ref (b 3)), (2, .int v2)] → X8_takeFrom_2_0_p2 n xs v2 = some ((), xs') → W p l e rmX8_takeFrom_2_0 s m args below meth c H locs 0 0 Q (F0 m 2 ls []) := by
    intro n
    induction n with
    | zero => intro xs v2 xa H locs ls hR hU hP hD hS hl heq; cases heq
    | succ n ih =>
      intro xs v2 xa H locs ls hR hU hP hD hS hl heq
      rw [X8_takeFrom_2_0_p2_s] at heq
      refine lv_iload_n hx hb dX8_takeFrom_2 rfl (lv_at hl 2 rfl) ?_
      refine lv_bipush (v := (12 : Int32)) hx hb dX8_takeFrom_3 (by decide) ?_
      refine lv_icmp_ge (tgt := 50) hx hb dX8_takeFrom_5 (by decide) (fun c_19 => ?_) (fun c_19 => ?_)
      · have heq := it_t c_19 heq
        exact b50 xs xa H locs ls hR hU hP hD hS (lv_sub hl [0, 1] rfl) heq
      have heq := it_f c_19 heq
      refine lv_aload_n hx hb dX8_takeFrom_8 rfl (lv_at hl 0 rfl) ?_
      refine va_get (D := D) (ci := 8) (v := .ref (b 18)) (C := RX8) (T := TX8) (N := 10) hx hb hts hin8 hown hK hP 17 rfl rfl 0 (by decide) f11 (fun _ h9 => h9) rfl dX8_takeFrom_9 ?_
      refine lv_iload_n hx hb dX8_takeFrom_12 rfl (lv_at hl 2 rfl) ?_
      refine lv_aload_n hx hb dX8_takeFrom_13 rfl (lv_at hl 1 rfl) ?_
      refine va_get (D := D) (ci := 8) (v := .ref (b 4)) (C := RX8) (T := TX8) (N := 10) hx hb hts hin8 hown hK hP 3 rfl rfl 0 (by decide) f11 (fun _ h9 => h9) rfl dX8_takeFrom_14 ?_
      refine lv_iload_n hx hb dX8_takeFrom_17 rfl (lv_at hl 2 rfl) ?_
      obtain ⟨n_20, heq⟩ := inr_h heq
      have hb_21 := hR.1 0 (by decide) v2.toNatClampNeg (in_lt n_20)
      refine va_aldq (C := RX0) (n := 12) (f := fun j => some (xFo xa 0 j)) hx hb hK hP 4 1 rfl rfl n_20 dX8_takeFrom_18 ?_
      refine W.eq (g2 := F0 m 19 ls [.ref (xFo xa 0 v2.toNatClampNeg), .int v2, .ref (b 18)]) rfl ?_
      obtain ⟨n_22, heq⟩ := inr_h heq
      refine x_aast2 hx hb hK hX hP hD hS hb_21 hR n_22 dX8_takeFrom_19 (fun H locs hP hD hS => ?_)
      obtain ⟨xa_23, exa_23⟩ : ∃ z, z = xFoot xa 2 v2.toNatClampNeg (xFo xa 0 v2.toNatClampNeg) := ⟨_, rfl⟩
      have hR : xRel b (xFoot xa 2 v2.toNatClampNeg (xFo xa 0 v2.toNatClampNeg)) (uB xs 2 v2.toNatClampNeg (xB xs 0 v2.toNatClampNeg)) := hR.foot hb_21
      have hsxa_23 : xSub xa xa_23 := by rw [exa_23]; exact xSub.foot
      rw [← exa_23] at hP hD hR
      have hU := xSub.tr hU hsxa_23
      obtain ⟨xs_24, exs_24⟩ : ∃ z, z = uB xs 2 v2.toNatClampNeg (xB xs 0 v2.toNatClampNeg) := ⟨_, rfl⟩
      rw [← exs_24] at hP hD hR
      have heq := nm_h exs_24 heq
      refine lv_aload_n hx hb dX8_takeFrom_20 rfl (lv_at hl 0 rfl) ?_
      refine va_get (D := D) (ci := 8) (v := .ref (b 19)) (C := RX8) (T := TX8) (N := 10) hx hb hts hin8 hown hK hP 17 rfl rfl 1 (by decide) f17 (fun _ h9 => h9) rfl dX8_takeFrom_21 ?_
      refine lv_iload_n hx hb dX8_takeFrom_24 rfl (lv_at hl 2 rfl) ?_
      refine lv_aload_n hx hb dX8_takeFrom_25 rfl (lv_at hl 1 rfl) ?_
      refine va_get (D := D) (ci := 8) (v := .ref (b 5)) (C := RX8) (T := TX8) (N := 10) hx hb hts hin8 hown hK hP 3 rfl rfl 1 (by decide) f17 (fun _ h9 => h9) rfl dX8_takeFrom_26 ?_
      refine lv_iload_n hx hb dX8_takeFrom_29 rfl (lv_at hl 2 rfl) ?_
      obtain ⟨n_25, heq⟩ := inr_h heq
      refine va_iald (f := gA (xT xs_24 0) 1) (n := 12) hx hb hK hP 5 0 rfl rfl n_25 dX8_takeFrom_30 ?_
      obtain ⟨n_26, heq⟩ := inr_h heq
      refine va_iast (f := gA (xT xs_24 2) 1) (n := 12) hx hb hK hP hD hS 19 0 rfl rfl n_26 dX8_takeFrom_31 (fun H locs hP hD hS => ?_)
      obtain ⟨xs_27, exs_27⟩ : ∃ z, z = uT xs_24 2 (sA (xT xs_24 2) 1 v2.toNatClampNeg (gA (xT xs_24 0) 1 v2.toNatClampNeg)) := ⟨_, rfl⟩
      have hP : va_P D vwCl (xW b T xa_23 (uT xs_24 2 (sA (xT xs_24 2) 1 v2.toNatClampNeg (gA (xT xs_24 0) 1 v2.toNatClampNeg)))) H := hP
      have hD : va_D A (xW b T xa_23 (uT xs_24 2 (sA (xT xs_24 2) 1 v2.toNatClampNeg (gA (xT xs_24 0) 1 v2.toNatClampNeg)))) := hD
      have hR : xRel b xa_23 (uT xs_24 2 (sA (xT xs_24 2) 1 v2.toNatClampNeg (gA (xT xs_24 0) 1 v2.toNatClampNeg))) := hR.uT _ _
      rw [← exs_27] at hP hD hR
      have heq := nm_h exs_27 heq
      refine lv_aload_n hx hb dX8_takeFrom_32 rfl (lv_at hl 0 rfl) ?_
      refine va_get (D := D) (ci := 8) (v := .ref (b 20)) (C := RX8) (T := TX8) (N := 10) hx hb hts hin8 hown hK hP 17 rfl rfl 2 (by decide) f21 (fun _ h9 => h9) rfl dX8_takeFrom_33 ?_
      refine lv_iload_n hx hb dX8_takeFrom_36 rfl (lv_at hl 2 rfl) ?_
      refine lv_aload_n hx hb dX8_takeFrom_37 rfl (lv_at hl 1 rfl) ?_
      refine va_get (D := D) (ci := 8) (v := .ref (b 6)) (C := RX8) (T := TX8) (N := 10) hx hb hts hin8 hown hK hP 3 rfl rfl 2 (by decide) f21 (fun _ h9 => h9) rfl dX8_takeFrom_38 ?_
      refine lv_iload_n hx hb dX8_takeFrom_41 rfl (lv_at hl 2 rfl) ?_
      obtain ⟨n_28, heq⟩ := inr_h heq
      refine va_iald (f := gA (xT xs_27 0) 2) (n := 12) hx hb hK hP 6 0 rfl rfl n_28 dX8_takeFrom_42 ?_
      obtain ⟨n_29, heq⟩ := inr_h heq
      refine va_iast (f := gA (xT xs_27 2) 2) (n := 12) hx hb hK hP hD hS 20 0 rfl rfl n_29 dX8_takeFrom_43 (fun H locs hP hD hS => ?_)
      obtain ⟨xs_30, exs_30⟩ : ∃ z, z = uT xs_27 2 (sA (xT xs_27 2) 2 v2.toNatClampNeg (gA (xT xs_27 0) 2 v2.toNatClampNeg)) := ⟨_, rfl⟩
      have hP : va_P D vwCl (xW b T xa_23 (uT xs_27 2 (sA (xT xs_27 2) 2 v2.toNatClampNeg (gA (xT xs_27 0) 2 v2.toNatClampNeg)))) H := hP
      have hD : va_D A (xW b T xa_23 (uT xs_27 2 (sA (xT xs_27 2) 2 v2.toNatClampNeg (gA (xT xs_27 0) 2 v2.toNatClampNeg)))) := hD
      have hR : xRel b xa_23 (uT xs_27 2 (sA (xT xs_27 2) 2 v2.toNatClampNeg (gA (xT xs_27 0) 2 v2.toNatClampNeg))) := hR.uT _ _
      rw [← exs_30] at hP hD hR
      have heq := nm_h exs_30 heq
      obtain ⟨x_31, ex_31⟩ : ∃ y : Int32, y = v2 + (1 : Int32) := ⟨_, rfl⟩
      have heq := nm_h ex_31 heq
      refine lv_iinc (v := x_31) (lv' := [(2, .int x_31), (0, .ref (b 17)), (1, .ref (b 3))]) hx hb dX8_takeFrom_44 hl (k := 2) rfl (by rw [ex_31]; rfl) (by decide) rfl (fun ls hl => ?_)
      refine lv_goto (tgt := 2) hx hb dX8_takeFrom_47 (by decide) ?_
      exact ih xs_30 x_31 xa_23 H locs ls hR hU hP hD hS (lv_sub hl [1, 2, 0] rfl) heq
  obtain ⟨H, hH⟩ : ∃ H, H = s.heap := ⟨_, rfl⟩
  obtain ⟨locs, hlocs⟩ : ∃ z : List Loc, z = [] := ⟨_, rfl⟩
  have hS : va_S A s.heap H locs := by rw [hH, hlocs]; exact hS
  have hP : va_P D vwCl (xW b T xa xs) H := by rw [hH]; exact hP
  suffices h9 : W p l e rmX8_takeFrom_2_0 s m args below meth c H locs 0 0 Q (F0 m 0 ls []) by rw [hH, hlocs] at h9; exact h9
  clear hH hlocs
  unfold X8_takeFrom_2_0 at heq
  refine lv_iconst (v := (0 : Int32)) hx hb dX8_takeFrom_0 (by decide) ?_
  refine lv_istore_n (lv' := [(2, .int (0 : Int32)), (0, .ref (b 17)), (1, .ref (b 3))]) hx hb dX8_takeFrom_1 rfl hl (by decide) rfl (fun ls hl => ?_)
  exact b2 13 xs (0 : Int32) xa H locs ls hR hU hP hD hS (lv_sub hl [1, 2, 0] rfl) heq
