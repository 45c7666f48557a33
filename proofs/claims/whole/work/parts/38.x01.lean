/-! X8 takeFrom_0_2 -/
def X8_takeFrom_0_2_p114 (xs : XS) : Option (Unit × XS) :=
    nm (uT xs 0 (sF (xT xs 0) 6 (gF (xT xs 2) 6))) fun xs_1 =>
    gz (gF (xT xs_1 2) 7) <|
    nm (uT xs_1 0 (sF (xT xs_1 0) 7 (gF (xT xs_1 2) 7))) fun xs_3 =>
    nm (uT xs_3 0 (sF (xT xs_3 0) 8 (gF (xT xs_3 2) 8))) fun xs_4 =>
    nm (uT xs_4 0 (sF (xT xs_4 0) 9 (gF (xT xs_4 2) 9))) fun xs_5 =>
    some ((), xs_5)
def X8_takeFrom_0_2_p78 : Nat → XS → Int32 → Option (Unit × XS)
  | 0, _, _ => none
  | n + 1, xs, v2 =>
    if (6 : Int32) ≤ v2 then
      (X8_takeFrom_0_2_p114 xs)
    else
    inr v2 6 <|
    inr v2 6 <|
    nm (uT xs 0 (sA (xT xs 0) 4 v2.toNatClampNeg (gA (xT xs 2) 4 v2.toNatClampNeg))) fun xs_9 =>
    inr v2 6 <|
    inr v2 6 <|
    nm (uT xs_9 0 (sA (xT xs_9 0) 5 v2.toNatClampNeg (gA (xT xs_9 2) 5 v2.toNatClampNeg))) fun xs_12 =>
    nm (v2 + (1 : Int32)) fun x_13 =>
    X8_takeFrom_0_2_p78 n xs_12 x_13
theorem X8_takeFrom_0_2_p78_s (n : Nat) (xs : XS) (v2 : Int32) : X8_takeFrom_0_2_p78 (n + 1) xs v2 =
    (if (6 : Int32) ≤ v2 then
      (X8_takeFrom_0_2_p114 xs)
    else
    inr v2 6 <|
    inr v2 6 <|
    nm (uT xs 0 (sA (xT xs 0) 4 v2.toNatClampNeg (gA (xT xs 2) 4 v2.toNatClampNeg))) fun xs_9 =>
    inr v2 6 <|
    inr v2 6 <|
    nm (uT xs_9 0 (sA (xT xs_9 0) 5 v2.toNatClampNeg (gA (xT xs_9 2) 5 v2.toNatClampNeg))) fun xs_12 =>
    nm (v2 + (1 : Int32)) fun x_13 =>
    X8_takeFrom_0_2_p78 n xs_12 x_13) := rfl
def X8_takeFrom_0_2_p76 (xs : XS) : Option (Unit × XS) :=
    X8_takeFrom_0_2_p78 7 xs (0 : Int32)
def X8_takeFrom_0_2_p52 : Nat → XS → Int32 → Option (Unit × XS)
  | 0, _, _ => none
  | n + 1, xs, v2 =>
    if (7 : Int32) ≤ v2 then
      (X8_takeFrom_0_2_p76 xs)
    else
    inr v2 7 <|
    inr v2 7 <|
    nm (uT xs 0 (sA (xT xs 0) 3 v2.toNatClampNeg (gA (xT xs 2) 3 v2.toNatClampNeg))) fun xs_17 =>
    nm (v2 + (1 : Int32)) fun x_18 =>
    X8_takeFrom_0_2_p52 n xs_17 x_18
theorem X8_takeFrom_0_2_p52_s (n : Nat) (xs : XS) (v2 : Int32) : X8_takeFrom_0_2_p52 (n + 1) xs v2 =
    (if (7 : Int32) ≤ v2 then
      (X8_takeFrom_0_2_p76 xs)
    else
    inr v2 7 <|
    inr v2 7 <|
    nm (uT xs 0 (sA (xT xs 0) 3 v2.toNatClampNeg (gA (xT xs 2) 3 v2.toNatClampNeg))) fun xs_17 =>
    nm (v2 + (1 : Int32)) fun x_18 =>
    X8_takeFrom_0_2_p52 n xs_17 x_18) := rfl
def X8_takeFrom_0_2_p50 (xs : XS) : Option (Unit × XS) :=
    X8_takeFrom_0_2_p52 8 xs (0 : Int32)
def X8_takeFrom_0_2_p2 : Nat → XS → Int32 → Option (Unit × XS)
  | 0, _, _ => none
  | n + 1, xs, v2 =>
    if (12 : Int32) ≤ v2 then
      (X8_takeFrom_0_2_p50 xs)
    else
    inr v2 12 <|
    inr v2 12 <|
    nm (uB xs 0 v2.toNatClampNeg (xB xs 2 v2.toNatClampNeg)) fun xs_24 =>
    inr v2 12 <|
    inr v2 12 <|
    nm (uT xs_24 0 (sA (xT xs_24 0) 1 v2.toNatClampNeg (gA (xT xs_24 2) 1 v2.toNatClampNeg))) fun xs_27 =>
    inr v2 12 <|
    inr v2 12 <|
    nm (uT xs_27 0 (sA (xT xs_27 0) 2 v2.toNatClampNeg (gA (xT xs_27 2) 2 v2.toNatClampNeg))) fun xs_30 =>
    nm (v2 + (1 : Int32)) fun x_31 =>
    X8_takeFrom_0_2_p2 n xs_30 x_31
theorem X8_takeFrom_0_2_p2_s (n : Nat) (xs : XS) (v2 : Int32) : X8_takeFrom_0_2_p2 (n + 1) xs v2 =
    (if (12 : Int32) ≤ v2 then
      (X8_takeFrom_0_2_p50 xs)
    else
    inr v2 12 <|
    inr v2 12 <|
    nm (uB xs 0 v2.toNatClampNeg (xB xs 2 v2.toNatClampNeg)) fun xs_24 =>
    inr v2 12 <|
    inr v2 12 <|
    nm (uT xs_24 0 (sA (xT xs_24 0) 1 v2.toNatClampNeg (gA (xT xs_24 2) 1 v2.toNatClampNeg))) fun xs_27 =>
    inr v2 12 <|
    inr v2 12 <|
    nm (uT xs_27 0 (sA (xT xs_27 0) 2 v2.toNatClampNeg (gA (xT xs_27 2) 2 v2.toNatClampNeg))) fun xs_30 =>
    nm (v2 + (1 : Int32)) fun x_31 =>
    X8_takeFrom_0_2_p2 n xs_30 x_31) := rfl
def X8_takeFrom_0_2 (xs : XS) : Option (Unit × XS) :=
    X8_takeFrom_0_2_p2 13 xs (0 : Int32)
abbrev rmX8_takeFrom_0_2 : Room := { frames := 0, cells := 0, slots := 0, locals := 0 }
set_option maxRecDepth 100000 in
set_option maxHeartbeats 8000000 in
theorem okX8_takeFrom_0_2 (z : Nat → Nat) (l : Launch) (D : va_G) (T : mT3) (b : Nat → Nat) {xa : XA} {xs : XS} {xs' : XS} (hR : xRel b xa xs) (heq : X8_takeFrom_0_2 xs = some ((), xs')) : hXv xSub z l D T b yX8_takeFrom wsX8_takeFrom rmX8_takeFrom_0_2 [.ref (b 3), .ref (b 17)] xa xs xs' := by
  refine xbody_v (plainFor_of_name (by decide)) rfl (Nat.le_of_ble_eq_true rfl) (fun p e s m args below meth c A Q hx hb hml hown hts hK hA hX hret ls hP hD hS hl => ?_)
  have hl : lv_has ls 3 [(0, .ref (b 3)), (1, .ref (b 17))] := hl
  have hin8 : ∀ w ∈ wsX80, w ∈ wsX8_takeFrom := by decide +kernel
  have f11 : (Cond.fieldLink RX8 11 RX8 (TX8 0).2.1 (TX8 0).2.2.1).before args s = true := hts (.fieldLink RX8 11 RX8 "foot" "[LLaidDownTheLane$Brick;") (by decide +kernel)
  have f17 : (Cond.fieldLink RX8 17 RX8 (TX8 1).2.1 (TX8 1).2.2.1).before args s = true := hts (.fieldLink RX8 17 RX8 "bears" "[I") (by decide +kernel)
  have f21 : (Cond.fieldLink RX8 21 RX8 (TX8 2).2.1 (TX8 2).2.2.1).before args s = true := hts (.fieldLink RX8 21 RX8 "burns" "[I") (by decide +kernel)
  have f24 : (Cond.fieldLink RX8 24 RX8 (TX8 3).2.1 (TX8 3).2.2.1).before args s = true := hts (.fieldLink RX8 24 RX8 "told" "[I") (by decide +kernel)
  have f27 : (Cond.fieldLink RX8 27 RX8 (TX8 4).2.1 (TX8 4).2.2.1).before args s = true := hts (.fieldLink RX8 27 RX8 "houseSide" "[I") (by decide +kernel)
  have f30 : (Cond.fieldLink RX8 30 RX8 (TX8 5).2.1 (TX8 5).2.2.1).before args s = true := hts (.fieldLink RX8 30 RX8 "houseFar" "[I") (by decide +kernel)
  have f36 : (Cond.fieldLink RX8 36 RX8 (TX8 9).2.1 (TX8 9).2.2.1).before args s = true := hts (.fieldLink RX8 36 RX8 "fallenTo" "I") (by decide +kernel)
  have f40 : (Cond.fieldLink RX8 40 RX8 (TX8 6).2.1 (TX8 6).2.2.1).before args s = true := hts (.fieldLink RX8 40 RX8 "houses" "I") (by decide +kernel)
  have f43 : (Cond.fieldLink RX8 43 RX8 (TX8 7).2.1 (TX8 7).2.2.1).before args s = true := hts (.fieldLink RX8 43 RX8 "lit" "Z") (by decide +kernel)
  have f47 : (Cond.fieldLink RX8 47 RX8 (TX8 8).2.1 (TX8 8).2.2.1).before args s = true := hts (.fieldLink RX8 47 RX8 "minute" "I") (by decide +kernel)
  obtain ⟨xa0, hxa0⟩ : ∃ z : XA, z = xa := ⟨_, rfl⟩
  rw [← hxa0] at hret
  have hU : xSub xa0 xa := by rw [hxa0]; exact xSub.rf
  clear hxa0
  have b114 : ∀ (xs : XS) (xa : XA) (H : Heap) (locs : List Loc) (ls : Array Slot), xRel b xa xs → xSub xa0 xa → va_P D vwCl (xW b T xa xs) H → va_D A (xW b T xa xs) → va_S A s.heap H locs → lv_has ls 3 [(0, .ref (b 3)), (1, .ref (b 17))] → X8_takeFrom_0_2_p114 xs = some ((), xs') → W p l e rmX8_takeFrom_0_2 s m args below meth c H locs 0 0 Q (F0 m 114 ls []) := by
    intro xs xa H locs ls hR hU hP hD hS hl heq
    unfold X8_takeFrom_0_2_p114 at heq
    refine lv_aload_n hx hb dX8_takeFrom_114 rfl (lv_at hl 0 rfl) ?_
    refine lv_aload_n hx hb dX8_takeFrom_115 rfl (lv_at hl 1 rfl) ?_
    refine va_get (D := D) (ci := 8) (v := .int (gF (xT xs 2) 6)) (C := RX8) (T := TX8) (N := 10) hx hb hts hin8 hown hK hP 17 rfl rfl 6 (by decide) f40 (fun _ h9 => h9) rfl dX8_takeFrom_116 ?_
    refine va_put (D := D) (ci := 8) (v := .int (gF (xT xs 2) 6)) (ty := .int) (C := RX8) (T := TX8) (N := 10) hx hb hts hin8 tyX8 tyX8_ok nmX8 hown hK hP hD hS 3 rfl rfl 6 (by decide) f40 (fun _ h9 => h9) rfl (by decide +kernel) rfl rfl (Nat.le_of_ble_eq_true rfl) dX8_takeFrom_119 (fun H locs hP hD hS => ?_)
    obtain ⟨xs_1, exs_1⟩ : ∃ z, z = uT xs 0 (sF (xT xs 0) 6 (gF (xT xs 2) 6)) := ⟨_, rfl⟩
    have hP : va_P D vwCl (xW b T xa (uT xs 0 (sF (xT xs 0) 6 (gF (xT xs 2) 6)))) H := hP
    have hD : va_D A (xW b T xa (uT xs 0 (sF (xT xs 0) 6 (gF (xT xs 2) 6)))) := hD
    have hR : xRel b xa (uT xs 0 (sF (xT xs 0) 6 (gF (xT xs 2) 6))) := hR.uT _ _
    rw [← exs_1] at hP hD hR
    have heq := nm_h exs_1 heq
    refine lv_aload_n hx hb dX8_takeFrom_122 rfl (lv_at hl 0 rfl) ?_
    refine lv_aload_n hx hb dX8_takeFrom_123 rfl (lv_at hl 1 rfl) ?_
    refine va_get (D := D) (ci := 8) (v := .int (gF (xT xs_1 2) 7)) (C := RX8) (T := TX8) (N := 10) hx hb hts hin8 hown hK hP 17 rfl rfl 7 (by decide) f43 (fun _ h9 => h9) rfl dX8_takeFrom_124 ?_
    obtain ⟨n_2, n_2f, heq⟩ := gz_h heq
    refine va_put (D := D) (ci := 8) (v := .int (gF (xT xs_1 2) 7)) (ty := .boolean) (C := RX8) (T := TX8) (N := 10) hx hb hts hin8 tyX8 tyX8_ok nmX8 hown hK hP hD hS 3 rfl rfl 7 (by decide) f43 (fun _ h9 => h9) rfl (by decide +kernel) n_2 n_2f (Nat.le_of_ble_eq_true rfl) dX8_takeFrom_127 (fun H locs hP hD hS => ?_)
    obtain ⟨xs_3, exs_3⟩ : ∃ z, z = uT xs_1 0 (sF (xT xs_1 0) 7 (gF (xT xs_1 2) 7)) := ⟨_, rfl⟩
    have hP : va_P D vwCl (xW b T xa (uT xs_1 0 (sF (xT xs_1 0) 7 (gF (xT xs_1 2) 7)))) H := hP
    have hD : va_D A (xW b T xa (uT xs_1 0 (sF (xT xs_1 0) 7 (gF (xT xs_1 2) 7)))) := hD
    have hR : xRel b xa (uT xs_1 0 (sF (xT xs_1 0) 7 (gF (xT xs_1 2) 7))) := hR.uT _ _
    rw [← exs_3] at hP hD hR
    have heq := nm_h exs_3 heq
    refine lv_aload_n hx hb dX8_takeFrom_130 rfl (lv_at hl 0 rfl) ?_
    refine lv_aload_n hx hb dX8_takeFrom_131 rfl (lv_at hl 1 rfl) ?_
    refine va_get (D := D) (ci := 8) (v := .int (gF (xT xs_3 2) 8)) (C := RX8) (T := TX8) (N := 10) hx hb hts hin8 hown hK hP 17 rfl rfl 8 (by decide) f47 (fun _ h9 => h9) rfl dX8_takeFrom_132 ?_
    refine va_put (D := D) (ci := 8) (v := .int (gF (xT xs_3 2) 8)) (ty := .int) (C := RX8) (T := TX8) (N := 10) hx hb hts hin8 tyX8 tyX8_ok nmX8 hown hK hP hD hS 3 rfl rfl 8 (by decide) f47 (fun _ h9 => h9) rfl (by decide +kernel) rfl rfl (Nat.le_of_ble_eq_true rfl) dX8_takeFrom_135 (fun H locs hP hD hS => ?_)
    obtain ⟨xs_4, exs_4⟩ : ∃ z, z = uT xs_3 0 (sF (xT xs_3 0) 8 (gF (xT xs_3 2) 8)) := ⟨_, rfl⟩
    have hP : va_P D vwCl (xW b T xa (uT xs_3 0 (sF (xT xs_3 0) 8 (gF (xT xs_3 2) 8)))) H := hP
    have hD : va_D A (xW b T xa (uT xs_3 0 (sF (xT xs_3 0) 8 (gF (xT xs_3 2) 8)))) := hD
    have hR : xRel b xa (uT xs_3 0 (sF (xT xs_3 0) 8 (gF (xT xs_3 2) 8))) := hR.uT _ _
    rw [← exs_4] at hP hD hR
    have heq := nm_h exs_4 heq
    refine lv_aload_n hx hb dX8_takeFrom_138 rfl (lv_at hl 0 rfl) ?_
    refine lv_aload_n hx hb dX8_takeFrom_139 rfl (lv_at hl 1 rfl) ?_
    refine va_get (D := D) (ci := 8) (v := .int (gF (xT xs_4 2) 9)) (C := RX8) (T := TX8) (N := 10) hx hb hts hin8 hown hK hP 17 rfl rfl 9 (by decide) f36 (fun _ h9 => h9) rfl dX8_takeFrom_140 ?_
    refine va_put (D := D) (ci := 8) (v := .int (gF (xT xs_4 2) 9)) (ty := .int) (C := RX8) (T := TX8) (N := 10) hx hb hts hin8 tyX8 tyX8_ok nmX8 hown hK hP hD hS 3 rfl rfl 9 (by decide) f36 (fun _ h9 => h9) rfl (by decide +kernel) rfl rfl (Nat.le_of_ble_eq_true rfl) dX8_takeFrom_143 (fun H locs hP hD hS => ?_)
    obtain ⟨xs_5, exs_5⟩ : ∃ z, z = uT xs_4 0 (sF (xT xs_4 0) 9 (gF (xT xs_4 2) 9)) := ⟨_, rfl⟩
    have hP : va_P D vwCl (xW b T xa (uT xs_4 0 (sF (xT xs_4 0) 9 (gF (xT xs_4 2) 9)))) H := hP
    have hD : va_D A (xW b T xa (uT xs_4 0 (sF (xT xs_4 0) 9 (gF (xT xs_4 2) 9)))) := hD
    have hR : xRel b xa (uT xs_4 0 (sF (xT xs_4 0) 9 (gF (xT xs_4 2) 9))) := hR.uT _ _
    rw [← exs_5] at hP hD hR
    have heq := nm_h exs_5 heq
    obtain ⟨-, heq2⟩ := ret_h heq
    subst heq2
    exact hret 146 H locs ls xa hR hU hP hD hS dX8_takeFrom_146
  have b78 : ∀ (n : Nat), ∀ (xs : XS) (v2 : Int32) (xa : XA) (H : Heap) (locs : List Loc) (ls : Array Slot), xRel b xa xs → xSub xa0 xa → va_P D vwCl (xW b T xa xs) H → va_D A (xW b T xa xs) → va_S A s.heap H locs → lv_has ls 3 [(0, .ref (b 3)), (1, .ref (b 17)), (2, .int v2)] → X8_takeFrom_0_2_p78 n xs v2 = some ((), xs') → W p l e rmX8_takeFrom_0_2 s m args below meth c H locs 0 0 Q (F0 m 78 ls []) := by
    intro n
    induction n with
    | zero => intro xs v2 xa H locs ls hR hU hP hD hS hl heq; cases heq
    | succ n ih =>
      intro xs v2 xa H locs ls hR hU hP hD hS hl heq
      rw [X8_takeFrom_0_2_p78_s] at heq
      refine lv_iload_n hx hb dX8_takeFrom_78 rfl (lv_at hl 2 rfl) ?_
      refine lv_bipush (v := (6 : Int32)) hx hb dX8_takeFrom_79 (by decide) ?_
      refine lv_icmp_ge (tgt := 114) hx hb dX8_takeFrom_81 (by decide) (fun c_6 => ?_) (fun c_6 => ?_)
      · have heq := it_t c_6 heq
        exact b114 xs xa H locs ls hR hU hP hD hS (lv_sub hl [0, 1] rfl) heq
      have heq := it_f c_6 heq
      refine lv_aload_n hx hb dX8_takeFrom_84 rfl (lv_at hl 0 rfl) ?_
      refine va_get (D := D) (ci := 8) (v := .ref (b 8)) (C := RX8) (T := TX8) (N := 10) hx hb hts hin8 hown hK hP 3 rfl rfl 4 (by decide) f27 (fun _ h9 => h9) rfl dX8_takeFrom_85 ?_
      refine lv_iload_n hx hb dX8_takeFrom_88 rfl (lv_at hl 2 rfl) ?_
      refine lv_aload_n hx hb dX8_takeFrom_89 rfl (lv_at hl 1 rfl) ?_
      refine va_get (D := D) (ci := 8) (v := .ref (b 22)) (C := RX8) (T := TX8) (N := 10) hx hb hts hin8 hown hK hP 17 rfl rfl 4 (by decide) f27 (fun _ h9 => h9) rfl dX8_takeFrom_90 ?_
      refine lv_iload_n hx hb dX8_takeFrom_93 rfl (lv_at hl 2 rfl) ?_
      obtain ⟨n_7, heq⟩ := inr_h heq
      refine va_iald (f := gA (xT xs 2) 4) (n := 6) hx hb hK hP 22 0 rfl rfl n_7 dX8_takeFrom_94 ?_
      obtain ⟨n_8, heq⟩ := inr_h heq
      refine va_iast (f := gA (xT xs 0) 4) (n := 6) hx hb hK hP hD hS 8 0 rfl rfl n_8 dX8_takeFrom_95 (fun H locs hP hD hS => ?_)
      obtain ⟨xs_9, exs_9⟩ : ∃ z, z = uT xs 0 (sA (xT xs 0) 4 v2.toNatClampNeg (gA (xT xs 2) 4 v2.toNatClampNeg)) := ⟨_, rfl⟩
      have hP : va_P D vwCl (xW b T xa (uT xs 0 (sA (xT xs 0) 4 v2.toNatClampNeg (gA (xT xs 2) 4 v2.toNatClampNeg)))) H := hP
      have hD : va_D A (xW b T xa (uT xs 0 (sA (xT xs 0) 4 v2.toNatClampNeg (gA (xT xs 2) 4 v2.toNatClampNeg)))) := hD
      have hR : xRel b xa (uT xs 0 (sA (xT xs 0) 4 v2.toNatClampNeg (gA (xT xs 2) 4 v2.toNatClampNeg))) := hR.uT _ _
      rw [← exs_9] at hP hD hR
      have heq := nm_h exs_9 heq
      refine lv_aload_n hx hb dX8_takeFrom_96 rfl (lv_at hl 0 rfl) ?_
      refine va_get (D := D) (ci := 8) (v := .ref (b 9)) (C := RX8) (T := TX8) (N := 10) hx hb hts hin8 hown hK hP 3 rfl rfl 5 (by decide) f30 (fun _ h9 => h9) rfl dX8_takeFrom_97 ?_
      refine lv_iload_n hx hb dX8_takeFrom_100 rfl (lv_at hl 2 rfl) ?_
      refine lv_aload_n hx hb dX8_takeFrom_101 rfl (lv_at hl 1 rfl) ?_
      refine va_get (D := D) (ci := 8) (v := .ref (b 23)) (C := RX8) (T := TX8) (N := 10) hx hb hts hin8 hown hK hP 17 rfl rfl 5 (by decide) f30 (fun _ h9 => h9) rfl dX8_takeFrom_102 ?_
      refine lv_iload_n hx hb dX8_takeFrom_105 rfl (lv_at hl 2 rfl) ?_
      obtain ⟨n_10, heq⟩ := inr_h heq
      refine va_iald (f := gA (xT xs_9 2) 5) (n := 6) hx hb hK hP 23 0 rfl rfl n_10 dX8_takeFrom_106 ?_
      obtain ⟨n_11, heq⟩ := inr_h heq
      refine va_iast (f := gA (xT xs_9 0) 5) (n := 6) hx hb hK hP hD hS 9 0 rfl rfl n_11 dX8_takeFrom_107 (fun H locs hP hD hS => ?_)
      obtain ⟨xs_12, exs_12⟩ : ∃ z, z = uT xs_9 0 (sA (xT xs_9 0) 5 v2.toNatClampNeg (gA (xT xs_9 2) 5 v2.toNatClampNeg)) := ⟨_, rfl⟩
      have hP : va_P D vwCl (xW b T xa (uT xs_9 0 (sA (xT xs_9 0) 5 v2.toNatClampNeg (gA (xT xs_9 2) 5 v2.toNatClampNeg)))) H := hP
      have hD : va_D A (xW b T xa (uT xs_9 0 (sA (xT xs_9 0) 5 v2.toNatClampNeg (gA (xT xs_9 2) 5 v2.toNatClampNeg)))) := hD
      have hR : xRel b xa (uT xs_9 0 (sA (xT xs_9 0) 5 v2.toNatClampNeg (gA (xT xs_9 2) 5 v2.toNatClampNeg))) := hR.uT _ _
      rw [← exs_12] at hP hD hR
      have heq := nm_h exs_12 heq
      obtain ⟨x_13, ex_13⟩ : ∃ y : Int32, y = v2 + (1 : Int32) := ⟨_, rfl⟩
      have heq := nm_h ex_13 heq
      refine lv_iinc (v := x_13) (lv' := [(2, .int x_13), (0, .ref (b 3)), (1, .ref (b 17))]) hx hb dX8_takeFrom_108 hl (k := 2) rfl (by rw [ex_13]; rfl) (by decide) rfl (fun ls hl => ?_)
      refine lv_goto (tgt := 78) hx hb dX8_takeFrom_111 (by decide) ?_
      exact ih xs_12 x_13 xa H locs ls hR hU hP hD hS (lv_sub hl [1, 2, 0] rfl) heq
  have b76 : ∀ (xs : XS) (xa : XA) (H : Heap) (locs : List Loc) (ls : Array Slot), xRel b xa xs → xSub xa0 xa → va_P D vwCl (xW b T xa xs) H → va_D A (xW b T xa xs) → va_S A s.heap H locs → lv_has ls 3 [(0, .ref (b 3)), (1, .ref (b 17))] → X8_takeFrom_0_2_p76 xs = some ((), xs') → W p l e rmX8_takeFrom_0_2 s m args below meth c H locs 0 0 Q (F0 m 76 ls []) := by
    intro xs xa H locs ls hR hU hP hD hS hl heq
    unfold X8_takeFrom_0_2_p76 at heq
    refine lv_iconst (v := (0 : Int32)) hx hb dX8_takeFrom_76 (by decide) ?_
    refine lv_istore_n (lv' := [(2, .int (0 : Int32)), (0, .ref (b 3)), (1, .ref (b 17))]) hx hb dX8_takeFrom_77 rfl hl (by decide) rfl (fun ls hl => ?_)
    exact b78 7 xs (0 : Int32) xa H locs ls hR hU hP hD hS (lv_sub hl [1, 2, 0] rfl) heq
  have b52 : ∀ (n : Nat), ∀ (xs : XS) (v2 : Int32) (xa : XA) (H : Heap) (locs : List Loc) (ls : Array Slot), xRel b xa xs → xSub xa0 xa → va_P D vwCl (xW b T xa xs) H → va_D A (xW b T xa xs) → va_S A s.heap H locs → lv_has ls 3 [(0, .ref (b 3)), (1, .ref (b 17)), (2, .int v2)] → X8_takeFrom_0_2_p52 n xs v2 = some ((), xs') → W p l e rmX8_takeFrom_0_2 s m args below meth c H locs 0 0 Q (F0 m 52 ls []) := by
    intro n
    induction n with
    | zero => intro xs v2 xa H locs ls hR hU hP hD hS hl heq; cases heq
    | succ n ih =>
      intro xs v2 xa H locs ls hR hU hP hD hS hl heq
      rw [X8_takeFrom_0_2_p52_s] at heq
      refine lv_iload_n hx hb dX8_takeFrom_52 rfl (lv_at hl 2 rfl) ?_
      refine lv_bipush (v := (7 : Int32)) hx hb dX8_takeFrom_53 (by decide) ?_
      refine lv_icmp_ge (tgt := 76) hx hb dX8_takeFrom_55 (by decide) (fun c_14 => ?_) (fun c_14 => ?_)
      · have heq := it_t c_14 heq
        exact b76 xs xa H locs ls hR hU hP hD hS (lv_sub hl [0, 1] rfl) heq
      have heq := it_f c_14 heq
      refine lv_aload_n hx hb dX8_takeFrom_58 rfl (lv_at hl 0 rfl) ?_
      refine va_get (D := D) (ci := 8) (v := .ref (b 7)) (C := RX8) (T := TX8) (N := 10) hx hb hts hin8 hown hK hP 3 rfl rfl 3 (by decide) f24 (fun _ h9 => h9) rfl dX8_takeFrom_59 ?_
      refine lv_iload_n hx hb dX8_takeFrom_62 rfl (lv_at hl 2 rfl) ?_
      refine lv_aload_n hx hb dX8_takeFrom_63 rfl (lv_at hl 1 rfl) ?_
      refine va_get (D := D) (ci := 8) (v := .ref (b 21)) (C := RX8) (T := TX8) (N := 10) hx hb hts hin8 hown hK hP 17 rfl rfl 3 (by decide) f24 (fun _ h9 => h9) rfl dX8_takeFrom_64 ?_
      refine lv_iload_n hx hb dX8_takeFrom_67 rfl (lv_at hl 2 rfl) ?_
      obtain ⟨n_15, heq⟩ := inr_h heq
      refine va_iald (f := gA (xT xs 2) 3) (n := 7) hx hb hK hP 21 0 rfl rfl n_15 dX8_takeFrom_68 ?_
      obtain ⟨n_16, heq⟩ := inr_h heq
      refine va_iast (f := gA (xT xs 0) 3) (n := 7) hx hb hK hP hD hS 7 0 rfl rfl n_16 dX8_takeFrom_69 (fun H locs hP hD hS => ?_)
      obtain ⟨xs_17, exs_17⟩ : ∃ z, z = uT xs 0 (sA (xT xs 0) 3 v2.toNatClampNeg (gA (xT xs 2) 3 v2.toNatClampNeg)) := ⟨_, rfl⟩
      have hP : va_P D vwCl (xW b T xa (uT xs 0 (sA (xT xs 0) 3 v2.toNatClampNeg (gA (xT xs 2) 3 v2.toNatClampNeg)))) H := hP
      have hD : va_D A (xW b T xa (uT xs 0 (sA (xT xs 0) 3 v2.toNatClampNeg (gA (xT xs 2) 3 v2.toNatClampNeg)))) := hD
      have hR : xRel b xa (uT xs 0 (sA (xT xs 0) 3 v2.toNatClampNeg (gA (xT xs 2) 3 v2.toNatClampNeg))) := hR.uT _ _
      rw [← exs_17] at hP hD hR
      have heq := nm_h exs_17 heq
      obtain ⟨x_18, ex_18⟩ : ∃ y : Int32, y = v2 + (1 : Int32) := ⟨_, rfl⟩
      have heq := nm_h ex_18 heq
      refine lv_iinc (v := x_18) (lv' := [(2, .int x_18), (0, .ref (b 3)), (1, .ref (b 17))]) hx hb dX8_takeFrom_70 hl (k := 2) rfl (by rw [ex_18]; rfl) (by decide) rfl (fun ls hl => ?_)
      refine lv_goto (tgt := 52) hx hb dX8_takeFrom_73 (by decide) ?_
      exact ih xs_17 x_18 xa H locs ls hR hU hP hD hS (lv_sub hl [1, 2, 0] rfl) heq
  have b50 : ∀ (xs : XS) (xa : XA) (H : Heap) (locs : List Loc) (ls : Array Slot), xRel b xa xs → xSub xa0 xa → va_P D vwCl (xW b T xa xs) H → va_D A (xW b T xa xs) → va_S A s.heap H locs → lv_has ls 3 [(0, .ref (b 3)), (1, .ref (b 17))] → X8_takeFrom_0_2_p50 xs = some ((), xs') → W p l e rmX8_takeFrom_0_2 s m args below meth c H locs 0 0 Q (F0 m 50 ls []) := by
    intro xs xa H locs ls hR hU hP hD hS hl heq
    unfold X8_takeFrom_0_2_p50 at heq
    refine lv_iconst (v := (0 : Int32)) hx hb dX8_takeFrom_50 (by decide) ?_
    refine lv_istore_n (lv' := [(2, .int (0 : Int32)), (0, .ref (b 3)), (1, .ref (b 17))]) hx hb dX8_takeFrom_51 rfl hl (by decide) rfl (fun ls hl => ?_)
    exact b52 8 xs (0 : Int32) xa H locs ls hR hU hP hD hS (lv_sub hl [1, 2, 0] rfl) heq
  have b2 : ∀ (n : Nat), ∀ (xs : XS) (v2 : Int32) (xa : XA) (H : Heap) (locs : List Loc) (ls : Array Slot), xRel b xa xs → xSub xa0 xa → va_P D vwCl (xW b T xa xs) H → va_D A (xW b T xa xs) → va_S A s.heap H locs → lv_has ls 3 [(0, .ref (b 3)), (1, .ref (b 17)), (2, .int v2)] → X8_takeFrom_0_2_p2 n xs v2 = some ((), xs') → W p l e rmX8_takeFrom_0_2 s m args below meth c H locs 0 0 Q (F0 m 2 ls []) := by
    intro n
    induction n with
    | zero => intro xs v2 xa H locs ls hR hU hP hD hS hl heq; cases heq
    | succ n ih =>
      intro xs v2 xa H locs ls hR hU hP hD hS hl heq
      rw [X8_takeFrom_0_2_p2_s] at heq
      refine lv_iload_n hx hb dX8_takeFrom_2 rfl (lv_at hl 2 rfl) ?_
      refine lv_bipush (v := (12 : Int32)) hx hb dX8_takeFrom_3 (by decide) ?_
      refine lv_icmp_ge (tgt := 50) hx hb dX8_takeFrom_5 (by decide) (fun c_19 => ?_) (fun c_19 => ?_)
      · have heq := it_t c_19 heq
        exact b50 xs xa H locs ls hR hU hP hD hS (lv_sub hl [0, 1] rfl) heq
      have heq := it_f c_19 heq
      refine lv_aload_n hx hb dX8_takeFrom_8 rfl (lv_at hl 0 rfl) ?_
      refine va_get (D := D) (ci := 8) (v := .ref (b 4)) (C := RX8) (T := TX8) (N := 10) hx hb hts hin8 hown hK hP 3 rfl rfl 0 (by decide) f11 (fun _ h9 => h9) rfl dX8_takeFrom_9 ?_
      refine lv_iload_n hx hb dX8_takeFrom_12 rfl (lv_at hl 2 rfl) ?_
      refine lv_aload_n hx hb dX8_takeFrom_13 rfl (lv_at hl 1 rfl) ?_
      refine va_get (D := D) (ci := 8) (v := .ref (b 18)) (C := RX8) (T := TX8) (N := 10) hx hb hts hin8 hown hK hP 17 rfl rfl 0 (by decide) f11 (fun _ h9 => h9) rfl dX8_takeFrom_14 ?_
      refine lv_iload_n hx hb dX8_takeFrom_17 rfl (lv_at hl 2 rfl) ?_
      obtain ⟨n_20, heq⟩ := inr_h heq
      have hb_21 := hR.1 2 (by decide) v2.toNatClampNeg (in_lt n_20)
      refine va_aldq (C := RX0) (n := 12) (f := fun j => some (xFo xa 2 j)) hx hb hK hP 18 1 rfl rfl n_20 dX8_takeFrom_18 ?_
      refine W.eq (g2 := F0 m 19 ls [.ref (xFo xa 2 v2.toNatClampNeg), .int v2, .ref (b 4)]) rfl ?_
      obtain ⟨n_22, heq⟩ := inr_h heq
      refine x_aast0 hx hb hK hX hP hD hS hb_21 hR n_22 dX8_takeFrom_19 (fun H locs hP hD hS => ?_)
      obtain ⟨xa_23, exa_23⟩ : ∃ z, z = xFoot xa 0 v2.toNatClampNeg (xFo xa 2 v2.toNatClampNeg) := ⟨_, rfl⟩
      have hR : xRel b (xFoot xa 0 v2.toNatClampNeg (xFo xa 2 v2.toNatClampNeg)) (uB xs 0 v2.toNatClampNeg (xB xs 2 v2.toNatClampNeg)) := hR.foot hb_21
      have hsxa_23 : xSub xa xa_23 := by rw [exa_23]; exact xSub.foot
      rw [← exa_23] at hP hD hR
      have hU := xSub.tr hU hsxa_23
      obtain ⟨xs_24, exs_24⟩ : ∃ z, z = uB xs 0 v2.toNatClampNeg (xB xs 2 v2.toNatClampNeg) := ⟨_, rfl⟩
      rw [← exs_24] at hP hD hR
      have heq := nm_h exs_24 heq
      refine lv_aload_n hx hb dX8_takeFrom_20 rfl (lv_at hl 0 rfl) ?_
      refine va_get (D := D) (ci := 8) (v := .ref (b 5)) (C := RX8) (T := TX8) (N := 10) hx hb hts hin8 hown hK hP 3 rfl rfl 1 (by decide) f17 (fun _ h9 => h9) rfl dX8_takeFrom_21 ?_
      refine lv_iload_n hx hb dX8_takeFrom_24 rfl (lv_at hl 2 rfl) ?_
      refine lv_aload_n hx hb dX8_takeFrom_25 rfl (lv_at hl 1 rfl) ?_
      refine va_get (D := D) (ci := 8) (v := .ref (b 19)) (C := RX8) (T := TX8) (N := 10) hx hb hts hin8 hown hK hP 17 rfl rfl 1 (by decide) f17 (fun _ h9 => h9) rfl dX8_takeFrom_26 ?_
      refine lv_iload_n hx hb dX8_takeFrom_29 rfl (lv_at hl 2 rfl) ?_
      obtain ⟨n_25, heq⟩ := inr_h heq
      refine va_iald (f := gA (xT xs_24 2) 1) (n := 12) hx hb hK hP 19 0 rfl rfl n_25 dX8_takeFrom_30 ?_
      obtain ⟨n_26, heq⟩ := inr_h heq
      refine va_iast (f := gA (xT xs_24 0) 1) (n := 12) hx hb hK hP hD hS 5 0 rfl rfl n_26 dX8_takeFrom_31 (fun H locs hP hD hS => ?_)
      obtain ⟨xs_27, exs_27⟩ : ∃ z, z = uT xs_24 0 (sA (xT xs_24 0) 1 v2.toNatClampNeg (gA (xT xs_24 2) 1 v2.toNatClampNeg)) := ⟨_, rfl⟩
      have hP : va_P D vwCl (xW b T xa_23 (uT xs_24 0 (sA (xT xs_24 0) 1 v2.toNatClampNeg (gA (xT xs_24 2) 1 v2.toNatClampNeg)))) H := hP
      have hD : va_D A (xW b T xa_23 (uT xs_24 0 (sA (xT xs_24 0) 1 v2.toNatClampNeg (gA (xT xs_24 2) 1 v2.toNatClampNeg)))) := hD
      have hR : xRel b xa_23 (uT xs_24 0 (sA (xT xs_24 0) 1 v2.toNatClampNeg (gA (xT xs_24 2) 1 v2.toNatClampNeg))) := hR.uT _ _
      rw [← exs_27] at hP hD hR
      have heq := nm_h exs_27 heq
      refine lv_aload_n hx hb dX8_takeFrom_32 rfl (lv_at hl 0 rfl) ?_
      refine va_get (D := D) (ci := 8) (v := .ref (b 6)) (C := RX8) (T := TX8) (N := 10) hx hb hts hin8 hown hK hP 3 rfl rfl 2 (by decide) f21 (fun _ h9 => h9) rfl dX8_takeFrom_33 ?_
      refine lv_iload_n hx hb dX8_takeFrom_36 rfl (lv_at hl 2 rfl) ?_
      refine lv_aload_n hx hb dX8_takeFrom_37 rfl (lv_at hl 1 rfl) ?_
      refine va_get (D := D) (ci := 8) (v := .ref (b 20)) (C := RX8) (T := TX8) (N := 10) hx hb hts hin8 hown hK hP 17 rfl rfl 2 (by decide) f21 (fun _ h9 => h9) rfl dX8_takeFrom_38 ?_
      refine lv_iload_n hx hb dX8_takeFrom_41 rfl (lv_at hl 2 rfl) ?_
      obtain ⟨n_28, heq⟩ := inr_h heq
      refine va_iald (f := gA (xT xs_27 2) 2) (n := 12) hx hb hK hP 20 0 rfl rfl n_28 dX8_takeFrom_42 ?_
      obtain ⟨n_29, heq⟩ := inr_h heq
      refine va_iast (f := gA (xT xs_27 0) 2) (n := 12) hx hb hK hP hD hS 6 0 rfl rfl n_29 dX8_takeFrom_43 (fun H locs hP hD hS => ?_)
      obtain ⟨xs_30, exs_30⟩ : ∃ z, z = uT xs_27 0 (sA (xT xs_27 0) 2 v2.toNatClampNeg (gA (xT xs_27 2) 2 v2.toNatClampNeg)) := ⟨_, rfl⟩
      have hP : va_P D vwCl (xW b T xa_23 (uT xs_27 0 (sA (xT xs_27 0) 2 v2.toNatClampNeg (gA (xT xs_27 2) 2 v2.toNatClampNeg)))) H := hP
      have hD : va_D A (xW b T xa_23 (uT xs_27 0 (sA (xT xs_27 0) 2 v2.toNatClampNeg (gA (xT xs_27 2) 2 v2.toNatClampNeg)))) := hD
      have hR : xRel b xa_23 (uT xs_27 0 (sA (xT xs_27 0) 2 v2.toNatClampNeg (gA (xT xs_27 2) 2 v2.toNatClampNeg))) := hR.uT _ _
      rw [← exs_30] at hP hD hR
      have heq := nm_h exs_30 heq
      obtain ⟨x_31, ex_31⟩ : ∃ y : Int32, y = v2 + (1 : Int32) := ⟨_, rfl⟩
      have heq := nm_h ex_31 heq
      refine lv_iinc (v := x_31) (lv' := [(2, .int x_31), (0, .ref (b 3)), (1, .ref (b 17))]) hx hb dX8_takeFrom_44 hl (k := 2) rfl (by rw [ex_31]; rfl) (by decide) rfl (fun ls hl => ?_)
      refine lv_goto (tgt := 2) hx hb dX8_takeFrom_47 (by decide) ?_
      exact ih xs_30 x_31 xa_23 H locs ls hR hU hP hD hS (lv_sub hl [1, 2, 0] rfl) heq
  obtain ⟨H, hH⟩ : ∃ H, H = s.heap := ⟨_, rfl⟩
  obtain ⟨locs, hlocs⟩ : ∃ z : List Loc, z = [] := ⟨_, rfl⟩
  have hS : va_S A s.heap H locs := by rw [hH, hlocs]; exact hS
  have hP : va_P D vwCl (xW b T xa xs) H := by rw [hH]; exact hP
  suffices h9 : W p l e rmX8_takeFrom_0_2 s m args below meth c H locs 0 0 Q (F0 m 0 ls []) by rw [hH, hlocs] at h9; exact h9
  clear hH hlocs
  unfold X8_takeFrom_0_2 at heq
  refine lv_iconst (v := (0 : Int32)) hx hb dX8_takeFrom_0 (by decide) ?_
  refine lv_istore_n (lv' := [(2, .int (0 : Int32)), (0, .ref (b 3)), (1, .ref (b 17))]) hx hb dX8_takeFrom_1 rfl hl (by decide) rfl (fun ls hl => ?_)
  exact b2 13 xs (0 : Int32) xa H locs ls hR hU hP hD hS (lv_sub hl [1, 2, 0] rfl) heq
set_option maxRecDepth 20000 in
theorem ggX8_replace_X0_bears : GoodIn wsX8_replace wsX0_bears := goodIn_r _ [8] (by decide +kernel) (by decide +kernel)
set_option maxRecDepth 20000 in
theorem gX8_replace_X0_bears : GoodIn wsX8_replace (wsV RX8 58 RX0 yX0_bears wsX0_bears) := goodIn_app (goodIn_of _ (by decide +kernel)) ggX8_replace_X0_bears
set_option maxRecDepth 20000 in
theorem ggX8_replace_X1_bears : GoodIn wsX8_replace wsX1_bears := goodIn_r _ [15, 16, 10, 17, 5, 7, 8] (by decide +kernel) (by decide +kernel)
set_option maxRecDepth 20000 in
theorem gX8_replace_X1_bears_u58X1 : GoodIn wsX8_replace (va_wsO RX8 58 RX1 "LaidDownTheLane$Brick" ⟨"LaidDownTheLane$Brick", "bears", "()I"⟩ yX1_bears wsX1_bears) := goodIn_app (goodIn_of _ (by decide +kernel)) ggX8_replace_X1_bears
set_option maxRecDepth 20000 in
theorem ggX8_replace_X2_bears : GoodIn wsX8_replace wsX2_bears := goodIn_r _ [21] (by decide +kernel) (by decide +kernel)
set_option maxRecDepth 20000 in
theorem gX8_replace_X2_bears_u58X2 : GoodIn wsX8_replace (va_wsO RX8 58 RX2 "LaidDownTheLane$Brick" ⟨"LaidDownTheLane$Brick", "bears", "()I"⟩ yX2_bears wsX2_bears) := goodIn_app (goodIn_of _ (by decide +kernel)) ggX8_replace_X2_bears
set_option maxRecDepth 20000 in
theorem ggX8_replace_X3_bears : GoodIn wsX8_replace wsX3_bears := goodIn_r _ [25, 26, 27, 28, 10, 29, 5, 7, 8, 85, 86, 87, 88, 89, 90, 91, 92] (by decide +kernel) (by decide +kernel)
set_option maxRecDepth 20000 in
theorem gX8_replace_X3_bears_u58X3 : GoodIn wsX8_replace (va_wsO RX8 58 RX3 "LaidDownTheLane$Brick" ⟨"LaidDownTheLane$Brick", "bears", "()I"⟩ yX3_bears wsX3_bears) := goodIn_app (goodIn_of _ (by decide +kernel)) ggX8_replace_X3_bears
set_option maxRecDepth 20000 in
theorem ggX8_replace_X4_bears : GoodIn wsX8_replace wsX4_bears := goodIn_r _ [33, 34, 35, 36, 37, 38, 39, 40, 41, 85, 86, 87, 88, 89, 90, 91, 92] (by decide +kernel) (by decide +kernel)
set_option maxRecDepth 20000 in
theorem gX8_replace_X4_bears_u58X4 : GoodIn wsX8_replace (va_wsO RX8 58 RX4 "LaidDownTheLane$Brick" ⟨"LaidDownTheLane$Brick", "bears", "()I"⟩ yX4_bears wsX4_bears) := goodIn_app (goodIn_of _ (by decide +kernel)) ggX8_replace_X4_bears
set_option maxRecDepth 20000 in
theorem ggX8_replace_X6_bears : GoodIn wsX8_replace wsX6_bears := goodIn_r _ [39, 40, 41, 85, 86, 87, 88, 89, 90, 91, 92] (by decide +kernel) (by decide +kernel)
set_option maxRecDepth 20000 in
theorem gX8_replace_X6_bears_u58X5 : GoodIn wsX8_replace (va_wsO RX8 58 RX5 "LaidDownTheLane$Brick" ⟨"LaidDownTheLane$Brick", "bears", "()I"⟩ yX6_bears wsX6_bears) := goodIn_app (goodIn_of _ (by decide +kernel)) ggX8_replace_X6_bears
set_option maxRecDepth 20000 in
theorem gX8_replace_X6_bears_u58X6 : GoodIn wsX8_replace (va_wsO RX8 58 RX6 "LaidDownTheLane$Brick" ⟨"LaidDownTheLane$Brick", "bears", "()I"⟩ yX6_bears wsX6_bears) := goodIn_app (goodIn_of _ (by decide +kernel)) ggX8_replace_X6_bears
set_option maxRecDepth 20000 in
theorem ggX8_replace_X9_bears : GoodIn wsX8_replace wsX9_bears := goodIn_r _ [47, 48, 10, 49, 5, 7, 8] (by decide +kernel) (by decide +kernel)
set_option maxRecDepth 20000 in
theorem gX8_replace_X9_bears_u58X9 : GoodIn wsX8_replace (va_wsO RX8 58 RX9 "LaidDownTheLane$Brick" ⟨"LaidDownTheLane$Brick", "bears", "()I"⟩ yX9_bears wsX9_bears) := goodIn_app (goodIn_of _ (by decide +kernel)) ggX8_replace_X9_bears
set_option maxRecDepth 20000 in
theorem ggX8_replace_X0_burns : GoodIn wsX8_replace wsX0_burns := goodIn_r _ [53] (by decide +kernel) (by decide +kernel)
set_option maxRecDepth 20000 in
theorem gX8_replace_X0_burns : GoodIn wsX8_replace (wsV RX8 61 RX0 yX0_burns wsX0_burns) := goodIn_app (goodIn_of _ (by decide +kernel)) ggX8_replace_X0_burns
set_option maxRecDepth 20000 in
theorem gX8_replace_X0_burns_u61X1 : GoodIn wsX8_replace (va_wsU RX8 61 RX1 "LaidDownTheLane$Brick" ⟨"LaidDownTheLane$Brick", "burns", "()I"⟩ yX0_burns wsX0_burns) := goodIn_app (goodIn_of _ (by decide +kernel)) ggX8_replace_X0_burns
set_option maxRecDepth 20000 in
theorem gX8_replace_X0_burns_u61X2 : GoodIn wsX8_replace (va_wsU RX8 61 RX2 "LaidDownTheLane$Brick" ⟨"LaidDownTheLane$Brick", "burns", "()I"⟩ yX0_burns wsX0_burns) := goodIn_app (goodIn_of _ (by decide +kernel)) ggX8_replace_X0_burns
set_option maxRecDepth 20000 in
theorem gX8_replace_X0_burns_u61X3 : GoodIn wsX8_replace (va_wsU RX8 61 RX3 "LaidDownTheLane$Brick" ⟨"LaidDownTheLane$Brick", "burns", "()I"⟩ yX0_burns wsX0_burns) := goodIn_app (goodIn_of _ (by decide +kernel)) ggX8_replace_X0_burns
set_option maxRecDepth 20000 in
theorem ggX8_replace_X4_burns : GoodIn wsX8_replace wsX4_burns := goodIn_r _ [62, 63, 64, 36, 65, 38, 66, 40, 41, 85, 86, 87, 88, 89, 90, 91, 92] (by decide +kernel) (by decide +kernel)
set_option maxRecDepth 20000 in
theorem gX8_replace_X4_burns_u61X4 : GoodIn wsX8_replace (va_wsO RX8 61 RX4 "LaidDownTheLane$Brick" ⟨"LaidDownTheLane$Brick", "burns", "()I"⟩ yX4_burns wsX4_burns) := goodIn_app (goodIn_of _ (by decide +kernel)) ggX8_replace_X4_burns
set_option maxRecDepth 20000 in
theorem ggX8_replace_X5_burns : GoodIn wsX8_replace wsX5_burns := goodIn_r _ [70, 71, 64, 72, 65, 38, 66, 40, 41, 85, 86, 87, 88, 89, 90, 91, 92] (by decide +kernel) (by decide +kernel)
set_option maxRecDepth 20000 in
theorem gX8_replace_X5_burns_u61X5 : GoodIn wsX8_replace (va_wsO RX8 61 RX5 "LaidDownTheLane$Brick" ⟨"LaidDownTheLane$Brick", "burns", "()I"⟩ yX5_burns wsX5_burns) := goodIn_app (goodIn_of _ (by decide +kernel)) ggX8_replace_X5_burns
set_option maxRecDepth 20000 in
theorem ggX8_replace_X6_burns : GoodIn wsX8_replace wsX6_burns := goodIn_r _ [66, 40, 41, 85, 86, 87, 88, 89, 90, 91, 92] (by decide +kernel) (by decide +kernel)
set_option maxRecDepth 20000 in
theorem gX8_replace_X6_burns_u61X6 : GoodIn wsX8_replace (va_wsO RX8 61 RX6 "LaidDownTheLane$Brick" ⟨"LaidDownTheLane$Brick", "burns", "()I"⟩ yX6_burns wsX6_burns) := goodIn_app (goodIn_of _ (by decide +kernel)) ggX8_replace_X6_burns
set_option maxRecDepth 20000 in
theorem gX8_replace_X0_burns_u61X9 : GoodIn wsX8_replace (va_wsU RX8 61 RX9 "LaidDownTheLane$Brick" ⟨"LaidDownTheLane$Brick", "burns", "()I"⟩ yX0_burns wsX0_burns) := goodIn_app (goodIn_of _ (by decide +kernel)) ggX8_replace_X0_burns
theorem dX8_replace_0 : decode cX8_replace 0 = .ok (.aload_n 0, 1) := by decide +kernel
theorem dX8_replace_1 : decode cX8_replace 1 = .ok (.getfield 11, 3) := by decide +kernel
theorem dX8_replace_4 : decode cX8_replace 4 = .ok (.iload_n 1, 1) := by decide +kernel
theorem dX8_replace_5 : decode cX8_replace 5 = .ok (.aload_n 2, 1) := by decide +kernel
theorem dX8_replace_6 : decode cX8_replace 6 = .ok (.aastore, 1) := by decide +kernel
theorem dX8_replace_7 : decode cX8_replace 7 = .ok (.aload_n 0, 1) := by decide +kernel
theorem dX8_replace_8 : decode cX8_replace 8 = .ok (.getfield 17, 3) := by decide +kernel
theorem dX8_replace_11 : decode cX8_replace 11 = .ok (.iload_n 1, 1) := by decide +kernel
theorem dX8_replace_12 : decode cX8_replace 12 = .ok (.aload_n 2, 1) := by decide +kernel
theorem dX8_replace_13 : decode cX8_replace 13 = .ok (.invokevirtual 58, 3) := by decide +kernel
theorem dX8_replace_16 : decode cX8_replace 16 = .ok (.iastore, 1) := by decide +kernel
theorem dX8_replace_17 : decode cX8_replace 17 = .ok (.aload_n 0, 1) := by decide +kernel
theorem dX8_replace_18 : decode cX8_replace 18 = .ok (.getfield 21, 3) := by decide +kernel
theorem dX8_replace_21 : decode cX8_replace 21 = .ok (.iload_n 1, 1) := by decide +kernel
theorem dX8_replace_22 : decode cX8_replace 22 = .ok (.aload_n 2, 1) := by decide +kernel
theorem dX8_replace_23 : decode cX8_replace 23 = .ok (.invokevirtual 61, 3) := by decide +kernel
theorem dX8_replace_26 : decode cX8_replace 26 = .ok (.iastore, 1) := by decide +kernel
theorem dX8_replace_27 : decode cX8_replace 27 = .ok (.return_, 1) := by decide +kernel
/-! X8 replace_0 -/
def X8_replace_0 (xs : XS) (v1 : Int32) (v2 : BK) : Option (Unit × XS) :=
    inr v1 12 <|
    nm (uB xs 0 v1.toNatClampNeg v2) fun xs_3 =>
    inr v1 12 <|
    nm (uT xs_3 0 (sA (xT xs_3 0) 1 v1.toNatClampNeg (beB v2))) fun xs_5 =>
    inr v1 12 <|
    nm (uT xs_5 0 (sA (xT xs_5 0) 2 v1.toNatClampNeg (buB v2))) fun xs_7 =>
    some ((), xs_7)
abbrev rmX8_replace_0 : Room := { frames := 2, cells := 0, slots := 0, locals := 40 }
theorem hdX8_replace : yX8_replace.cls = RX8 ∧ yX8_replace.cls ≠ "java/lang/invoke/MethodHandle" ∧ yX8_replace.cls ≠ "java/lang/invoke/VarHandle" ∧ (parseMethodDescriptor yX8_replace.desc).map (fun d => d.parameters.length) = some 2 := by decide +kernel
set_option maxRecDepth 100000 in
set_option maxHeartbeats 8000000 in
theorem okX8_replace_0 (z : Nat → Nat) (l : Launch) (D : va_G) (T : mT3) (b : Nat → Nat) {xa : XA} {xs : XS} {v1 : Int32} {v2 : BK} {xs' : XS} (hR : xRel b xa xs) {v2q : Nat} (v2h : (v2q, v2) ∈ xPl xa) (heq : X8_replace_0 xs v1 v2 = some ((), xs')) : hXv xSub z l D T b yX8_replace wsX8_replace rmX8_replace_0 [.ref (b 3), .int v1, .ref v2q] xa xs xs' := by
  refine xbody_v (plainFor_of_name (by decide)) rfl (Nat.le_of_ble_eq_true rfl) (fun p e s m args below meth c A Q hx hb hml hown hts hK hA hX hret ls hP hD hS hl => ?_)
  have hl : lv_has ls 3 [(0, .ref (b 3)), (1, .int v1), (2, .ref v2q)] := hl
  have hin8 : ∀ w ∈ wsX80, w ∈ wsX8_replace := by decide +kernel
  have f11 : (Cond.fieldLink RX8 11 RX8 (TX8 0).2.1 (TX8 0).2.2.1).before args s = true := hts (.fieldLink RX8 11 RX8 "foot" "[LLaidDownTheLane$Brick;") (by decide +kernel)
  have f17 : (Cond.fieldLink RX8 17 RX8 (TX8 1).2.1 (TX8 1).2.2.1).before args s = true := hts (.fieldLink RX8 17 RX8 "bears" "[I") (by decide +kernel)
  have f21 : (Cond.fieldLink RX8 21 RX8 (TX8 2).2.1 (TX8 2).2.2.1).before args s = true := hts (.fieldLink RX8 21 RX8 "burns" "[I") (by decide +kernel)
  obtain ⟨xa0, hxa0⟩ : ∃ z : XA, z = xa := ⟨_, rfl⟩
  rw [← hxa0] at hret
  have hU : xSub xa0 xa := by rw [hxa0]; exact xSub.rf
  clear hxa0
  obtain ⟨H, hH⟩ : ∃ H, H = s.heap := ⟨_, rfl⟩
  obtain ⟨locs, hlocs⟩ : ∃ z : List Loc, z = [] := ⟨_, rfl⟩
  have hS : va_S A s.heap H locs := by rw [hH, hlocs]; exact hS
  have hP : va_P D vwCl (xW b T xa xs) H := by rw [hH]; exact hP
  suffices h9 : W p l e rmX8_replace_0 s m args below meth c H locs 0 0 Q (F0 m 0 ls []) by rw [hH, hlocs] at h9; exact h9
  clear hH hlocs
  unfold X8_replace_0 at heq
  refine lv_aload_n hx hb dX8_replace_0 rfl (lv_at hl 0 rfl) ?_
  refine va_get (D := D) (ci := 8) (v := .ref (b 4)) (C := RX8) (T := TX8) (N := 10) hx hb hts hin8 hown hK hP 3 rfl rfl 0 (by decide) f11 (fun _ h9 => h9) rfl dX8_replace_1 ?_
  refine lv_iload_n hx hb dX8_replace_4 rfl (lv_at hl 1 rfl) ?_
  refine lv_aload_n hx hb dX8_replace_5 rfl (lv_at hl 2 rfl) ?_
  obtain ⟨n_1, heq⟩ := inr_h heq
  refine x_aast0 hx hb hK hX hP hD hS v2h hR n_1 dX8_replace_6 (fun H locs hP hD hS => ?_)
  obtain ⟨xa_2, exa_2⟩ : ∃ z, z = xFoot xa 0 v1.toNatClampNeg v2q := ⟨_, rfl⟩
  have hR : xRel b (xFoot xa 0 v1.toNatClampNeg v2q) (uB xs 0 v1.toNatClampNeg v2) := hR.foot v2h
  have hsxa_2 : xSub xa xa_2 := by rw [exa_2]; exact xSub.foot
  rw [← exa_2] at hP hD hR
  have hU := xSub.tr hU hsxa_2
  obtain ⟨xs_3, exs_3⟩ : ∃ z, z = uB xs 0 v1.toNatClampNeg v2 := ⟨_, rfl⟩
  rw [← exs_3] at hP hD hR
  have heq := nm_h exs_3 heq
  refine lv_aload_n hx hb dX8_replace_7 rfl (lv_at hl 0 rfl) ?_
  refine va_get (D := D) (ci := 8) (v := .ref (b 5)) (C := RX8) (T := TX8) (N := 10) hx hb hts hin8 hown hK hP 3 rfl rfl 1 (by decide) f17 (fun _ h9 => h9) rfl dX8_replace_8 ?_
  refine lv_iload_n hx hb dX8_replace_11 rfl (lv_at hl 1 rfl) ?_
  refine lv_aload_n hx hb dX8_replace_12 rfl (lv_at hl 2 rfl) ?_
  suffices hcont : ∀ (H : Heap) (locs : List Loc), va_P D vwCl (xW b T xa_2 xs_3) H → va_S A s.heap H locs → W p l e rmX8_replace_0 s m args below meth c H locs 0 0 Q (F0 m 16 ls [.int (beB v2), .int v1, .ref (b 5)]) by
    have hm := xMem b T xs_3 (hsxa_2.1 _ v2h)
    have h8 := hR.2.2.2.2 _ (hsxa_2.1 _ v2h)
    obtain ⟨kk, ekk⟩ : ∃ z, z = v2 := ⟨_, rfl⟩
    rw [← ekk] at hm h8 hcont
    obtain ⟨kd, fg⟩ := kk
    rcases (show kd = 0 ∨ kd = 1 ∨ kd = 2 ∨ kd = 3 ∨ kd = 4 ∨ kd = 5 ∨ kd = 6 ∨ kd = 7 from by have := h8; simp only at this; omega) with rfl | rfl | rfl | rfl | rfl | rfl | rfl | rfl
    · exact x_brick (own := RX8) (rest := [.int v1, .ref (b 5)]) hx hb hml hown hts (okX0_bears_0 z l D T _ fg) (Or.inl (cwV 0 hts gX8_replace_X0_bears rfl rfl rfl hdX0_bears ⟨Nat.le_of_ble_eq_true rfl, Nat.le_of_ble_eq_true rfl⟩)) hK hA hX hP hD hS hm rfl hl.1 (Nat.le_of_ble_eq_true rfl) dX8_replace_13 ⟨Nat.le_of_ble_eq_true rfl, Nat.le_of_ble_eq_true rfl⟩ hcont
    · exact x_brick (own := RX8) (rest := [.int v1, .ref (b 5)]) hx hb hml hown hts (okX2_bears_2 z l D T _ fg) (Or.inr ⟨_, _, va_cwO 0 hts gX8_replace_X2_bears_u58X2 rfl rfl rfl (b0 := cX0_bears) (m0 := 1) (r0 := some .int) (by decide +kernel) (by decide +kernel) ⟨Nat.le_of_ble_eq_true rfl, Nat.le_of_ble_eq_true rfl⟩⟩) hK hA hX hP hD hS hm rfl hl.1 (Nat.le_of_ble_eq_true rfl) dX8_replace_13 ⟨Nat.le_of_ble_eq_true rfl, Nat.le_of_ble_eq_true rfl⟩ hcont
    · exact x_brick (own := RX8) (rest := [.int v1, .ref (b 5)]) hx hb hml hown hts (okX6_bears_6 z l D T _ fg) (Or.inr ⟨_, _, va_cwO 0 hts gX8_replace_X6_bears_u58X6 rfl rfl rfl (b0 := cX0_bears) (m0 := 1) (r0 := some .int) (by decide +kernel) (by decide +kernel) ⟨Nat.le_of_ble_eq_true rfl, Nat.le_of_ble_eq_true rfl⟩⟩) hK hA hX hP hD hS hm rfl hl.1 (Nat.le_of_ble_eq_true rfl) dX8_replace_13 ⟨Nat.le_of_ble_eq_true rfl, Nat.le_of_ble_eq_true rfl⟩ hcont
    · exact x_brick (own := RX8) (rest := [.int v1, .ref (b 5)]) hx hb hml hown hts (okX4_bears_4 z l D T _ fg) (Or.inr ⟨_, _, va_cwO 0 hts gX8_replace_X4_bears_u58X4 rfl rfl rfl (b0 := cX0_bears) (m0 := 1) (r0 := some .int) (by decide +kernel) (by decide +kernel) ⟨Nat.le_of_ble_eq_true rfl, Nat.le_of_ble_eq_true rfl⟩⟩) hK hA hX hP hD hS hm rfl hl.1 (Nat.le_of_ble_eq_true rfl) dX8_replace_13 ⟨Nat.le_of_ble_eq_true rfl, Nat.le_of_ble_eq_true rfl⟩ hcont
    · exact x_brick (own := RX8) (rest := [.int v1, .ref (b 5)]) hx hb hml hown hts (okX1_bears_1 z l D T _ fg) (Or.inr ⟨_, _, va_cwO 0 hts gX8_replace_X1_bears_u58X1 rfl rfl rfl (b0 := cX0_bears) (m0 := 1) (r0 := some .int) (by decide +kernel) (by decide +kernel) ⟨Nat.le_of_ble_eq_true rfl, Nat.le_of_ble_eq_true rfl⟩⟩) hK hA hX hP hD hS hm rfl hl.1 (Nat.le_of_ble_eq_true rfl) dX8_replace_13 ⟨Nat.le_of_ble_eq_true rfl, Nat.le_of_ble_eq_true rfl⟩ hcont
    · exact x_brick (own := RX8) (rest := [.int v1, .ref (b 5)]) hx hb hml hown hts (okX3_bears_3 z l D T _ fg) (Or.inr ⟨_, _, va_cwO 0 hts gX8_replace_X3_bears_u58X3 rfl rfl rfl (b0 := cX0_bears) (m0 := 1) (r0 := some .int) (by decide +kernel) (by decide +kernel) ⟨Nat.le_of_ble_eq_true rfl, Nat.le_of_ble_eq_true rfl⟩⟩) hK hA hX hP hD hS hm rfl hl.1 (Nat.le_of_ble_eq_true rfl) dX8_replace_13 ⟨Nat.le_of_ble_eq_true rfl, Nat.le_of_ble_eq_true rfl⟩ hcont
    · exact x_brick (own := RX8) (rest := [.int v1, .ref (b 5)]) hx hb hml hown hts (okX6_bears_5 z l D T _ fg) (Or.inr ⟨_, _, va_cwO 0 hts gX8_replace_X6_bears_u58X5 rfl rfl rfl (b0 := cX0_bears) (m0 := 1) (r0 := some .int) (by decide +kernel) (by decide +kernel) ⟨Nat.le_of_ble_eq_true rfl, Nat.le_of_ble_eq_true rfl⟩⟩) hK hA hX hP hD hS hm rfl hl.1 (Nat.le_of_ble_eq_true rfl) dX8_replace_13 ⟨Nat.le_of_ble_eq_true rfl, Nat.le_of_ble_eq_true rfl⟩ hcont
    · exact x_brick (own := RX8) (rest := [.int v1, .ref (b 5)]) hx hb hml hown hts (okX9_bears_9 z l D T _ fg) (Or.inr ⟨_, _, va_cwO 0 hts gX8_replace_X9_bears_u58X9 rfl rfl rfl (b0 := cX0_bears) (m0 := 1) (r0 := some .int) (by decide +kernel) (by decide +kernel) ⟨Nat.le_of_ble_eq_true rfl, Nat.le_of_ble_eq_true rfl⟩⟩) hK hA hX hP hD hS hm rfl hl.1 (Nat.le_of_ble_eq_true rfl) dX8_replace_13 ⟨Nat.le_of_ble_eq_true rfl, Nat.le_of_ble_eq_true rfl⟩ hcont
  intro H locs hP hS
  obtain ⟨n_4, heq⟩ := inr_h heq
  refine va_iast (f := gA (xT xs_3 0) 1) (n := 12) hx hb hK hP hD hS 5 0 rfl rfl n_4 dX8_replace_16 (fun H locs hP hD hS => ?_)
  obtain ⟨xs_5, exs_5⟩ : ∃ z, z = uT xs_3 0 (sA (xT xs_3 0) 1 v1.toNatClampNeg (beB v2)) := ⟨_, rfl⟩
  have hP : va_P D vwCl (xW b T xa_2 (uT xs_3 0 (sA (xT xs_3 0) 1 v1.toNatClampNeg (beB v2)))) H := hP
  have hD : va_D A (xW b T xa_2 (uT xs_3 0 (sA (xT xs_3 0) 1 v1.toNatClampNeg (beB v2)))) := hD
  have hR : xRel b xa_2 (uT xs_3 0 (sA (xT xs_3 0) 1 v1.toNatClampNeg (beB v2))) := hR.uT _ _
  rw [← exs_5] at hP hD hR
  have heq := nm_h exs_5 heq
  refine lv_aload_n hx hb dX8_replace_17 rfl (lv_at hl 0 rfl) ?_
  refine va_get (D := D) (ci := 8) (v := .ref (b 6)) (C := RX8) (T := TX8) (N := 10) hx hb hts hin8 hown hK hP 3 rfl rfl 2 (by decide) f21 (fun _ h9 => h9) rfl dX8_replace_18 ?_
  refine lv_iload_n hx hb dX8_replace_21 rfl (lv_at hl 1 rfl) ?_
  refine lv_aload_n hx hb dX8_replace_22 rfl (lv_at hl 2 rfl) ?_
  suffices hcont : ∀ (H : Heap) (locs : List Loc), va_P D vwCl (xW b T xa_2 xs_5) H → va_S A s.heap H locs → W p l e rmX8_replace_0 s m args below meth c H locs 0 0 Q (F0 m 26 ls [.int (buB v2), .int v1, .ref (b 6)]) by
    have hm := xMem b T xs_5 (hsxa_2.1 _ v2h)
    have h8 := hR.2.2.2.2 _ (hsxa_2.1 _ v2h)
    obtain ⟨kk, ekk⟩ : ∃ z, z = v2 := ⟨_, rfl⟩
    rw [← ekk] at hm h8 hcont
    obtain ⟨kd, fg⟩ := kk
    rcases (show kd = 0 ∨ kd = 1 ∨ kd = 2 ∨ kd = 3 ∨ kd = 4 ∨ kd = 5 ∨ kd = 6 ∨ kd = 7 from by have := h8; simp only at this; omega) with rfl | rfl | rfl | rfl | rfl | rfl | rfl | rfl
    · exact x_brick (own := RX8) (rest := [.int v1, .ref (b 6)]) hx hb hml hown hts (okX0_burns_0 z l D T _ fg) (Or.inl (cwV 0 hts gX8_replace_X0_burns rfl rfl rfl hdX0_burns ⟨Nat.le_of_ble_eq_true rfl, Nat.le_of_ble_eq_true rfl⟩)) hK hA hX hP hD hS hm rfl hl.1 (Nat.le_of_ble_eq_true rfl) dX8_replace_23 ⟨Nat.le_of_ble_eq_true rfl, Nat.le_of_ble_eq_true rfl⟩ hcont
    · exact x_brick (own := RX8) (rest := [.int v1, .ref (b 6)]) hx hb hml hown hts (okX0_burns_2 z l D T _ fg) (Or.inr ⟨_, _, va_cwU 0 hts gX8_replace_X0_burns_u61X2 rfl rfl rfl rfl (by decide +kernel) ⟨Nat.le_of_ble_eq_true rfl, Nat.le_of_ble_eq_true rfl⟩⟩) hK hA hX hP hD hS hm rfl hl.1 (Nat.le_of_ble_eq_true rfl) dX8_replace_23 ⟨Nat.le_of_ble_eq_true rfl, Nat.le_of_ble_eq_true rfl⟩ hcont
    · exact x_brick (own := RX8) (rest := [.int v1, .ref (b 6)]) hx hb hml hown hts (okX6_burns_6 z l D T _ fg) (Or.inr ⟨_, _, va_cwO 0 hts gX8_replace_X6_burns_u61X6 rfl rfl rfl (b0 := cX0_burns) (m0 := 1) (r0 := some .int) (by decide +kernel) (by decide +kernel) ⟨Nat.le_of_ble_eq_true rfl, Nat.le_of_ble_eq_true rfl⟩⟩) hK hA hX hP hD hS hm rfl hl.1 (Nat.le_of_ble_eq_true rfl) dX8_replace_23 ⟨Nat.le_of_ble_eq_true rfl, Nat.le_of_ble_eq_true rfl⟩ hcont
    · exact x_brick (own := RX8) (rest := [.int v1, .ref (b 6)]) hx hb hml hown hts (okX4_burns_4 z l D T _ fg) (Or.inr ⟨_, _, va_cwO 0 hts gX8_replace_X4_burns_u61X4 rfl rfl rfl (b0 := cX0_burns) (m0 := 1) (r0 := some .int) (by decide +kernel) (by decide +kernel) ⟨Nat.le_of_ble_eq_true rfl, Nat.le_of_ble_eq_true rfl⟩⟩) hK hA hX hP hD hS hm rfl hl.1 (Nat.le_of_ble_eq_true rfl) dX8_replace_23 ⟨Nat.le_of_ble_eq_true rfl, Nat.le_of_ble_eq_true rfl⟩ hcont
    · exact x_brick (own := RX8) (rest := [.int v1, .ref (b 6)]) hx hb hml hown hts (okX0_burns_1 z l D T _ fg) (Or.inr ⟨_, _, va_cwU 0 hts gX8_replace_X0_burns_u61X1 rfl rfl rfl rfl (by decide +kernel) ⟨Nat.le_of_ble_eq_true rfl, Nat.le_of_ble_eq_true rfl⟩⟩) hK hA hX hP hD hS hm rfl hl.1 (Nat.le_of_ble_eq_true rfl) dX8_replace_23 ⟨Nat.le_of_ble_eq_true rfl, Nat.le_of_ble_eq_true rfl⟩ hcont
    · exact x_brick (own := RX8) (rest := [.int v1, .ref (b 6)]) hx hb hml hown hts (okX0_burns_3 z l D T _ fg) (Or.inr ⟨_, _, va_cwU 0 hts gX8_replace_X0_burns_u61X3 rfl rfl rfl rfl (by decide +kernel) ⟨Nat.le_of_ble_eq_true rfl, Nat.le_of_ble_eq_true rfl⟩⟩) hK hA hX hP hD hS hm rfl hl.1 (Nat.le_of_ble_eq_true rfl) dX8_replace_23 ⟨Nat.le_of_ble_eq_true rfl, Nat.le_of_ble_eq_true rfl⟩ hcont
    · exact x_brick (own := RX8) (rest := [.int v1, .ref (b 6)]) hx hb hml hown hts (okX5_burns_5 z l D T _ fg) (Or.inr ⟨_, _, va_cwO 0 hts gX8_replace_X5_burns_u61X5 rfl rfl rfl (b0 := cX0_burns) (m0 := 1) (r0 := some .int) (by decide +kernel) (by decide +kernel) ⟨Nat.le_of_ble_eq_true rfl, Nat.le_of_ble_eq_true rfl⟩⟩) hK hA hX hP hD hS hm rfl hl.1 (Nat.le_of_ble_eq_true rfl) dX8_replace_23 ⟨Nat.le_of_ble_eq_true rfl, Nat.le_of_ble_eq_true rfl⟩ hcont
    · exact x_brick (own := RX8) (rest := [.int v1, .ref (b 6)]) hx hb hml hown hts (okX0_burns_9 z l D T _ fg) (Or.inr ⟨_, _, va_cwU 0 hts gX8_replace_X0_burns_u61X9 rfl rfl rfl rfl (by decide +kernel) ⟨Nat.le_of_ble_eq_true rfl, Nat.le_of_ble_eq_true rfl⟩⟩) hK hA hX hP hD hS hm rfl hl.1 (Nat.le_of_ble_eq_true rfl) dX8_replace_23 ⟨Nat.le_of_ble_eq_true rfl, Nat.le_of_ble_eq_true rfl⟩ hcont
  intro H locs hP hS
  obtain ⟨n_6, heq⟩ := inr_h heq
  refine va_iast (f := gA (xT xs_5 0) 2) (n := 12) hx hb hK hP hD hS 6 0 rfl rfl n_6 dX8_replace_26 (fun H locs hP hD hS => ?_)
  obtain ⟨xs_7, exs_7⟩ : ∃ z, z = uT xs_5 0 (sA (xT xs_5 0) 2 v1.toNatClampNeg (buB v2)) := ⟨_, rfl⟩
  have hP : va_P D vwCl (xW b T xa_2 (uT xs_5 0 (sA (xT xs_5 0) 2 v1.toNatClampNeg (buB v2)))) H := hP
  have hD : va_D A (xW b T xa_2 (uT xs_5 0 (sA (xT xs_5 0) 2 v1.toNatClampNeg (buB v2)))) := hD
  have hR : xRel b xa_2 (uT xs_5 0 (sA (xT xs_5 0) 2 v1.toNatClampNeg (buB v2))) := hR.uT _ _
  rw [← exs_7] at hP hD hR
  have heq := nm_h exs_7 heq
  obtain ⟨-, heq2⟩ := ret_h heq
  subst heq2
  exact hret 27 H locs ls xa_2 hR hU hP hD hS dX8_replace_27
/-! X8 replace_1 -/
def X8_replace_1 (xs : XS) (v1 : Int32) (v2 : BK) : Option (Unit × XS) :=
    inr v1 12 <|
    nm (uB xs 1 v1.toNatClampNeg v2) fun xs_3 =>
    inr v1 12 <|
    nm (uT xs_3 1 (sA (xT xs_3 1) 1 v1.toNatClampNeg (beB v2))) fun xs_5 =>
    inr v1 12 <|
    nm (uT xs_5 1 (sA (xT xs_5 1) 2 v1.toNatClampNeg (buB v2))) fun xs_7 =>
    some ((), xs_7)
abbrev rmX8_replace_1 : Room := { frames := 2, cells := 0, slots := 0, locals := 40 }
set_option maxRecDepth 100000 in
set_option maxHeartbeats 8000000 in
theorem okX8_replace_1 (z : Nat → Nat) (l : Launch) (D : va_G) (T : mT3) (b : Nat → Nat) {xa : XA} {xs : XS} {v1 : Int32} {v2 : BK} {xs' : XS} (hR : xRel b xa xs) {v2q : Nat} (v2h : (v2q, v2) ∈ xPl xa) (heq : X8_replace_1 xs v1 v2 = some ((), xs')) : hXv xSub z l D T b yX8_replace wsX8_replace rmX8_replace_1 [.ref (b 10), .int v1, .ref v2q] xa xs xs' := by
  refine xbody_v (plainFor_of_name (by decide)) rfl (Nat.le_of_ble_eq_true rfl) (fun p e s m args below meth c A Q hx hb hml hown hts hK hA hX hret ls hP hD hS hl => ?_)
  have hl : lv_has ls 3 [(0, .ref (b 10)), (1, .int v1), (2, .ref v2q)] := hl
  have hin8 : ∀ w ∈ wsX80, w ∈ wsX8_replace := by decide +kernel
  have f11 : (Cond.fieldLink RX8 11 RX8 (TX8 0).2.1 (TX8 0).2.2.1).before args s = true := hts (.fieldLink RX8 11 RX8 "foot" "[LLaidDownTheLane$Brick;") (by decide +kernel)
  have f17 : (Cond.fieldLink RX8 17 RX8 (TX8 1).2.1 (TX8 1).2.2.1).before args s = true := hts (.fieldLink RX8 17 RX8 "bears" "[I") (by decide +kernel)
  have f21 : (Cond.fieldLink RX8 21 RX8 (TX8 2).2.1 (TX8 2).2.2.1).before args s = true := hts (.fieldLink RX8 21 RX8 "burns" "[I") (by decide +kernel)
  obtain ⟨xa0, hxa0⟩ : ∃ z : XA, z = xa := ⟨_, rfl⟩
  rw [← hxa0] at hret
  have hU : xSub xa0 xa := by rw [hxa0]; exact xSub.rf
  clear hxa0
  obtain ⟨H, hH⟩ : ∃ H, H = s.heap := ⟨_, rfl⟩
  obtain ⟨locs, hlocs⟩ : ∃ z : List Loc, z = [] := ⟨_, rfl⟩
  have hS : va_S A s.heap H locs := by rw [hH, hlocs]; exact hS
  have hP : va_P D vwCl (xW b T xa xs) H := by rw [hH]; exact hP
  suffices h9 : W p l e rmX8_replace_1 s m args below meth c H locs 0 0 Q (F0 m 0 ls []) by rw [hH, hlocs] at h9; exact h9
  clear hH hlocs
  unfold X8_replace_1 at heq
  refine lv_aload_n hx hb dX8_replace_0 rfl (lv_at hl 0 rfl) ?_
  refine va_get (D := D) (ci := 8) (v := .ref (b 11)) (C := RX8) (T := TX8) (N := 10) hx hb hts hin8 hown hK hP 10 rfl rfl 0 (by decide) f11 (fun _ h9 => h9) rfl dX8_replace_1 ?_
  refine lv_iload_n hx hb dX8_replace_4 rfl (lv_at hl 1 rfl) ?_
  refine lv_aload_n hx hb dX8_replace_5 rfl (lv_at hl 2 rfl) ?_
  obtain ⟨n_1, heq⟩ := inr_h heq
  refine x_aast1 hx hb hK hX hP hD hS v2h hR n_1 dX8_replace_6 (fun H locs hP hD hS => ?_)
  obtain ⟨xa_2, exa_2⟩ : ∃ z, z = xFoot xa 1 v1.toNatClampNeg v2q := ⟨_, rfl⟩
  have hR : xRel b (xFoot xa 1 v1.toNatClampNeg v2q) (uB xs 1 v1.toNatClampNeg v2) := hR.foot v2h
  have hsxa_2 : xSub xa xa_2 := by rw [exa_2]; exact xSub.foot
  rw [← exa_2] at hP hD hR
  have hU := xSub.tr hU hsxa_2
  obtain ⟨xs_3, exs_3⟩ : ∃ z, z = uB xs 1 v1.toNatClampNeg v2 := ⟨_, rfl⟩
  rw [← exs_3] at hP hD hR
  have heq := nm_h exs_3 heq
  refine lv_aload_n hx hb dX8_replace_7 rfl (lv_at hl 0 rfl) ?_
  refine va_get (D := D) (ci := 8) (v := .ref (b 12)) (C := RX8) (T := TX8) (N := 10) hx hb hts hin8 hown hK hP 10 rfl rfl 1 (by decide) f17 (fun _ h9 => h9) rfl dX8_replace_8 ?_
  refine lv_iload_n hx hb dX8_replace_11 rfl (lv_at hl 1 rfl) ?_
  refine lv_aload_n hx hb dX8_replace_12 rfl (lv_at hl 2 rfl) ?_
  suffices hcont : ∀ (H : Heap) (locs : List Loc), va_P D vwCl (xW b T xa_2 xs_3) H → va_S A s.heap H locs → W p l e rmX8_replace_1 s m args below meth c H locs 0 0 Q (F0 m 16 ls [.int (beB v2), .int v1, .ref (b 12)]) by
    have hm := xMem b T xs_3 (hsxa_2.1 _ v2h)
    have h8 := hR.2.2.2.2 _ (hsxa_2.1 _ v2h)
    obtain ⟨kk, ekk⟩ : ∃ z, z = v2 := ⟨_, rfl⟩
    rw [← ekk] at hm h8 hcont
    obtain ⟨kd, fg⟩ := kk
    rcases (show kd = 0 ∨ kd = 1 ∨ kd = 2 ∨ kd = 3 ∨ kd = 4 ∨ kd = 5 ∨ kd = 6 ∨ kd = 7 from by have := h8; simp only at this; omega) with rfl | rfl | rfl | rfl | rfl | rfl | rfl | rfl
    · exact x_brick (own := RX8) (rest := [.int v1, .ref (b 12)]) hx hb hml hown hts (okX0_bears_0 z l D T _ fg) (Or.inl (cwV 0 hts gX8_replace_X0_bears rfl rfl rfl hdX0_bears ⟨Nat.le_of_ble_eq_true rfl, Nat.le_of_ble_eq_true rfl⟩)) hK hA hX hP hD hS hm rfl hl.1 (Nat.le_of_ble_eq_true rfl) dX8_replace_13 ⟨Nat.le_of_ble_eq_true rfl, Nat.le_of_ble_eq_true rfl⟩ hcont
    · exact x_brick (own := RX8) (rest := [.int v1, .ref (b 12)]) hx hb hml hown hts (okX2_bears_2 z l D T _ fg) (Or.inr ⟨_, _, va_cwO 0 hts gX8_replace_X2_bears_u58X2 rfl rfl rfl (b0 := cX0_bears) (m0 := 1) (r0 := some .int) (by decide +kernel) (by decide +kernel) ⟨Nat.le_of_ble_eq_true rfl, Nat.le_of_ble_eq_true rfl⟩⟩) hK hA hX hP hD hS hm rfl hl.1 (Nat.le_of_ble_eq_true rfl) dX8_replace_13 ⟨Nat.le_of_ble_eq_true rfl, Nat.le_of_ble_eq_true rfl⟩ hcont
    · exact x_brick (own := RX8) (rest := [.int v1, .ref (b 12)]) hx hb hml hown hts (okX6_bears_6 z l D T _ fg) (Or.inr ⟨_, _, va_cwO 0 hts gX8_replace_X6_bears_u58X6 rfl rfl rfl (b0 := cX0_bears) (m0 := 1) (r0 := some .int) (by decide +kernel) (by decide +kernel) ⟨Nat.le_of_ble_eq_true rfl, Nat.le_of_ble_eq_true rfl⟩⟩) hK hA hX hP hD hS hm rfl hl.1 (Nat.le_of_ble_eq_true rfl) dX8_replace_13 ⟨Nat.le_of_ble_eq_true rfl, Nat.le_of_ble_eq_true rfl⟩ hcont
    · exact x_brick (own := RX8) (rest := [.int v1, .ref (b 12)]) hx hb hml hown hts (okX4_bears_4 z l D T _ fg) (Or.inr ⟨_, _, va_cwO 0 hts gX8_replace_X4_bears_u58X4 rfl rfl rfl (b0 := cX0_bears) (m0 := 1) (r0 := some .int) (by decide +kernel) (by decide +kernel) ⟨Nat.le_of_ble_eq_true rfl, Nat.le_of_ble_eq_true rfl⟩⟩) hK hA hX hP hD hS hm rfl hl.1 (Nat.le_of_ble_eq_true rfl) dX8_replace_13 ⟨Nat.le_of_ble_eq_true rfl, Nat.le_of_ble_eq_true rfl⟩ hcont
    · exact x_brick (own := RX8) (rest := [.int v1, .ref (b 12)]) hx hb hml hown hts (okX1_bears_1 z l D T _ fg) (Or.inr ⟨_, _, va_cwO 0 hts gX8_replace_X1_bears_u58X1 rfl rfl rfl (b0 := cX0_bears) (m0 := 1) (r0 := some .int) (by decide +kernel) (by decide +kernel) ⟨Nat.le_of_ble_eq_true rfl, Nat.le_of_ble_eq_true rfl⟩⟩) hK hA hX hP hD hS hm rfl hl.1 (Nat.le_of_ble_eq_true rfl) dX8_replace_13 ⟨Nat.le_of_ble_eq_true rfl, Nat.le_of_ble_eq_true rfl⟩ hcont
    · exact x_brick (own := RX8) (rest := [.int v1, .ref (b 12)]) hx hb hml hown hts (okX3_bears_3 z l D T _ fg) (Or.inr ⟨_, _, va_cwO 0 hts gX8_replace_X3_bears_u58X3 rfl rfl rfl (b0 := cX0_bears) (m0 := 1) (r0 := some .int) (by decide +kernel) (by decide +kernel) ⟨Nat.le_of_ble_eq_true rfl, Nat.le_of_ble_eq_true rfl⟩⟩) hK hA hX hP hD hS hm rfl hl.1 (Nat.le_of_ble_eq_true rfl) dX8_replace_13 ⟨Nat.le_of_ble_eq_true rfl, Nat.le_of_ble_eq_true rfl⟩ hcont
    · exact x_brick (own := RX8) (rest := [.int v1, .ref (b 12)]) hx hb hml hown hts (okX6_bears_5 z l D T _ fg) (Or.inr ⟨_, _, va_cwO 0 hts gX8_replace_X6_bears_u58X5 rfl rfl rfl (b0 := cX0_bears) (m0 := 1) (r0 := some .int) (by decide +kernel) (by decide +kernel) ⟨Nat.le_of_ble_eq_true rfl, Nat.le_of_ble_eq_true rfl⟩⟩) hK hA hX hP hD hS hm rfl hl.1 (Nat.le_of_ble_eq_true rfl) dX8_replace_13 ⟨Nat.le_of_ble_eq_true rfl, Nat.le_of_ble_eq_true rfl⟩ hcont
    · exact x_brick (own := RX8) (rest := [.int v1, .ref (b 12)]) hx hb hml hown hts (okX9_bears_9 z l D T _ fg) (Or.inr ⟨_, _, va_cwO 0 hts gX8_replace_X9_bears_u58X9 rfl rfl rfl (b0 := cX0_bears) (m0 := 1) (r0 := some .int) (by decide +kernel) (by decide +kernel) ⟨Nat.le_of_ble_eq_true rfl, Nat.le_of_ble_eq_true rfl⟩⟩) hK hA hX hP hD hS hm rfl hl.1 (Nat.le_of_ble_eq_true rfl) dX8_replace_13 ⟨Nat.le_of_ble_eq_true rfl, Nat.le_of_ble_eq_true rfl⟩ hcont
  intro H locs hP hS
  obtain ⟨n_4, heq⟩ := inr_h heq
  refine va_iast (f := gA (xT xs_3 1) 1) (n := 12) hx hb hK hP hD hS 12 0 rfl rfl n_4 dX8_replace_16 (fun H locs hP hD hS => ?_)
  obtain ⟨xs_5, exs_5⟩ : ∃ z, z = uT xs_3 1 (sA (xT xs_3 1) 1 v1.toNatClampNeg (beB v2)) := ⟨_, rfl⟩
  have hP : va_P D vwCl (xW b T xa_2 (uT xs_3 1 (sA (xT xs_3 1) 1 v1.toNatClampNeg (beB v2)))) H := hP
  have hD : va_D A (xW b T xa_2 (uT xs_3 1 (sA (xT xs_3 1) 1 v1.toNatClampNeg (beB v2)))) := hD
  have hR : xRel b xa_2 (uT xs_3 1 (sA (xT xs_3 1) 1 v1.toNatClampNeg (beB v2))) := hR.uT _ _
  rw [← exs_5] at hP hD hR
  have heq := nm_h exs_5 heq
  refine lv_aload_n hx hb dX8_replace_17 rfl (lv_at hl 0 rfl) ?_
  refine va_get (D := D) (ci := 8) (v := .ref (b 13)) (C := RX8) (T := TX8) (N := 10) hx hb hts hin8 hown hK hP 10 rfl rfl 2 (by decide) f21 (fun _ h9 => h9) rfl dX8_replace_18 ?_
  refine lv_iload_n hx hb dX8_replace_21 rfl (lv_at hl 1 rfl) ?_
  refine lv_aload_n hx hb dX8_replace_22 rfl (lv_at hl 2 rfl) ?_
  suffices hcont : ∀ (H : Heap) (locs : List Loc), va_P D vwCl (xW b T xa_2 xs_5) H → va_S A s.heap H locs → W p l e rmX8_replace_1 s m args below meth c H locs 0 0 Q (F0 m 26 ls [.int (buB v2), .int v1, .ref (b 13)]) by
    have hm := xMem b T xs_5 (hsxa_2.1 _ v2h)
    have h8 := hR.2.2.2.2 _ (hsxa_2.1 _ v2h)
    obtain ⟨kk, ekk⟩ : ∃ z, z = v2 := ⟨_, rfl⟩
    rw [← ekk] at hm h8 hcont
    obtain ⟨kd, fg⟩ := kk
    rcases (show kd = 0 ∨ kd = 1 ∨ kd = 2 ∨ kd = 3 ∨ kd = 4 ∨ kd = 5 ∨ kd = 6 ∨ kd = 7 from by have := h8; simp only at this; omega) with rfl | rfl | rfl | rfl | rfl | rfl | rfl | rfl
    · exact x_brick (own := RX8) (rest := [.int v1, .ref (b 13)]) hx hb hml hown hts (okX0_burns_0 z l D T _ fg) (Or.inl (cwV 0 hts gX8_replace_X0_burns rfl rfl rfl hdX0_burns ⟨Nat.le_of_ble_eq_true rfl, Nat.le_of_ble_eq_true rfl⟩)) hK hA hX hP hD hS hm rfl hl.1 (Nat.le_of_ble_eq_true rfl) dX8_replace_23 ⟨Nat.le_of_ble_eq_true rfl, Nat.le_of_ble_eq_true rfl⟩ hcont
    · exact x_brick (own := RX8) (rest := [.int v1, .ref (b 13)]) hx hb hml hown hts (okX0_burns_2 z l D T _ fg) (Or.inr ⟨_, _, va_cwU 0 hts gX8_replace_X0_burns_u61X2 rfl rfl rfl rfl (by decide +kernel) ⟨Nat.le_of_ble_eq_true rfl, Nat.le_of_ble_eq_true rfl⟩⟩) hK hA hX hP hD hS hm rfl hl.1 (Nat.le_of_ble_eq_true rfl) dX8_replace_23 ⟨Nat.le_of_ble_eq_true rfl, Nat.le_of_ble_eq_true rfl⟩ hcont
    · exact x_brick (own := RX8) (rest := [.int v1, .ref (b 13)]) hx hb hml hown hts (okX6_burns_6 z l D T _ fg) (Or.inr ⟨_, _, va_cwO 0 hts gX8_replace_X6_burns_u61X6 rfl rfl rfl (b0 := cX0_burns) (m0 := 1) (r0 := some .int) (by decide +kernel) (by decide +kernel) ⟨Nat.le_of_ble_eq_true rfl, Nat.le_of_ble_eq_true rfl⟩⟩) hK hA hX hP hD hS hm rfl hl.1 (Nat.le_of_ble_eq_true rfl) dX8_replace_23 ⟨Nat.le_of_ble_eq_true rfl, Nat.le_of_ble_eq_true rfl⟩ hcont
    · exact x_brick (own := RX8) (rest := [.int v1, .ref (b 13)]) hx hb hml hown hts (okX4_burns_4 z l D T _ fg) (Or.inr ⟨_, _, va_cwO 0 hts gX8_replace_X4_burns_u61X4 rfl rfl rfl (b0 := cX0_burns) (m0 := 1) (r0 := some .int) (by decide +kernel) (by decide +kernel) ⟨Nat.le_of_ble_eq_true rfl, Nat.le_of_ble_eq_true rfl⟩⟩) hK hA hX hP hD hS hm rfl hl.1 (Nat.le_of_ble_eq_true rfl) dX8_replace_23 ⟨Nat.le_of_ble_eq_true rfl, Nat.le_of_ble_eq_true rfl⟩ hcont
    · exact x_brick (own := RX8) (rest := [.int v1, .ref (b 13)]) hx hb hml hown hts (okX0_burns_1 z l D T _ fg) (Or.inr ⟨_, _, va_cwU 0 hts gX8_replace_X0_burns_u61X1 rfl rfl rfl rfl (by decide +kernel) ⟨Nat.le_of_ble_eq_true rfl, Nat.le_of_ble_eq_true rfl⟩⟩) hK hA hX hP hD hS hm rfl hl.1 (Nat.le_of_ble_eq_true rfl) dX8_replace_23 ⟨Nat.le_of_ble_eq_true rfl, Nat.le_of_ble_eq_true rfl⟩ hcont
    · exact x_brick (own := RX8) (rest := [.int v1, .ref (b 13)]) hx hb hml hown hts (okX0_burns_3 z l D T _ fg) (Or.inr ⟨_, _, va_cwU 0 hts gX8_replace_X0_burns_u61X3 rfl rfl rfl rfl (by decide +kernel) ⟨Nat.le_of_ble_eq_true rfl, Nat.le_of_ble_eq_true rfl⟩⟩) hK hA hX hP hD hS hm rfl hl.1 (Nat.le_of_ble_eq_true rfl) dX8_replace_23 ⟨Nat.le_of_ble_eq_true rfl, Nat.le_of_ble_eq_true rfl⟩ hcont
    · exact x_brick (own := RX8) (rest := [.int v1, .ref (b 13)]) hx hb hml hown hts (okX5_burns_5 z l D T _ fg) (Or.inr ⟨_, _, va_cwO 0 hts gX8_replace_X5_burns_u61X5 rfl rfl rfl (b0 := cX0_burns) (m0 := 1) (r0 := some .int) (by decide +kernel) (by decide +kernel) ⟨Nat.le_of_ble_eq_true rfl, Nat.le_of_ble_eq_true rfl⟩⟩) hK hA hX hP hD hS hm rfl hl.1 (Nat.le_of_ble_eq_true rfl) dX8_replace_23 ⟨Nat.le_of_ble_eq_true rfl, Nat.le_of_ble_eq_true rfl⟩ hcont
    · exact x_brick (own := RX8) (rest := [.int v1, .ref (b 13)]) hx hb hml hown hts (okX0_burns_9 z l D T _ fg) (Or.inr ⟨_, _, va_cwU 0 hts gX8_replace_X0_burns_u61X9 rfl rfl rfl rfl (by decide +kernel) ⟨Nat.le_of_ble_eq_true rfl, Nat.le_of_ble_eq_true rfl⟩⟩) hK hA hX hP hD hS hm rfl hl.1 (Nat.le_of_ble_eq_true rfl) dX8_replace_23 ⟨Nat.le_of_ble_eq_true rfl, Nat.le_of_ble_eq_true rfl⟩ hcont
  intro H locs hP hS
  obtain ⟨n_6, heq⟩ := inr_h heq
  refine va_iast (f := gA (xT xs_5 1) 2) (n := 12) hx hb hK hP hD hS 13 0 rfl rfl n_6 dX8_replace_26 (fun H locs hP hD hS => ?_)
  obtain ⟨xs_7, exs_7⟩ : ∃ z, z = uT xs_5 1 (sA (xT xs_5 1) 2 v1.toNatClampNeg (buB v2)) := ⟨_, rfl⟩
  have hP : va_P D vwCl (xW b T xa_2 (uT xs_5 1 (sA (xT xs_5 1) 2 v1.toNatClampNeg (buB v2)))) H := hP
  have hD : va_D A (xW b T xa_2 (uT xs_5 1 (sA (xT xs_5 1) 2 v1.toNatClampNeg (buB v2)))) := hD
  have hR : xRel b xa_2 (uT xs_5 1 (sA (xT xs_5 1) 2 v1.toNatClampNeg (buB v2))) := hR.uT _ _
  rw [← exs_7] at hP hD hR
  have heq := nm_h exs_7 heq
  obtain ⟨-, heq2⟩ := ret_h heq
  subst heq2
  exact hret 27 H locs ls xa_2 hR hU hP hD hS dX8_replace_27
set_option maxRecDepth 20000 in
theorem ggX8_renew_X0_init : GoodIn wsX8_renew wsX0_init := goodIn_r _ [9, 10, 11, 12, 13, 92, 103, 104, 105, 106, 107, 108, 109] (by decide +kernel) (by decide +kernel)
set_option maxRecDepth 20000 in
theorem gX8_renew_X0_init : GoodIn wsX8_renew (wsX0_init) := ggX8_renew_X0_init
set_option maxRecDepth 20000 in
theorem ggX8_renew_X8_replace : GoodIn wsX8_renew wsX8_replace := goodIn_r _ [18, 19, 20, 21, 22, 23, 24, 3, 25, 26, 27, 28, 29, 30, 31, 32, 33, 34, 35, 36, 37, 38, 39, 40, 41, 42, 43, 44, 45, 46, 47, 48, 49, 50, 51, 52, 53, 54, 55, 56, 57, 58, 59, 60, 61, 62, 63, 64, 65, 66, 67, 68, 69, 70, 71, 72, 73, 74, 75, 76, 77, 78, 79, 80, 81, 82, 83, 84, 85, 86, 87, 88, 89, 90, 91, 93, 94, 95, 96, 97, 98, 99, 100, 101, 102, 92, 103, 104, 105, 106, 107, 108, 109] (by decide +kernel) (by decide +kernel)
set_option maxRecDepth 20000 in
theorem gX8_renew_X8_replace : GoodIn wsX8_renew (wsV RX8 71 RX8 yX8_replace wsX8_replace) := goodIn_app (goodIn_of _ (by decide +kernel)) ggX8_renew_X8_replace
theorem dX8_renew_0 : decode cX8_renew 0 = .ok (.new 9, 3) := by decide +kernel
theorem dX8_renew_3 : decode cX8_renew 3 = .ok (.dup, 1) := by decide +kernel
theorem dX8_renew_4 : decode cX8_renew 4 = .ok (.iconst 0, 1) := by decide +kernel
theorem dX8_renew_5 : decode cX8_renew 5 = .ok (.invokespecial 33, 3) := by decide +kernel
theorem dX8_renew_8 : decode cX8_renew 8 = .ok (.astore_n 1, 1) := by decide +kernel
theorem dX8_renew_9 : decode cX8_renew 9 = .ok (.iconst 0, 1) := by decide +kernel
theorem dX8_renew_10 : decode cX8_renew 10 = .ok (.istore_n 2, 1) := by decide +kernel
theorem dX8_renew_11 : decode cX8_renew 11 = .ok (.iload_n 2, 1) := by decide +kernel
theorem dX8_renew_12 : decode cX8_renew 12 = .ok (.bipush 12, 2) := by decide +kernel
theorem dX8_renew_14 : decode cX8_renew 14 = .ok (.if_icmp .ge 15, 3) := by decide +kernel
theorem dX8_renew_17 : decode cX8_renew 17 = .ok (.aload_n 0, 1) := by decide +kernel
theorem dX8_renew_18 : decode cX8_renew 18 = .ok (.iload_n 2, 1) := by decide +kernel
theorem dX8_renew_19 : decode cX8_renew 19 = .ok (.aload_n 1, 1) := by decide +kernel
theorem dX8_renew_20 : decode cX8_renew 20 = .ok (.invokevirtual 71, 3) := by decide +kernel
theorem dX8_renew_23 : decode cX8_renew 23 = .ok (.iinc 2 1, 3) := by decide +kernel
theorem dX8_renew_26 : decode cX8_renew 26 = .ok (.goto (-15), 3) := by decide +kernel
theorem dX8_renew_29 : decode cX8_renew 29 = .ok (.aload_n 0, 1) := by decide +kernel
theorem dX8_renew_30 : decode cX8_renew 30 = .ok (.iconst 0, 1) := by decide +kernel
theorem dX8_renew_31 : decode cX8_renew 31 = .ok (.putfield 43, 3) := by decide +kernel
theorem dX8_renew_34 : decode cX8_renew 34 = .ok (.aload_n 0, 1) := by decide +kernel
theorem dX8_renew_35 : decode cX8_renew 35 = .ok (.iconst 0, 1) := by decide +kernel
theorem dX8_renew_36 : decode cX8_renew 36 = .ok (.putfield 47, 3) := by decide +kernel
theorem dX8_renew_39 : decode cX8_renew 39 = .ok (.aload_n 0, 1) := by decide +kernel
theorem dX8_renew_40 : decode cX8_renew 40 = .ok (.bipush (-4), 2) := by decide +kernel
theorem dX8_renew_42 : decode cX8_renew 42 = .ok (.putfield 36, 3) := by decide +kernel
theorem dX8_renew_45 : decode cX8_renew 45 = .ok (.return_, 1) := by decide +kernel
/-! X8 renew_0 -/
def X8_renew_0_p29 (xs : XS) : Option (Unit × XS) :=
    gz (0 : Int32) <|
    nm (uT xs 0 (sF (xT xs 0) 7 (0 : Int32))) fun xs_2 =>
    nm (uT xs_2 0 (sF (xT xs_2 0) 8 (0 : Int32))) fun xs_3 =>
    nm (uT xs_3 0 (sF (xT xs_3 0) 9 (-4 : Int32))) fun xs_4 =>
    some ((), xs_4)
def X8_renew_0_p11 : Nat → XS → BK → Int32 → Option (Unit × XS)
  | 0, _, _, _ => none
  | n + 1, xs, v1, v2 =>
    if (12 : Int32) ≤ v2 then
      (X8_renew_0_p29 xs)
    else
    bnd (X8_replace_0 xs v2 v1) fun _ xs_6 =>
    nm (v2 + (1 : Int32)) fun x_10 =>
    X8_renew_0_p11 n xs_6 v1 x_10
theorem X8_renew_0_p11_s (n : Nat) (xs : XS) (v1 : BK) (v2 : Int32) : X8_renew_0_p11 (n + 1) xs v1 v2 =
    (if (12 : Int32) ≤ v2 then
      (X8_renew_0_p29 xs)
    else
    bnd (X8_replace_0 xs v2 v1) fun _ xs_6 =>
    nm (v2 + (1 : Int32)) fun x_10 =>
    X8_renew_0_p11 n xs_6 v1 x_10) := rfl
def X8_renew_0 (xs : XS) : Option (Unit × XS) :=
    X8_renew_0_p11 13 xs ((0, (0 : Int32)) : BK) (0 : Int32)
abbrev rmX8_renew_0 : Room := { frames := 3, cells := 1, slots := 1, locals := 62 }
theorem hdX8_renew : yX8_renew.cls = RX8 ∧ yX8_renew.cls ≠ "java/lang/invoke/MethodHandle" ∧ yX8_renew.cls ≠ "java/lang/invoke/VarHandle" ∧ (parseMethodDescriptor yX8_renew.desc).map (fun d => d.parameters.length) = some 0 := by decide +kernel
set_option maxRecDepth 100000 in
set_option maxHeartbeats 8000000 in
theorem okX8_renew_0 (z : Nat → Nat) (l : Launch) (D : va_G) (T : mT3) (b : Nat → Nat) {xa : XA} {xs : XS} {xs' : XS} (hR : xRel b xa xs) (heq : X8_renew_0 xs = some ((), xs')) : hXv xSub z l D T b yX8_renew wsX8_renew rmX8_renew_0 [.ref (b 3)] xa xs xs' := by
  refine xbody_v (plainFor_of_name (by decide)) rfl (Nat.le_of_ble_eq_true rfl) (fun p e s m args below meth c A Q hx hb hml hown hts hK hA hX hret ls hP hD hS hl => ?_)
  have hl : lv_has ls 3 [(0, .ref (b 3))] := hl
  have hin0 : ∀ w ∈ wsX00, w ∈ wsX8_renew := by decide +kernel
  have hin8 : ∀ w ∈ wsX80, w ∈ wsX8_renew := by decide +kernel
  have f36 : (Cond.fieldLink RX8 36 RX8 (TX8 9).2.1 (TX8 9).2.2.1).before args s = true := hts (.fieldLink RX8 36 RX8 "fallenTo" "I") (by decide +kernel)
  have f43 : (Cond.fieldLink RX8 43 RX8 (TX8 7).2.1 (TX8 7).2.2.1).before args s = true := hts (.fieldLink RX8 43 RX8 "lit" "Z") (by decide +kernel)
  have f47 : (Cond.fieldLink RX8 47 RX8 (TX8 8).2.1 (TX8 8).2.2.1).before args s = true := hts (.fieldLink RX8 47 RX8 "minute" "I") (by decide +kernel)
  have hw0 := hts (.classLink RX8 9 RX0) (by decide +kernel)
  have hw1 := hts (.instantiable RX0 1) (by decide +kernel)
  have hw2 := hts (.initialized RX0) (by decide +kernel)
  have hw3 := hts (.methodLink RX8 33 yX0_init) (by decide +kernel)
  have hw4 := hts (.instanceMethod yX0_init) (by decide +kernel)
  obtain ⟨xa0, hxa0⟩ : ∃ z : XA, z = xa := ⟨_, rfl⟩
  rw [← hxa0] at hret
  have hU : xSub xa0 xa := by rw [hxa0]; exact xSub.rf
  clear hxa0
  have b29 : ∀ (xs : XS) (xa : XA) (H : Heap) (locs : List Loc) (ls : Array Slot), xRel b xa xs → xSub xa0 xa → va_P D vwCl (xW b T xa xs) H → va_D A (xW b T xa xs) → va_S A s.heap H locs → lv_has ls 3 [(0, .ref (b 3))] → X8_renew_0_p29 xs = some ((), xs') → W p l e rmX8_renew_0 s m args below meth c H locs 1 1 Q (F0 m 29 ls []) := by
    intro xs xa H locs ls hR hU hP hD hS hl heq
    unfold X8_renew_0_p29 at heq
    refine lv_aload_n hx hb dX8_renew_29 rfl (lv_at hl 0 rfl) ?_
    refine lv_iconst (v := (0 : Int32)) hx hb dX8_renew_30 (by decide) ?_
    obtain ⟨n_1, n_1f, heq⟩ := gz_h heq
    refine va_put (D := D) (ci := 8) (v := .int (0 : Int32)) (ty := .boolean) (C := RX8) (T := TX8) (N := 10) hx hb hts hin8 tyX8 tyX8_ok nmX8 hown hK hP hD hS 3 rfl rfl 7 (by decide) f43 (fun _ h9 => h9) rfl (by decide +kernel) n_1 n_1f (Nat.le_of_ble_eq_true rfl) dX8_renew_31 (fun H locs hP hD hS => ?_)
    obtain ⟨xs_2, exs_2⟩ : ∃ z, z = uT xs 0 (sF (xT xs 0) 7 (0 : Int32)) := ⟨_, rfl⟩
    have hP : va_P D vwCl (xW b T xa (uT xs 0 (sF (xT xs 0) 7 (0 : Int32)))) H := hP
    have hD : va_D A (xW b T xa (uT xs 0 (sF (xT xs 0) 7 (0 : Int32)))) := hD
    have hR : xRel b xa (uT xs 0 (sF (xT xs 0) 7 (0 : Int32))) := hR.uT _ _
    rw [← exs_2] at hP hD hR
    have heq := nm_h exs_2 heq
    refine lv_aload_n hx hb dX8_renew_34 rfl (lv_at hl 0 rfl) ?_
    refine lv_iconst (v := (0 : Int32)) hx hb dX8_renew_35 (by decide) ?_
    refine va_put (D := D) (ci := 8) (v := .int (0 : Int32)) (ty := .int) (C := RX8) (T := TX8) (N := 10) hx hb hts hin8 tyX8 tyX8_ok nmX8 hown hK hP hD hS 3 rfl rfl 8 (by decide) f47 (fun _ h9 => h9) rfl (by decide +kernel) rfl rfl (Nat.le_of_ble_eq_true rfl) dX8_renew_36 (fun H locs hP hD hS => ?_)
    obtain ⟨xs_3, exs_3⟩ : ∃ z, z = uT xs_2 0 (sF (xT xs_2 0) 8 (0 : Int32)) := ⟨_, rfl⟩
    have hP : va_P D vwCl (xW b T xa (uT xs_2 0 (sF (xT xs_2 0) 8 (0 : Int32)))) H := hP
    have hD : va_D A (xW b T xa (uT xs_2 0 (sF (xT xs_2 0) 8 (0 : Int32)))) := hD
    have hR : xRel b xa (uT xs_2 0 (sF (xT xs_2 0) 8 (0 : Int32))) := hR.uT _ _
    rw [← exs_3] at hP hD hR
    have heq := nm_h exs_3 heq
    refine lv_aload_n hx hb dX8_renew_39 rfl (lv_at hl 0 rfl) ?_
    refine lv_bipush (v := (-4 : Int32)) hx hb dX8_renew_40 (by decide) ?_
    refine va_put (D := D) (ci := 8) (v := .int (-4 : Int32)) (ty := .int) (C := RX8) (T := TX8) (N := 10) hx hb hts hin8 tyX8 tyX8_ok nmX8 hown hK hP hD hS 3 rfl rfl 9 (by decide) f36 (fun _ h9 => h9) rfl (by decide +kernel) rfl rfl (Nat.le_of_ble_eq_true rfl) dX8_renew_42 (fun H locs hP hD hS => ?_)
    obtain ⟨xs_4, exs_4⟩ : ∃ z, z = uT xs_3 0 (sF (xT xs_3 0) 9 (-4 : Int32)) := ⟨_, rfl⟩
    have hP : va_P D vwCl (xW b T xa (uT xs_3 0 (sF (xT xs_3 0) 9 (-4 : Int32)))) H := hP
    have hD : va_D A (xW b T xa (uT xs_3 0 (sF (xT xs_3 0) 9 (-4 : Int32)))) := hD
    have hR : xRel b xa (uT xs_3 0 (sF (xT xs_3 0) 9 (-4 : Int32))) := hR.uT _ _
    rw [← exs_4] at hP hD hR
    have heq := nm_h exs_4 heq
    obtain ⟨-, heq2⟩ := ret_h heq
    subst heq2
    refine W.widen (k := 1) (n := 1) (by first | decide | omega) (by first | decide | omega) ?_
    exact hret 45 H locs ls xa hR hU hP hD hS dX8_renew_45
  have b11 : ∀ (n : Nat), ∀ (xs : XS) (v1 : BK) (v2 : Int32) (xa : XA) (v1q : Nat) (v1h : (v1q, v1) ∈ xPl xa) (H : Heap) (locs : List Loc) (ls : Array Slot), xRel b xa xs → xSub xa0 xa → va_P D vwCl (xW b T xa xs) H → va_D A (xW b T xa xs) → va_S A s.heap H locs → lv_has ls 3 [(0, .ref (b 3)), (1, .ref v1q), (2, .int v2)] → X8_renew_0_p11 n xs v1 v2 = some ((), xs') → W p l e rmX8_renew_0 s m args below meth c H locs 1 1 Q (F0 m 11 ls []) := by
    intro n
    induction n with
    | zero => intro xs v1 v2 xa v1q v1h H locs ls hR hU hP hD hS hl heq; cases heq
    | succ n ih =>
      intro xs v1 v2 xa v1q v1h H locs ls hR hU hP hD hS hl heq
      rw [X8_renew_0_p11_s] at heq
      refine lv_iload_n hx hb dX8_renew_11 rfl (lv_at hl 2 rfl) ?_
      refine lv_bipush (v := (12 : Int32)) hx hb dX8_renew_12 (by decide) ?_
      refine lv_icmp_ge (tgt := 29) hx hb dX8_renew_14 (by decide) (fun c_5 => ?_) (fun c_5 => ?_)
      · have heq := it_t c_5 heq
        refine W.widen (k := 1) (n := 1) (by first | decide | omega) (by first | decide | omega) ?_
        exact b29 xs xa H locs ls hR hU hP hD hS (lv_sub hl [0] rfl) heq
      have heq := it_f c_5 heq
      refine lv_aload_n hx hb dX8_renew_17 rfl (lv_at hl 0 rfl) ?_
      refine lv_iload_n hx hb dX8_renew_18 rfl (lv_at hl 2 rfl) ?_
      refine lv_aload_n hx hb dX8_renew_19 rfl (lv_at hl 1 rfl) ?_
      obtain ⟨⟨⟩, xs_6, h_7, heq⟩ := bnd_h heq
      refine x_vv (own := RX8) (As := [.int v2, .ref v1q]) (rest := []) hx hb hml hown hts (okX8_replace_0 z l D T b hR v1h h_7) (cwV 2 hts gX8_renew_X8_replace rfl rfl rfl hdX8_replace ⟨Nat.le_of_ble_eq_true rfl, Nat.le_of_ble_eq_true rfl⟩) hK hA hX hP hD hS (ci := 8) (q0 := 3) rfl rfl rfl hl.1 rfl (Nat.le_of_ble_eq_true rfl) dX8_renew_20 ⟨by show 1 + 0 ≤ 1; omega, by show 1 + 0 ≤ 1; omega⟩ (fun xa_8 H locs hR hsxa_8 hP hD hS => ?_)
      refine W.widen (k := 1) (n := 1) (Nat.le_refl _) (Nat.le_refl _) ?_
      have hU := xSub.tr hU hsxa_8
      obtain ⟨x_10, ex_10⟩ : ∃ y : Int32, y = v2 + (1 : Int32) := ⟨_, rfl⟩
      have heq := nm_h ex_10 heq
      refine lv_iinc (v := x_10) (lv' := [(2, .int x_10), (0, .ref (b 3)), (1, .ref v1q)]) hx hb dX8_renew_23 hl (k := 2) rfl (by rw [ex_10]; rfl) (by decide) rfl (fun ls hl => ?_)
      refine lv_goto (tgt := 11) hx hb dX8_renew_26 (by decide) ?_
      refine W.widen (k := 1) (n := 1) (by first | decide | omega) (by first | decide | omega) ?_
      exact ih xs_6 v1 x_10 xa_8 v1q (hsxa_8.1 _ v1h) H locs ls hR hU hP hD hS (lv_sub hl [1, 2, 0] rfl) heq
  obtain ⟨H, hH⟩ : ∃ H, H = s.heap := ⟨_, rfl⟩
  obtain ⟨locs, hlocs⟩ : ∃ z : List Loc, z = [] := ⟨_, rfl⟩
  have hS : va_S A s.heap H locs := by rw [hH, hlocs]; exact hS
  have hP : va_P D vwCl (xW b T xa xs) H := by rw [hH]; exact hP
  suffices h9 : W p l e rmX8_renew_0 s m args below meth c H locs 0 0 Q (F0 m 0 ls []) by rw [hH, hlocs] at h9; exact h9
  clear hH hlocs
  unfold X8_renew_0 at heq
  refine va_new (ci := 0) (fs := [.int 0]) (C := RX0) (T := TX0) (N := 1) hx hb hts hin0 tyX0 tyX0_ok hown hw0 hw1 hw2 hK hP hD hS hA rfl (fun j hj => by rcases (show j = 0 by omega) with rfl <;> rfl) (by show 0 + 1 ≤ 1; omega) (by show 0 + 1 ≤ 1; omega) dX8_renew_0 (fun q_11 H hP hD hS => ?_)
  refine lv_dup hx hb dX8_renew_3 rfl ?_
  refine lv_iconst (v := (0 : Int32)) hx hb dX8_renew_4 (by decide) ?_
  refine x_init (own := RX8) (k := 0) (rest := [.ref q_11]) hx hb hml hown hts (okX0_init_0 z l D T q_11 0 (0 : Int32)) (cwI 1 hts gX8_renew_X0_init rfl rfl rfl hw2 hw3 hw4 rfl (by decide +kernel) ⟨Nat.le_of_ble_eq_true rfl, Nat.le_of_ble_eq_true rfl⟩) hK hA hX hP hD hS hl.1 (Nat.le_of_ble_eq_true rfl) dX8_renew_5 ⟨by show (0 + 1) + 0 ≤ 1; omega, by show (0 + 1) + 0 ≤ 1; omega⟩ (fun H locs hP hD hS => ?_)
  refine W.widen (k := (0 + 1)) (n := (0 + 1)) (Nat.le_refl _) (Nat.le_refl _) ?_
  obtain ⟨xa_12, exa_12⟩ : ∃ z, z = xGrow xa q_11 ((0, (0 : Int32)) : BK) := ⟨_, rfl⟩
  have hR : xRel b (xGrow xa q_11 ((0, (0 : Int32)) : BK)) xs := hR.grow (Nat.le_of_ble_eq_true rfl)
  have hm_13 : (q_11, ((0, (0 : Int32)) : BK)) ∈ xPl (xGrow xa q_11 ((0, (0 : Int32)) : BK)) := xGrow.mem
  have hsxa_12 : xSub xa xa_12 := by rw [exa_12]; exact xSub.grow
  rw [← exa_12] at hP hD hR hm_13
  have hU := xSub.tr hU hsxa_12
  refine lv_astore_n (lv' := [(1, .ref q_11), (0, .ref (b 3))]) hx hb dX8_renew_8 rfl hl (by decide) rfl (fun ls hl => ?_)
  refine lv_iconst (v := (0 : Int32)) hx hb dX8_renew_9 (by decide) ?_
  refine lv_istore_n (lv' := [(2, .int (0 : Int32)), (1, .ref q_11), (0, .ref (b 3))]) hx hb dX8_renew_10 rfl hl (by decide) rfl (fun ls hl => ?_)
  refine W.widen (k := 1) (n := 1) (by first | decide | omega) (by first | decide | omega) ?_
  exact b11 13 xs ((0, (0 : Int32)) : BK) (0 : Int32) xa_12 q_11 hm_13 H locs ls hR hU hP hD hS (lv_sub hl [2, 1, 0] rfl) heq
set_option maxRecDepth 20000 in
theorem ggX10_rowOn_X10_isShelf : GoodIn wsX10_rowOn wsX10_isShelf := goodIn_r _ [5] (by decide +kernel) (by decide +kernel)
set_option maxRecDepth 20000 in
theorem gX10_rowOn_X10_isShelf : GoodIn wsX10_rowOn (va_wsS RX10 268 yX10_isShelf wsX10_isShelf) := goodIn_app (goodIn_of _ (by decide +kernel)) ggX10_rowOn_X10_isShelf
theorem dX10_rowOn_0 : decode cX10_rowOn 0 = .ok (.iload_n 1, 1) := by decide +kernel
theorem dX10_rowOn_1 : decode cX10_rowOn 1 = .ok (.invokestatic 268, 3) := by decide +kernel
theorem dX10_rowOn_4 : decode cX10_rowOn 4 = .ok (.ifCond .eq 12, 3) := by decide +kernel
theorem dX10_rowOn_7 : decode cX10_rowOn 7 = .ok (.aload_n 0, 1) := by decide +kernel
theorem dX10_rowOn_8 : decode cX10_rowOn 8 = .ok (.getfield 39, 3) := by decide +kernel
theorem dX10_rowOn_11 : decode cX10_rowOn 11 = .ok (.iload_n 1, 1) := by decide +kernel
theorem dX10_rowOn_12 : decode cX10_rowOn 12 = .ok (.aaload, 1) := by decide +kernel
theorem dX10_rowOn_13 : decode cX10_rowOn 13 = .ok (.goto 4, 3) := by decide +kernel
theorem dX10_rowOn_16 : decode cX10_rowOn 16 = .ok (.aconst_null, 1) := by decide +kernel
theorem dX10_rowOn_17 : decode cX10_rowOn 17 = .ok (.areturn, 1) := by decide +kernel
/-! X10 rowOn -/
def X10_rowOn_p17 (xs : XS) (t0 : Option Nat) : Option ((Option Nat) × XS) :=
    some (t0, xs)
def X10_rowOn (xs : XS) (v1 : Int32) : Option ((Option Nat) × XS) :=
    bd1 (X10_isShelf v1) fun y_1 =>
    if y_1 = 0 then
      (X10_rowOn_p17 xs none)
    else
    inr v1 8 <|
    X10_rowOn_p17 xs (oR xs v1.toNatClampNeg)
abbrev rmX10_rowOn : Room := { frames := 1, cells := 0, slots := 0, locals := 20 }
theorem hdX10_rowOn : yX10_rowOn.cls = RX10 ∧ yX10_rowOn.cls ≠ "java/lang/invoke/MethodHandle" ∧ yX10_rowOn.cls ≠ "java/lang/invoke/VarHandle" ∧ (parseMethodDescriptor yX10_rowOn.desc).map (fun d => d.parameters.length) = some 1 := by decide +kernel
set_option maxRecDepth 100000 in
set_option maxHeartbeats 8000000 in
theorem okX10_rowOn (z : Nat → Nat) (l : Launch) (D : va_G) (T : mT3) (b : Nat → Nat) {xa : XA} {xs : XS} {v1 : Int32} {r : Option Nat} {xs' : XS} (hR : xRel b xa xs) (heq : X10_rowOn xs v1 = some (r, xs')) : hXr xSub z l D T b yX10_rowOn wsX10_rowOn rmX10_rowOn [.ref (b 0), .int v1] xa xs r xs' := by
  refine xbody_r (plainFor_of_name (by decide)) rfl (Nat.le_of_ble_eq_true rfl) (fun p e s m args below meth c A Q hx hb hml hown hts hK hA hX hret ls hP hD hS hl => ?_)
  have hl : lv_has ls 2 [(0, .ref (b 0)), (1, .int v1)] := hl
  have hin10 : ∀ w ∈ wsX100, w ∈ wsX10_rowOn := by decide +kernel
  have f39 : (Cond.fieldLink RX10 39 RX10 (TX10 6).2.1 (TX10 6).2.2.1).before args s = true := hts (.fieldLink RX10 39 RX10 "rows" "[LLaidDownTheLane$Row;") (by decide +kernel)
  obtain ⟨xa0, hxa0⟩ : ∃ z : XA, z = xa := ⟨_, rfl⟩
  rw [← hxa0] at hret
  have hU : xSub xa0 xa := by rw [hxa0]; exact xSub.rf
  clear hxa0
  have b17 : ∀ (xs : XS) (t0 : Option Nat) (xa : XA) (t0q : Option Nat) (t0h : onR xa t0 t0q) (H : Heap) (locs : List Loc) (ls : Array Slot), xRel b xa xs → xSub xa0 xa → va_P D vwCl (xW b T xa xs) H → va_D A (xW b T xa xs) → va_S A s.heap H locs → lv_has ls 2 [] → X10_rowOn_p17 xs t0 = some (r, xs') → W p l e rmX10_rowOn s m args below meth c H locs 0 0 Q (F0 m 17 ls [va_rf t0q]) := by
    intro xs t0 xa t0q t0h H locs ls hR hU hP hD hS hl heq
    unfold X10_rowOn_p17 at heq
    obtain ⟨heq, heq2⟩ := ret_h heq
    subst heq
    subst heq2
    exact hret 17 H locs ls xa t0q hR hU hP hD hS t0h dX10_rowOn_17
  obtain ⟨H, hH⟩ : ∃ H, H = s.heap := ⟨_, rfl⟩
  obtain ⟨locs, hlocs⟩ : ∃ z : List Loc, z = [] := ⟨_, rfl⟩
  have hS : va_S A s.heap H locs := by rw [hH, hlocs]; exact hS
  have hP : va_P D vwCl (xW b T xa xs) H := by rw [hH]; exact hP
  suffices h9 : W p l e rmX10_rowOn s m args below meth c H locs 0 0 Q (F0 m 0 ls []) by rw [hH, hlocs] at h9; exact h9
  clear hH hlocs
  unfold X10_rowOn at heq
  refine lv_iload_n hx hb dX10_rowOn_0 rfl (lv_at hl 1 rfl) ?_
  obtain ⟨y_1, h_2, heq⟩ := bd1_h heq
  refine h_si (own := RX10) (As := [.int v1]) (rest := []) (w0 := []) (w1 := []) (wr := xW b T xa xs) hx hb hml hown hts (okX10_isShelf z l D h_2) (va_cwS 1 hts gX10_rowOn_X10_isShelf rfl rfl rfl (hdX10_isShelf).2 ⟨Nat.le_of_ble_eq_true rfl, Nat.le_of_ble_eq_true rfl⟩) (hK.sub [] rfl) hA hX hP hD hS (List.Perm.refl _) (List.Perm.refl _) rfl hl.1 rfl (Nat.le_of_ble_eq_true rfl) dX10_rowOn_1 ⟨Nat.le_of_ble_eq_true rfl, Nat.le_of_ble_eq_true rfl⟩ (fun H locs hP hD hS => ?_)
  refine lv_if_eq (tgt := 16) hx hb dX10_rowOn_4 (by decide) (fun c_3 => ?_) (fun c_3 => ?_)
  · have heq := it_t c_3 heq
    refine lv_null hx hb dX10_rowOn_16 ?_
    exact b17 xs none xa none rfl H locs ls hR hU hP hD hS (lv_sub hl [] rfl) heq
  have heq := it_f c_3 heq
  refine lv_aload_n hx hb dX10_rowOn_7 rfl (lv_at hl 0 rfl) ?_
  refine va_get (D := D) (ci := 10) (v := .ref (b 2)) (C := RX10) (T := TX10) (N := 7) hx hb hts hin10 hown hK hP 0 rfl rfl 6 (by decide) f39 (fun _ h9 => h9) rfl dX10_rowOn_8 ?_
  refine lv_iload_n hx hb dX10_rowOn_11 rfl (lv_at hl 1 rfl) ?_
  obtain ⟨n_4, heq⟩ := inr_h heq
  have hb_5 := onR_of hR (in_lt n_4)
  refine va_aldq (C := RX7) (n := 8) (f := xRo xa) hx hb hK hP 2 2 rfl rfl n_4 dX10_rowOn_12 ?_
  refine lv_goto (tgt := 17) hx hb dX10_rowOn_13 (by decide) ?_
  exact b17 xs (oR xs v1.toNatClampNeg) xa (xRo xa v1.toNatClampNeg) hb_5 H locs ls hR hU hP hD hS (lv_sub hl [] rfl) heq
set_option maxRecDepth 20000 in
theorem ggX10_isBare_X10_isShelf : GoodIn wsX10_isBare wsX10_isShelf := goodIn_r _ [6] (by decide +kernel) (by decide +kernel)
set_option maxRecDepth 20000 in
theorem gX10_isBare_X10_isShelf : GoodIn wsX10_isBare (va_wsS RX10 268 yX10_isShelf wsX10_isShelf) := goodIn_app (goodIn_of _ (by decide +kernel)) ggX10_isBare_X10_isShelf
theorem dX10_isBare_0 : decode cX10_isBare 0 = .ok (.iload_n 1, 1) := by decide +kernel
theorem dX10_isBare_1 : decode cX10_isBare 1 = .ok (.invokestatic 268, 3) := by decide +kernel
theorem dX10_isBare_4 : decode cX10_isBare 4 = .ok (.ifCond .eq 25, 3) := by decide +kernel
theorem dX10_isBare_7 : decode cX10_isBare 7 = .ok (.aload_n 0, 1) := by decide +kernel
theorem dX10_isBare_8 : decode cX10_isBare 8 = .ok (.getfield 33, 3) := by decide +kernel
theorem dX10_isBare_11 : decode cX10_isBare 11 = .ok (.iload_n 1, 1) := by decide +kernel
theorem dX10_isBare_12 : decode cX10_isBare 12 = .ok (.aaload, 1) := by decide +kernel
theorem dX10_isBare_13 : decode cX10_isBare 13 = .ok (.ifnonnull 16, 3) := by decide +kernel
theorem dX10_isBare_16 : decode cX10_isBare 16 = .ok (.aload_n 0, 1) := by decide +kernel
theorem dX10_isBare_17 : decode cX10_isBare 17 = .ok (.getfield 39, 3) := by decide +kernel
theorem dX10_isBare_20 : decode cX10_isBare 20 = .ok (.iload_n 1, 1) := by decide +kernel
theorem dX10_isBare_21 : decode cX10_isBare 21 = .ok (.aaload, 1) := by decide +kernel
theorem dX10_isBare_22 : decode cX10_isBare 22 = .ok (.ifnonnull 7, 3) := by decide +kernel
theorem dX10_isBare_25 : decode cX10_isBare 25 = .ok (.iconst 1, 1) := by decide +kernel
theorem dX10_isBare_26 : decode cX10_isBare 26 = .ok (.goto 4, 3) := by decide +kernel
theorem dX10_isBare_29 : decode cX10_isBare 29 = .ok (.iconst 0, 1) := by decide +kernel
theorem dX10_isBare_30 : decode cX10_isBare 30 = .ok (.ireturn, 1) := by decide +kernel
/-! X10 isBare -/
def X10_isBare_p30 (xs : XS) (t0 : Int32) : Option (Int32 × XS) :=
    gz t0 <|
    some (t0, xs)
def X10_isBare (xs : XS) (v1 : Int32) : Option (Int32 × XS) :=
    bd1 (X10_isShelf v1) fun y_2 =>
    if y_2 = 0 then
      (X10_isBare_p30 xs (0 : Int32))
    else
    inr v1 8 <|
    ob (xK xs v1.toNatClampNeg)
      (inr v1 8 <|
      ob (oR xs v1.toNatClampNeg)
        (X10_isBare_p30 xs (1 : Int32))
      fun k_13 =>
      X10_isBare_p30 xs (0 : Int32))
    fun k_7 =>
    X10_isBare_p30 xs (0 : Int32)
abbrev rmX10_isBare : Room := { frames := 1, cells := 0, slots := 0, locals := 20 }
theorem hdX10_isBare : yX10_isBare.cls = RX10 ∧ yX10_isBare.cls ≠ "java/lang/invoke/MethodHandle" ∧ yX10_isBare.cls ≠ "java/lang/invoke/VarHandle" ∧ (parseMethodDescriptor yX10_isBare.desc).map (fun d => d.parameters.length) = some 1 := by decide +kernel
set_option maxRecDepth 100000 in
set_option maxHeartbeats 8000000 in
theorem okX10_isBare (z : Nat → Nat) (l : Launch) (D : va_G) (T : mT3) (b : Nat → Nat) {xa : XA} {xs : XS} {v1 : Int32} {r : Int32} {xs' : XS} (hR : xRel b xa xs) (heq : X10_isBare xs v1 = some (r, xs')) : hXi xSub z l D T b yX10_isBare wsX10_isBare rmX10_isBare [.ref (b 0), .int v1] xa xs r xs' := by
  refine xbody_i (plainFor_of_name (by decide)) rfl (Nat.le_of_ble_eq_true rfl) (fun p e s m args below meth c A Q hx hb hml hown hts hK hA hX hret ls hP hD hS hl => ?_)
  have hl : lv_has ls 2 [(0, .ref (b 0)), (1, .int v1)] := hl
  have hin10 : ∀ w ∈ wsX100, w ∈ wsX10_isBare := by decide +kernel
  have f33 : (Cond.fieldLink RX10 33 RX10 (TX10 5).2.1 (TX10 5).2.2.1).before args s = true := hts (.fieldLink RX10 33 RX10 "kinds" "[LLaidDownTheLane$Brick;") (by decide +kernel)
  have f39 : (Cond.fieldLink RX10 39 RX10 (TX10 6).2.1 (TX10 6).2.2.1).before args s = true := hts (.fieldLink RX10 39 RX10 "rows" "[LLaidDownTheLane$Row;") (by decide +kernel)
  obtain ⟨xa0, hxa0⟩ : ∃ z : XA, z = xa := ⟨_, rfl⟩
  rw [← hxa0] at hret
  have hU : xSub xa0 xa := by rw [hxa0]; exact xSub.rf
  clear hxa0
  have b30 : ∀ (xs : XS) (t0 : Int32) (xa : XA) (H : Heap) (locs : List Loc) (ls : Array Slot), xRel b xa xs → xSub xa0 xa → va_P D vwCl (xW b T xa xs) H → va_D A (xW b T xa xs) → va_S A s.heap H locs → lv_has ls 2 [] → X10_isBare_p30 xs t0 = some (r, xs') → W p l e rmX10_isBare s m args below meth c H locs 0 0 Q (F0 m 30 ls [.int t0]) := by
    intro xs t0 xa H locs ls hR hU hP hD hS hl heq
    unfold X10_isBare_p30 at heq
    obtain ⟨n_1, _, heq⟩ := gz_h heq
    obtain ⟨heq, heq2⟩ := ret_h heq
    subst heq
    subst heq2
    exact hret 30 H locs ls xa hR hU hP hD hS n_1 dX10_isBare_30
  obtain ⟨H, hH⟩ : ∃ H, H = s.heap := ⟨_, rfl⟩
  obtain ⟨locs, hlocs⟩ : ∃ z : List Loc, z = [] := ⟨_, rfl⟩
  have hS : va_S A s.heap H locs := by rw [hH, hlocs]; exact hS
  have hP : va_P D vwCl (xW b T xa xs) H := by rw [hH]; exact hP
  suffices h9 : W p l e rmX10_isBare s m args below meth c H locs 0 0 Q (F0 m 0 ls []) by rw [hH, hlocs] at h9; exact h9
  clear hH hlocs
  unfold X10_isBare at heq
  refine lv_iload_n hx hb dX10_isBare_0 rfl (lv_at hl 1 rfl) ?_
  obtain ⟨y_2, h_3, heq⟩ := bd1_h heq
  refine h_si (own := RX10) (As := [.int v1]) (rest := []) (w0 := []) (w1 := []) (wr := xW b T xa xs) hx hb hml hown hts (okX10_isShelf z l D h_3) (va_cwS 1 hts gX10_isBare_X10_isShelf rfl rfl rfl (hdX10_isShelf).2 ⟨Nat.le_of_ble_eq_true rfl, Nat.le_of_ble_eq_true rfl⟩) (hK.sub [] rfl) hA hX hP hD hS (List.Perm.refl _) (List.Perm.refl _) rfl hl.1 rfl (Nat.le_of_ble_eq_true rfl) dX10_isBare_1 ⟨Nat.le_of_ble_eq_true rfl, Nat.le_of_ble_eq_true rfl⟩ (fun H locs hP hD hS => ?_)
  refine lv_if_eq (tgt := 29) hx hb dX10_isBare_4 (by decide) (fun c_4 => ?_) (fun c_4 => ?_)
  · have heq := it_t c_4 heq
    refine lv_iconst (v := (0 : Int32)) hx hb dX10_isBare_29 (by decide) ?_
    exact b30 xs (0 : Int32) xa H locs ls hR hU hP hD hS (lv_sub hl [] rfl) heq
  have heq := it_f c_4 heq
  refine lv_aload_n hx hb dX10_isBare_7 rfl (lv_at hl 0 rfl) ?_
  refine va_get (D := D) (ci := 10) (v := .ref (b 1)) (C := RX10) (T := TX10) (N := 7) hx hb hts hin10 hown hK hP 0 rfl rfl 5 (by decide) f33 (fun _ h9 => h9) rfl dX10_isBare_8 ?_
  refine lv_iload_n hx hb dX10_isBare_11 rfl (lv_at hl 1 rfl) ?_
  obtain ⟨n_5, heq⟩ := inr_h heq
  have hb_6 := hR.2.1 v1.toNatClampNeg (in_lt n_5)
  refine va_aldq (C := RX0) (n := 8) (f := xKa xa) hx hb hK hP 1 1 rfl rfl n_5 dX10_isBare_12 ?_
  rcases obB_h hb_6 heq with ⟨h_8, heq⟩ | ⟨k_7, ⟨q_9, h_8, h_10⟩, heq⟩
  · rw [h_8]
    refine lv_ifnonnullN hx hb dX10_isBare_13 ?_
    refine lv_aload_n hx hb dX10_isBare_16 rfl (lv_at hl 0 rfl) ?_
    refine va_get (D := D) (ci := 10) (v := .ref (b 2)) (C := RX10) (T := TX10) (N := 7) hx hb hts hin10 hown hK hP 0 rfl rfl 6 (by decide) f39 (fun _ h9 => h9) rfl dX10_isBare_17 ?_
    refine lv_iload_n hx hb dX10_isBare_20 rfl (lv_at hl 1 rfl) ?_
    obtain ⟨n_11, heq⟩ := inr_h heq
    have hb_12 := onR_of hR (in_lt n_11)
    refine va_aldq (C := RX7) (n := 8) (f := xRo xa) hx hb hK hP 2 2 rfl rfl n_11 dX10_isBare_21 ?_
    rcases obR_h hb_12 heq with ⟨h_14, heq⟩ | ⟨k_13, ⟨h_14, h_16⟩, heq⟩
    · rw [h_14]
      refine lv_ifnonnullN hx hb dX10_isBare_22 ?_
      refine lv_iconst (v := (1 : Int32)) hx hb dX10_isBare_25 (by decide) ?_
      refine lv_goto (tgt := 30) hx hb dX10_isBare_26 (by decide) ?_
      exact b30 xs (1 : Int32) xa H locs ls hR hU hP hD hS (lv_sub hl [] rfl) heq
    rw [h_14]
    refine lv_ifnonnull (tgt := 29) hx hb dX10_isBare_22 (by decide) ?_
    refine lv_iconst (v := (0 : Int32)) hx hb dX10_isBare_29 (by decide) ?_
    exact b30 xs (0 : Int32) xa H locs ls hR hU hP hD hS (lv_sub hl [] rfl) heq
  rw [h_8]
  refine lv_ifnonnull (tgt := 29) hx hb dX10_isBare_13 (by decide) ?_
  refine lv_iconst (v := (0 : Int32)) hx hb dX10_isBare_29 (by decide) ?_
  exact b30 xs (0 : Int32) xa H locs ls hR hU hP hD hS (lv_sub hl [] rfl) heq
set_option maxRecDepth 20000 in
theorem ggX10_refusal_X10_isShelf : GoodIn wsX10_refusal wsX10_isShelf := goodIn_r _ [4] (by decide +kernel) (by decide +kernel)
set_option maxRecDepth 20000 in
theorem gX10_refusal_X10_isShelf : GoodIn wsX10_refusal (va_wsS RX10 268 yX10_isShelf wsX10_isShelf) := goodIn_app (goodIn_of _ (by decide +kernel)) ggX10_refusal_X10_isShelf
set_option maxRecDepth 20000 in
theorem ggX10_refusal_X10_isBare : GoodIn wsX10_refusal wsX10_isBare := goodIn_r _ [8, 9, 10, 1, 2, 3, 4, 11, 12, 13, 14, 15, 16, 17] (by decide +kernel) (by decide +kernel)
set_option maxRecDepth 20000 in
theorem gX10_refusal_X10_isBare : GoodIn wsX10_refusal (wsV RX10 296 RX10 yX10_isBare wsX10_isBare) := goodIn_app (goodIn_of _ (by decide +kernel)) ggX10_refusal_X10_isBare
theorem dX10_refusal_0 : decode cX10_refusal 0 = .ok (.iload_n 1, 1) := by decide +kernel
theorem dX10_refusal_1 : decode cX10_refusal 1 = .ok (.invokestatic 268, 3) := by decide +kernel
theorem dX10_refusal_4 : decode cX10_refusal 4 = .ok (.ifCond .ne 5, 3) := by decide +kernel
theorem dX10_refusal_7 : decode cX10_refusal 7 = .ok (.iconst (-1), 1) := by decide +kernel
theorem dX10_refusal_8 : decode cX10_refusal 8 = .ok (.ireturn, 1) := by decide +kernel
theorem dX10_refusal_9 : decode cX10_refusal 9 = .ok (.aload_n 0, 1) := by decide +kernel
theorem dX10_refusal_10 : decode cX10_refusal 10 = .ok (.iload_n 1, 1) := by decide +kernel
theorem dX10_refusal_11 : decode cX10_refusal 11 = .ok (.invokevirtual 296, 3) := by decide +kernel
theorem dX10_refusal_14 : decode cX10_refusal 14 = .ok (.ifCond .eq 8, 3) := by decide +kernel
theorem dX10_refusal_17 : decode cX10_refusal 17 = .ok (.bipush (-11), 2) := by decide +kernel
theorem dX10_refusal_19 : decode cX10_refusal 19 = .ok (.goto 5, 3) := by decide +kernel
theorem dX10_refusal_22 : decode cX10_refusal 22 = .ok (.bipush (-12), 2) := by decide +kernel
theorem dX10_refusal_24 : decode cX10_refusal 24 = .ok (.ireturn, 1) := by decide +kernel
/-! X10 refusal -/
def X10_refusal_p24 (xs : XS) (t0 : Int32) : Option (Int32 × XS) :=
    some (t0, xs)
def X10_refusal (xs : XS) (v1 : Int32) : Option (Int32 × XS) :=
    bd1 (X10_isShelf v1) fun y_1 =>
    if y_1 = 0 then
      (some ((-1 : Int32), xs))
    else
    bnd (X10_isBare xs v1) fun y_4 xs_5 =>
    if y_4 = 0 then
      (X10_refusal_p24 xs_5 (-12 : Int32))
    else
    X10_refusal_p24 xs_5 (-11 : Int32)
abbrev rmX10_refusal : Room := { frames := 2, cells := 0, slots := 0, locals := 41 }
theorem hdX10_refusal : yX10_refusal.cls = RX10 ∧ yX10_refusal.cls ≠ "java/lang/invoke/MethodHandle" ∧ yX10_refusal.cls ≠ "java/lang/invoke/VarHandle" ∧ (parseMethodDescriptor yX10_refusal.desc).map (fun d => d.parameters.length) = some 1 := by decide +kernel
set_option maxRecDepth 100000 in
set_option maxHeartbeats 8000000 in
theorem okX10_refusal (z : Nat → Nat) (l : Launch) (D : va_G) (T : mT3) (b : Nat → Nat) {xa : XA} {xs : XS} {v1 : Int32} {r : Int32} {xs' : XS} (hR : xRel b xa xs) (heq : X10_refusal xs v1 = some (r, xs')) : hXi xSub z l D T b yX10_refusal wsX10_refusal rmX10_refusal [.ref (b 0), .int v1] xa xs r xs' := by
  refine xbody_i (plainFor_of_name (by decide)) rfl (Nat.le_of_ble_eq_true rfl) (fun p e s m args below meth c A Q hx hb hml hown hts hK hA hX hret ls hP hD hS hl => ?_)
  have hl : lv_has ls 2 [(0, .ref (b 0)), (1, .int v1)] := hl
  obtain ⟨xa0, hxa0⟩ : ∃ z : XA, z = xa := ⟨_, rfl⟩
  rw [← hxa0] at hret
  have hU : xSub xa0 xa := by rw [hxa0]; exact xSub.rf
  clear hxa0
  have b24 : ∀ (xs : XS) (t0 : Int32) (xa : XA) (H : Heap) (locs : List Loc) (ls : Array Slot), xRel b xa xs → xSub xa0 xa → va_P D vwCl (xW b T xa xs) H → va_D A (xW b T xa xs) → va_S A s.heap H locs → lv_has ls 2 [] → X10_refusal_p24 xs t0 = some (r, xs') → W p l e rmX10_refusal s m args below meth c H locs 0 0 Q (F0 m 24 ls [.int t0]) := by
    intro xs t0 xa H locs ls hR hU hP hD hS hl heq
    unfold X10_refusal_p24 at heq
    obtain ⟨heq, heq2⟩ := ret_h heq
    subst heq
    subst heq2
    exact hret 24 H locs ls xa hR hU hP hD hS rfl dX10_refusal_24
  obtain ⟨H, hH⟩ : ∃ H, H = s.heap := ⟨_, rfl⟩
  obtain ⟨locs, hlocs⟩ : ∃ z : List Loc, z = [] := ⟨_, rfl⟩
  have hS : va_S A s.heap H locs := by rw [hH, hlocs]; exact hS
  have hP : va_P D vwCl (xW b T xa xs) H := by rw [hH]; exact hP
  suffices h9 : W p l e rmX10_refusal s m args below meth c H locs 0 0 Q (F0 m 0 ls []) by rw [hH, hlocs] at h9; exact h9
  clear hH hlocs
  unfold X10_refusal at heq
  refine lv_iload_n hx hb dX10_refusal_0 rfl (lv_at hl 1 rfl) ?_
  obtain ⟨y_1, h_2, heq⟩ := bd1_h heq
  refine h_si (own := RX10) (As := [.int v1]) (rest := []) (w0 := []) (w1 := []) (wr := xW b T xa xs) hx hb hml hown hts (okX10_isShelf z l D h_2) (va_cwS 1 hts gX10_refusal_X10_isShelf rfl rfl rfl (hdX10_isShelf).2 ⟨Nat.le_of_ble_eq_true rfl, Nat.le_of_ble_eq_true rfl⟩) (hK.sub [] rfl) hA hX hP hD hS (List.Perm.refl _) (List.Perm.refl _) rfl hl.1 rfl (Nat.le_of_ble_eq_true rfl) dX10_refusal_1 ⟨Nat.le_of_ble_eq_true rfl, Nat.le_of_ble_eq_true rfl⟩ (fun H locs hP hD hS => ?_)
  refine lv_if_ne (tgt := 9) hx hb dX10_refusal_4 (by decide) (fun c_3 => ?_) (fun c_3 => ?_)
  · have heq := it_f c_3 heq
    refine lv_aload_n hx hb dX10_refusal_9 rfl (lv_at hl 0 rfl) ?_
    refine lv_iload_n hx hb dX10_refusal_10 rfl (lv_at hl 1 rfl) ?_
    obtain ⟨y_4, xs_5, h_6, heq⟩ := bnd_h heq
    refine x_vi (own := RX10) (As := [.int v1]) (rest := []) hx hb hml hown hts (okX10_isBare z l D T b hR h_6) (cwV 1 hts gX10_refusal_X10_isBare rfl rfl rfl hdX10_isBare ⟨Nat.le_of_ble_eq_true rfl, Nat.le_of_ble_eq_true rfl⟩) hK hA hX hP hD hS (ci := 10) (q0 := 0) rfl rfl rfl hl.1 rfl (Nat.le_of_ble_eq_true rfl) dX10_refusal_11 ⟨Nat.le_of_ble_eq_true rfl, Nat.le_of_ble_eq_true rfl⟩ (fun xa_7 H locs hR hsxa_7 hP hD hS => ?_)
    have hU := xSub.tr hU hsxa_7
    refine lv_if_eq (tgt := 22) hx hb dX10_refusal_14 (by decide) (fun c_9 => ?_) (fun c_9 => ?_)
    · have heq := it_t c_9 heq
      refine lv_bipush (v := (-12 : Int32)) hx hb dX10_refusal_22 (by decide) ?_
      exact b24 xs_5 (-12 : Int32) xa_7 H locs ls hR hU hP hD hS (lv_sub hl [] rfl) heq
    have heq := it_f c_9 heq
    refine lv_bipush (v := (-11 : Int32)) hx hb dX10_refusal_17 (by decide) ?_
    refine lv_goto (tgt := 24) hx hb dX10_refusal_19 (by decide) ?_
    exact b24 xs_5 (-11 : Int32) xa_7 H locs ls hR hU hP hD hS (lv_sub hl [] rfl) heq
  have heq := it_t c_3 heq
  refine lv_iconst (v := (-1 : Int32)) hx hb dX10_refusal_7 (by decide) ?_
  obtain ⟨heq, heq2⟩ := ret_h heq
  subst heq
  subst heq2
  exact hret 8 H locs ls xa hR hU hP hD hS rfl dX10_refusal_8
set_option maxRecDepth 20000 in
theorem ggX10_firstUnread_X7_at : GoodIn wsX10_firstUnread wsX7_at := goodIn_r _ [5, 6, 7, 8, 9, 4, 10, 24, 25] (by decide +kernel) (by decide +kernel)
set_option maxRecDepth 20000 in
theorem gX10_firstUnread_X7_at : GoodIn wsX10_firstUnread (wsV RX10 74 RX7 yX7_at wsX7_at) := goodIn_app (goodIn_of _ (by decide +kernel)) ggX10_firstUnread_X7_at
set_option maxRecDepth 20000 in
theorem ggX10_firstUnread_X10_digitsBehind : GoodIn wsX10_firstUnread wsX10_digitsBehind := goodIn_r _ [14] (by decide +kernel) (by decide +kernel)
set_option maxRecDepth 20000 in
theorem gX10_firstUnread_X10_digitsBehind : GoodIn wsX10_firstUnread (va_wsS RX10 325 yX10_digitsBehind wsX10_digitsBehind) := goodIn_app (goodIn_of _ (by decide +kernel)) ggX10_firstUnread_X10_digitsBehind
set_option maxRecDepth 20000 in
theorem ggX10_firstUnread_X7_isDigit : GoodIn wsX10_firstUnread wsX7_isDigit := goodIn_r _ [18, 19, 2, 3, 4, 5, 6, 7, 8, 9, 10, 24, 25] (by decide +kernel) (by decide +kernel)
set_option maxRecDepth 20000 in
theorem gX10_firstUnread_X7_isDigit : GoodIn wsX10_firstUnread (wsV RX10 328 RX7 yX7_isDigit wsX7_isDigit) := goodIn_app (goodIn_of _ (by decide +kernel)) ggX10_firstUnread_X7_isDigit
set_option maxRecDepth 20000 in
theorem ggX10_firstUnread_X7_size : GoodIn wsX10_firstUnread wsX7_size := goodIn_r _ [23, 6, 24, 25] (by decide +kernel) (by decide +kernel)
set_option maxRecDepth 20000 in
theorem gX10_firstUnread_X7_size : GoodIn wsX10_firstUnread (wsV RX10 63 RX7 yX7_size wsX7_size) := goodIn_app (goodIn_of _ (by decide +kernel)) ggX10_firstUnread_X7_size
theorem dX10_firstUnread_0 : decode cX10_firstUnread 0 = .ok (.iconst 0, 1) := by decide +kernel
theorem dX10_firstUnread_1 : decode cX10_firstUnread 1 = .ok (.istore_n 1, 1) := by decide +kernel
theorem dX10_firstUnread_2 : decode cX10_firstUnread 2 = .ok (.aload_n 0, 1) := by decide +kernel
theorem dX10_firstUnread_3 : decode cX10_firstUnread 3 = .ok (.iload_n 1, 1) := by decide +kernel
theorem dX10_firstUnread_4 : decode cX10_firstUnread 4 = .ok (.invokevirtual 74, 3) := by decide +kernel
theorem dX10_firstUnread_7 : decode cX10_firstUnread 7 = .ok (.invokestatic 325, 3) := by decide +kernel
theorem dX10_firstUnread_10 : decode cX10_firstUnread 10 = .ok (.istore_n 2, 1) := by decide +kernel
theorem dX10_firstUnread_11 : decode cX10_firstUnread 11 = .ok (.iload_n 2, 1) := by decide +kernel
theorem dX10_firstUnread_12 : decode cX10_firstUnread 12 = .ok (.bipush (-4), 2) := by decide +kernel
theorem dX10_firstUnread_14 : decode cX10_firstUnread 14 = .ok (.if_icmp .ne 5, 3) := by decide +kernel
theorem dX10_firstUnread_17 : decode cX10_firstUnread 17 = .ok (.iload_n 1, 1) := by decide +kernel
theorem dX10_firstUnread_18 : decode cX10_firstUnread 18 = .ok (.ireturn, 1) := by decide +kernel
theorem dX10_firstUnread_19 : decode cX10_firstUnread 19 = .ok (.iinc 1 1, 3) := by decide +kernel
theorem dX10_firstUnread_22 : decode cX10_firstUnread 22 = .ok (.iconst 0, 1) := by decide +kernel
theorem dX10_firstUnread_23 : decode cX10_firstUnread 23 = .ok (.istore_n 3, 1) := by decide +kernel
theorem dX10_firstUnread_24 : decode cX10_firstUnread 24 = .ok (.iload_n 3, 1) := by decide +kernel
theorem dX10_firstUnread_25 : decode cX10_firstUnread 25 = .ok (.iload_n 2, 1) := by decide +kernel
theorem dX10_firstUnread_26 : decode cX10_firstUnread 26 = .ok (.if_icmp .ge 22, 3) := by decide +kernel
theorem dX10_firstUnread_29 : decode cX10_firstUnread 29 = .ok (.aload_n 0, 1) := by decide +kernel
theorem dX10_firstUnread_30 : decode cX10_firstUnread 30 = .ok (.iload_n 1, 1) := by decide +kernel
theorem dX10_firstUnread_31 : decode cX10_firstUnread 31 = .ok (.invokevirtual 328, 3) := by decide +kernel
theorem dX10_firstUnread_34 : decode cX10_firstUnread 34 = .ok (.ifCond .ne 5, 3) := by decide +kernel
theorem dX10_firstUnread_37 : decode cX10_firstUnread 37 = .ok (.iload_n 1, 1) := by decide +kernel
theorem dX10_firstUnread_38 : decode cX10_firstUnread 38 = .ok (.ireturn, 1) := by decide +kernel
theorem dX10_firstUnread_39 : decode cX10_firstUnread 39 = .ok (.iinc 1 1, 3) := by decide +kernel
theorem dX10_firstUnread_42 : decode cX10_firstUnread 42 = .ok (.iinc 3 1, 3) := by decide +kernel
theorem dX10_firstUnread_45 : decode cX10_firstUnread 45 = .ok (.goto (-21), 3) := by decide +kernel
theorem dX10_firstUnread_48 : decode cX10_firstUnread 48 = .ok (.aload_n 0, 1) := by decide +kernel
theorem dX10_firstUnread_49 : decode cX10_firstUnread 49 = .ok (.iload_n 1, 1) := by decide +kernel
theorem dX10_firstUnread_50 : decode cX10_firstUnread 50 = .ok (.invokevirtual 74, 3) := by decide +kernel
theorem dX10_firstUnread_53 : decode cX10_firstUnread 53 = .ok (.bipush 59, 2) := by decide +kernel
theorem dX10_firstUnread_55 : decode cX10_firstUnread 55 = .ok (.if_icmp .eq 5, 3) := by decide +kernel
theorem dX10_firstUnread_58 : decode cX10_firstUnread 58 = .ok (.iload_n 1, 1) := by decide +kernel
theorem dX10_firstUnread_59 : decode cX10_firstUnread 59 = .ok (.ireturn, 1) := by decide +kernel
theorem dX10_firstUnread_60 : decode cX10_firstUnread 60 = .ok (.iinc 1 1, 3) := by decide +kernel
theorem dX10_firstUnread_63 : decode cX10_firstUnread 63 = .ok (.iload_n 1, 1) := by decide +kernel
theorem dX10_firstUnread_64 : decode cX10_firstUnread 64 = .ok (.aload_n 0, 1) := by decide +kernel
theorem dX10_firstUnread_65 : decode cX10_firstUnread 65 = .ok (.invokevirtual 63, 3) := by decide +kernel
theorem dX10_firstUnread_68 : decode cX10_firstUnread 68 = .ok (.if_icmp .lt (-66), 3) := by decide +kernel
theorem dX10_firstUnread_71 : decode cX10_firstUnread 71 = .ok (.bipush (-4), 2) := by decide +kernel
theorem dX10_firstUnread_73 : decode cX10_firstUnread 73 = .ok (.ireturn, 1) := by decide +kernel
/-! X10 firstUnread -/
def X10_firstUnread_p17 (xs : XS) (v1 : Int32) : Option (Int32 × XS) :=
    some (v1, xs)
def X10_firstUnread_p37 (xs : XS) (v1 : Int32) : Option (Int32 × XS) :=
    some (v1, xs)
def X10_firstUnread_p58 (xs : XS) (v1 : Int32) : Option (Int32 × XS) :=
    some (v1, xs)
def X10_firstUnread_p48 (k2 : XS → Nat → Int32 → Option (Int32 × XS)) (xs : XS) (v0 : Nat) (v1 : Int32) : Option (Int32 × XS) :=
    bd1 (xR xs v0) fun rz_1 =>
    bnd (X7_at rz_1.1 rz_1.2 v1) fun y_3 st_4 =>
    nm (uR xs v0 (some (rz_1.1, st_4))) fun xs_6 =>
    if y_3 = (59 : Int32) then
      (nm (v1 + (1 : Int32)) fun x_8 =>
      bd1 (xR xs_6 v0) fun rz_9 =>
      bnd (X7_size rz_9.1 rz_9.2) fun y_11 st_12 =>
      nm (uR xs_6 v0 (some (rz_9.1, st_12))) fun xs_14 =>
      if x_8 < y_11 then
        (k2 xs_14 v0 x_8)
      else
      some ((-4 : Int32), xs_14))
    else
    X10_firstUnread_p58 xs_6 v1
def X10_firstUnread_p24 (k2 : XS → Nat → Int32 → Option (Int32 × XS)) : Nat → XS → Nat → Int32 → Int32 → Int32 → Option (Int32 × XS)
  | 0, _, _, _, _, _ => none
  | n + 1, xs, v0, v1, v2, v3 =>
    if v2 ≤ v3 then
      (X10_firstUnread_p48 k2 xs v0 v1)
    else
    bd1 (xR xs v0) fun rz_17 =>
    bnd (X7_isDigit rz_17.1 rz_17.2 v1) fun y_19 st_20 =>
    nm (uR xs v0 (some (rz_17.1, st_20))) fun xs_22 =>
    if y_19 = 0 then
      (X10_firstUnread_p37 xs_22 v1)
    else
    nm (v1 + (1 : Int32)) fun x_24 =>
    nm (v3 + (1 : Int32)) fun x_25 =>
    X10_firstUnread_p24 k2 n xs_22 v0 x_24 v2 x_25
theorem X10_firstUnread_p24_s (k2 : XS → Nat → Int32 → Option (Int32 × XS)) (n : Nat) (xs : XS) (v0 : Nat) (v1 : Int32) (v2 : Int32) (v3 : Int32) : X10_firstUnread_p24 k2 (n + 1) xs v0 v1 v2 v3 =
    (if v2 ≤ v3 then
      (X10_firstUnread_p48 k2 xs v0 v1)
    else
    bd1 (xR xs v0) fun rz_17 =>
    bnd (X7_isDigit rz_17.1 rz_17.2 v1) fun y_19 st_20 =>
    nm (uR xs v0 (some (rz_17.1, st_20))) fun xs_22 =>
    if y_19 = 0 then
      (X10_firstUnread_p37 xs_22 v1)
    else
    nm (v1 + (1 : Int32)) fun x_24 =>
    nm (v3 + (1 : Int32)) fun x_25 =>
    X10_firstUnread_p24 k2 n xs_22 v0 x_24 v2 x_25) := rfl
def X10_firstUnread_p2 : Nat → XS → Nat → Int32 → Option (Int32 × XS)
  | 0, _, _, _ => none
  | n + 1, xs, v0, v1 =>
    bd1 (xR xs v0) fun rz_26 =>
    bnd (X7_at rz_26.1 rz_26.2 v1) fun y_28 st_29 =>
    nm (uR xs v0 (some (rz_26.1, st_29))) fun xs_31 =>
    bd1 (X10_digitsBehind y_28) fun y_32 =>
    if y_32 = (-4 : Int32) then
      (X10_firstUnread_p17 xs_31 v1)
    else
    nm (v1 + (1 : Int32)) fun x_35 =>
    X10_firstUnread_p24 (fun xs v0 v1 => X10_firstUnread_p2 n xs v0 v1) 5000 xs_31 v0 x_35 y_32 (0 : Int32)
theorem X10_firstUnread_p2_s (n : Nat) (xs : XS) (v0 : Nat) (v1 : Int32) : X10_firstUnread_p2 (n + 1) xs v0 v1 =
    (bd1 (xR xs v0) fun rz_26 =>
    bnd (X7_at rz_26.1 rz_26.2 v1) fun y_28 st_29 =>
    nm (uR xs v0 (some (rz_26.1, st_29))) fun xs_31 =>
    bd1 (X10_digitsBehind y_28) fun y_32 =>
    if y_32 = (-4 : Int32) then
      (X10_firstUnread_p17 xs_31 v1)
    else
    nm (v1 + (1 : Int32)) fun x_35 =>
    X10_firstUnread_p24 (fun xs v0 v1 => X10_firstUnread_p2 n xs v0 v1) 5000 xs_31 v0 x_35 y_32 (0 : Int32)) := rfl
def X10_firstUnread (xs : XS) (v0 : Nat) : Option (Int32 × XS) :=
    X10_firstUnread_p2 5000 xs v0 (0 : Int32)
abbrev rmX10_firstUnread : Room := { frames := 3, cells := 0, slots := 0, locals := 64 }
theorem hdX10_firstUnread : yX10_firstUnread.cls = RX10 ∧ yX10_firstUnread.cls ≠ "java/lang/invoke/MethodHandle" ∧ yX10_firstUnread.cls ≠ "java/lang/invoke/VarHandle" ∧ (parseMethodDescriptor yX10_firstUnread.desc).map (fun d => d.parameters.length) = some 1 := by decide +kernel
set_option maxRecDepth 100000 in
set_option maxHeartbeats 8000000 in
theorem okX10_firstUnread (z : Nat → Nat) (l : Launch) (D : va_G) (T : mT3) (b : Nat → Nat) {xa : XA} {xs : XS} {v0 : Nat} {r : Int32} {xs' : XS} (hR : xRel b xa xs) (v0h : v0 < 8) (heq : X10_firstUnread xs v0 = some (r, xs')) : hXi xSub z l D T b yX10_firstUnread wsX10_firstUnread rmX10_firstUnread [.ref (xRa xa v0 0)] xa xs r xs' := by
  refine xbody_i (plainFor_of_name (by decide)) rfl (Nat.le_of_ble_eq_true rfl) (fun p e s m args below meth c A Q hx hb hml hown hts hK hA hX hret ls hP hD hS hl => ?_)
  have hl : lv_has ls 4 [(0, .ref (xRa xa v0 0))] := hl
  obtain ⟨xa0, hxa0⟩ : ∃ z : XA, z = xa := ⟨_, rfl⟩
  rw [← hxa0] at hret
  have hU : xSub xa0 xa := by rw [hxa0]; exact xSub.rf
  clear hxa0
  have b17 : ∀ (xs : XS) (v1 : Int32) (xa : XA) (H : Heap) (locs : List Loc) (ls : Array Slot), xRel b xa xs → xSub xa0 xa → va_P D vwCl (xW b T xa xs) H → va_D A (xW b T xa xs) → va_S A s.heap H locs → lv_has ls 4 [(1, .int v1)] → X10_firstUnread_p17 xs v1 = some (r, xs') → W p l e rmX10_firstUnread s m args below meth c H locs 0 0 Q (F0 m 17 ls []) := by
    intro xs v1 xa H locs ls hR hU hP hD hS hl heq
    unfold X10_firstUnread_p17 at heq
    refine lv_iload_n hx hb dX10_firstUnread_17 rfl (lv_at hl 0 rfl) ?_
    obtain ⟨heq, heq2⟩ := ret_h heq
    subst heq
    subst heq2
    exact hret 18 H locs ls xa hR hU hP hD hS rfl dX10_firstUnread_18
  have b37 : ∀ (xs : XS) (v1 : Int32) (xa : XA) (H : Heap) (locs : List Loc) (ls : Array Slot), xRel b xa xs → xSub xa0 xa → va_P D vwCl (xW b T xa xs) H → va_D A (xW b T xa xs) → va_S A s.heap H locs → lv_has ls 4 [(1, .int v1)] → X10_firstUnread_p37 xs v1 = some (r, xs') → W p l e rmX10_firstUnread s m args below meth c H locs 0 0 Q (F0 m 37 ls []) := by
    intro xs v1 xa H locs ls hR hU hP hD hS hl heq
    unfold X10_firstUnread_p37 at heq
    refine lv_iload_n hx hb dX10_firstUnread_37 rfl (lv_at hl 0 rfl) ?_
    obtain ⟨heq, heq2⟩ := ret_h heq
    subst heq
    subst heq2
    exact hret 38 H locs ls xa hR hU hP hD hS rfl dX10_firstUnread_38
  have b58 : ∀ (xs : XS) (v1 : Int32) (xa : XA) (H : Heap) (locs : List Loc) (ls : Array Slot), xRel b xa xs → xSub xa0 xa → va_P D vwCl (xW b T xa xs) H → va_D A (xW b T xa xs) → va_S A s.heap H locs → lv_has ls 4 [(1, .int v1)] → X10_firstUnread_p58 xs v1 = some (r, xs') → W p l e rmX10_firstUnread s m args below meth c H locs 0 0 Q (F0 m 58 ls []) := by
    intro xs v1 xa H locs ls hR hU hP hD hS hl heq
    unfold X10_firstUnread_p58 at heq
    refine lv_iload_n hx hb dX10_firstUnread_58 rfl (lv_at hl 0 rfl) ?_
    obtain ⟨heq, heq2⟩ := ret_h heq
    subst heq
    subst heq2
    exact hret 59 H locs ls xa hR hU hP hD hS rfl dX10_firstUnread_59
  have b48 : ∀ (k2 : XS → Nat → Int32 → Option (Int32 × XS)) (hk2 : ∀ (xs : XS) (v0 : Nat) (v1 : Int32) (xa : XA) (v0h : v0 < 8) (H : Heap) (locs : List Loc) (ls : Array Slot), xRel b xa xs → xSub xa0 xa → va_P D vwCl (xW b T xa xs) H → va_D A (xW b T xa xs) → va_S A s.heap H locs → lv_has ls 4 [(0, .ref (xRa xa v0 0)), (1, .int v1)] → k2 xs v0 v1 = some (r, xs') → W p l e rmX10_firstUnread s m args below meth c H locs 0 0 Q (F0 m 2 ls [])), ∀ (xs : XS) (v0 : Nat) (v1 : Int32) (xa : XA) (v0h : v0 < 8) (H : Heap) (locs : List Loc) (ls : Array Slot), xRel b xa xs → xSub xa0 xa → va_P D vwCl (xW b T xa xs) H → va_D A (xW b T xa xs) → va_S A s.heap H locs → lv_has ls 4 [(0, .ref (xRa xa v0 0)), (1, .int v1)] → X10_firstUnread_p48 k2 xs v0 v1 = some (r, xs') → W p l e rmX10_firstUnread s m args below meth c H locs 0 0 Q (F0 m 48 ls []) := by
    intro k2 hk2 xs v0 v1 xa v0h H locs ls hR hU hP hD hS hl heq
    unfold X10_firstUnread_p48 at heq
    refine lv_aload_n hx hb dX10_firstUnread_48 rfl (lv_at hl 0 rfl) ?_
    refine lv_iload_n hx hb dX10_firstUnread_49 rfl (lv_at hl 1 rfl) ?_
    obtain ⟨rz_1, hz_2, heq⟩ := bd1_h heq
    obtain ⟨y_3, st_4, h_5, heq⟩ := bnd_h heq
    refine h_vi (own := RX10) (As := [.int v1]) (rest := []) (wr := xWrR b T xa xs v0) hx hb hml hown hts (okX7_at z l D (xRa xa v0) T h_5) (cwV 1 hts gX10_firstUnread_X7_at rfl rfl rfl hdX7_at ⟨Nat.le_of_ble_eq_true rfl, Nat.le_of_ble_eq_true rfl⟩) hK hA hX hP hD hS (xpR b T xa xs v0h hz_2) (xqR b T xa xs v0h _ _) (ci := 7) (q0 := 0) rfl rfl rfl hl.1 rfl (Nat.le_of_ble_eq_true rfl) dX10_firstUnread_50 ⟨Nat.le_of_ble_eq_true rfl, Nat.le_of_ble_eq_true rfl⟩ (fun H locs hP hD hS => ?_)
    obtain ⟨xs_6, exs_6⟩ : ∃ z, z = uR xs v0 (some (rz_1.1, st_4)) := ⟨_, rfl⟩
    have hR : xRel b xa (uR xs v0 (some (rz_1.1, st_4))) := hR.uR hz_2
    rw [← exs_6] at hP hD hR
    have heq := nm_h exs_6 heq
    refine lv_bipush (v := (59 : Int32)) hx hb dX10_firstUnread_53 (by decide) ?_
    refine lv_icmp_eq (tgt := 60) hx hb dX10_firstUnread_55 (by decide) (fun c_7 => ?_) (fun c_7 => ?_)
    · have heq := it_t c_7 heq
      obtain ⟨x_8, ex_8⟩ : ∃ y : Int32, y = v1 + (1 : Int32) := ⟨_, rfl⟩
      have heq := nm_h ex_8 heq
      refine lv_iinc (v := x_8) (lv' := [(1, .int x_8), (0, .ref (xRa xa v0 0))]) hx hb dX10_firstUnread_60 hl (k := 1) rfl (by rw [ex_8]; rfl) (by decide) rfl (fun ls hl => ?_)
      refine lv_iload_n hx hb dX10_firstUnread_63 rfl (lv_at hl 0 rfl) ?_
      refine lv_aload_n hx hb dX10_firstUnread_64 rfl (lv_at hl 1 rfl) ?_
      obtain ⟨rz_9, hz_10, heq⟩ := bd1_h heq
      obtain ⟨y_11, st_12, h_13, heq⟩ := bnd_h heq
      refine h_vi (own := RX10) (As := []) (rest := [.int x_8]) (wr := xWrR b T xa xs_6 v0) hx hb hml hown hts (okX7_size z l D (xRa xa v0) T h_13) (cwV 0 hts gX10_firstUnread_X7_size rfl rfl rfl hdX7_size ⟨Nat.le_of_ble_eq_true rfl, Nat.le_of_ble_eq_true rfl⟩) hK hA hX hP hD hS (xpR b T xa xs_6 v0h hz_10) (xqR b T xa xs_6 v0h _ _) (ci := 7) (q0 := 0) rfl rfl rfl hl.1 rfl (Nat.le_of_ble_eq_true rfl) dX10_firstUnread_65 ⟨Nat.le_of_ble_eq_true rfl, Nat.le_of_ble_eq_true rfl⟩ (fun H locs hP hD hS => ?_)
      obtain ⟨xs_14, exs_14⟩ : ∃ z, z = uR xs_6 v0 (some (rz_9.1, st_12)) := ⟨_, rfl⟩
      have hR : xRel b xa (uR xs_6 v0 (some (rz_9.1, st_12))) := hR.uR hz_10
      rw [← exs_14] at hP hD hR
      have heq := nm_h exs_14 heq
      refine lv_icmp_lt (tgt := 2) hx hb dX10_firstUnread_68 (by decide) (fun c_15 => ?_) (fun c_15 => ?_)
      · have heq := it_t c_15 heq
        exact hk2 xs_14 v0 x_8 xa v0h H locs ls hR hU hP hD hS (lv_sub hl [1, 0] rfl) heq
      have heq := it_f c_15 heq
      refine lv_bipush (v := (-4 : Int32)) hx hb dX10_firstUnread_71 (by decide) ?_
      obtain ⟨heq, heq2⟩ := ret_h heq
      subst heq
      subst heq2
      exact hret 73 H locs ls xa hR hU hP hD hS rfl dX10_firstUnread_73
    have heq := it_f c_7 heq
    exact b58 xs_6 v1 xa H locs ls hR hU hP hD hS (lv_sub hl [1] rfl) heq
  have b24 : ∀ (k2 : XS → Nat → Int32 → Option (Int32 × XS)) (hk2 : ∀ (xs : XS) (v0 : Nat) (v1 : Int32) (xa : XA) (v0h : v0 < 8) (H : Heap) (locs : List Loc) (ls : Array Slot), xRel b xa xs → xSub xa0 xa → va_P D vwCl (xW b T xa xs) H → va_D A (xW b T xa xs) → va_S A s.heap H locs → lv_has ls 4 [(0, .ref (xRa xa v0 0)), (1, .int v1)] → k2 xs v0 v1 = some (r, xs') → W p l e rmX10_firstUnread s m args below meth c H locs 0 0 Q (F0 m 2 ls [])), ∀ (n : Nat), ∀ (xs : XS) (v0 : Nat) (v1 : Int32) (v2 : Int32) (v3 : Int32) (xa : XA) (v0h : v0 < 8) (H : Heap) (locs : List Loc) (ls : Array Slot), xRel b xa xs → xSub xa0 xa → va_P D vwCl (xW b T xa xs) H → va_D A (xW b T xa xs) → va_S A s.heap H locs → lv_has ls 4 [(0, .ref (xRa xa v0 0)), (1, .int v1), (2, .int v2), (3, .int v3)] → X10_firstUnread_p24 k2 n xs v0 v1 v2 v3 = some (r, xs') → W p l e rmX10_firstUnread s m args below meth c H locs 0 0 Q (F0 m 24 ls []) := by
    intro k2 hk2 n
    induction n with
    | zero => intro xs v0 v1 v2 v3 xa v0h H locs ls hR hU hP hD hS hl heq; cases heq
    | succ n ih =>
      intro xs v0 v1 v2 v3 xa v0h H locs ls hR hU hP hD hS hl heq
      rw [X10_firstUnread_p24_s] at heq
      refine lv_iload_n hx hb dX10_firstUnread_24 rfl (lv_at hl 3 rfl) ?_
      refine lv_iload_n hx hb dX10_firstUnread_25 rfl (lv_at hl 2 rfl) ?_
      refine lv_icmp_ge (tgt := 48) hx hb dX10_firstUnread_26 (by decide) (fun c_16 => ?_) (fun c_16 => ?_)
      · have heq := it_t c_16 heq
        exact b48 k2 hk2 xs v0 v1 xa v0h H locs ls hR hU hP hD hS (lv_sub hl [0, 1] rfl) heq
      have heq := it_f c_16 heq
      refine lv_aload_n hx hb dX10_firstUnread_29 rfl (lv_at hl 0 rfl) ?_
      refine lv_iload_n hx hb dX10_firstUnread_30 rfl (lv_at hl 1 rfl) ?_
      obtain ⟨rz_17, hz_18, heq⟩ := bd1_h heq
      obtain ⟨y_19, st_20, h_21, heq⟩ := bnd_h heq
      refine h_vi (own := RX10) (As := [.int v1]) (rest := []) (wr := xWrR b T xa xs v0) hx hb hml hown hts (okX7_isDigit z l D (xRa xa v0) T h_21) (cwV 1 hts gX10_firstUnread_X7_isDigit rfl rfl rfl hdX7_isDigit ⟨Nat.le_of_ble_eq_true rfl, Nat.le_of_ble_eq_true rfl⟩) hK hA hX hP hD hS (xpR b T xa xs v0h hz_18) (xqR b T xa xs v0h _ _) (ci := 7) (q0 := 0) rfl rfl rfl hl.1 rfl (Nat.le_of_ble_eq_true rfl) dX10_firstUnread_31 ⟨Nat.le_of_ble_eq_true rfl, Nat.le_of_ble_eq_true rfl⟩ (fun H locs hP hD hS => ?_)
      obtain ⟨xs_22, exs_22⟩ : ∃ z, z = uR xs v0 (some (rz_17.1, st_20)) := ⟨_, rfl⟩
      have hR : xRel b xa (uR xs v0 (some (rz_17.1, st_20))) := hR.uR hz_18
      rw [← exs_22] at hP hD hR
      have heq := nm_h exs_22 heq
      refine lv_if_ne (tgt := 39) hx hb dX10_firstUnread_34 (by decide) (fun c_23 => ?_) (fun c_23 => ?_)
      · have heq := it_f c_23 heq
        obtain ⟨x_24, ex_24⟩ : ∃ y : Int32, y = v1 + (1 : Int32) := ⟨_, rfl⟩
        have heq := nm_h ex_24 heq
        refine lv_iinc (v := x_24) (lv' := [(1, .int x_24), (0, .ref (xRa xa v0 0)), (2, .int v2), (3, .int v3)]) hx hb dX10_firstUnread_39 hl (k := 1) rfl (by rw [ex_24]; rfl) (by decide) rfl (fun ls hl => ?_)
        obtain ⟨x_25, ex_25⟩ : ∃ y : Int32, y = v3 + (1 : Int32) := ⟨_, rfl⟩
        have heq := nm_h ex_25 heq
        refine lv_iinc (v := x_25) (lv' := [(3, .int x_25), (1, .int x_24), (0, .ref (xRa xa v0 0)), (2, .int v2)]) hx hb dX10_firstUnread_42 hl (k := 3) rfl (by rw [ex_25]; rfl) (by decide) rfl (fun ls hl => ?_)
        refine lv_goto (tgt := 24) hx hb dX10_firstUnread_45 (by decide) ?_
        exact ih xs_22 v0 x_24 v2 x_25 xa v0h H locs ls hR hU hP hD hS (lv_sub hl [2, 1, 3, 0] rfl) heq
      have heq := it_t c_23 heq
      exact b37 xs_22 v1 xa H locs ls hR hU hP hD hS (lv_sub hl [1] rfl) heq
  have b2 : ∀ (n : Nat), ∀ (xs : XS) (v0 : Nat) (v1 : Int32) (xa : XA) (v0h : v0 < 8) (H : Heap) (locs : List Loc) (ls : Array Slot), xRel b xa xs → xSub xa0 xa → va_P D vwCl (xW b T xa xs) H → va_D A (xW b T xa xs) → va_S A s.heap H locs → lv_has ls 4 [(0, .ref (xRa xa v0 0)), (1, .int v1)] → X10_firstUnread_p2 n xs v0 v1 = some (r, xs') → W p l e rmX10_firstUnread s m args below meth c H locs 0 0 Q (F0 m 2 ls []) := by
    intro n
    induction n with
    | zero => intro xs v0 v1 xa v0h H locs ls hR hU hP hD hS hl heq; cases heq
    | succ n ih =>
      intro xs v0 v1 xa v0h H locs ls hR hU hP hD hS hl heq
      rw [X10_firstUnread_p2_s] at heq
      refine lv_aload_n hx hb dX10_firstUnread_2 rfl (lv_at hl 0 rfl) ?_
      refine lv_iload_n hx hb dX10_firstUnread_3 rfl (lv_at hl 1 rfl) ?_
      obtain ⟨rz_26, hz_27, heq⟩ := bd1_h heq
      obtain ⟨y_28, st_29, h_30, heq⟩ := bnd_h heq
      refine h_vi (own := RX10) (As := [.int v1]) (rest := []) (wr := xWrR b T xa xs v0) hx hb hml hown hts (okX7_at z l D (xRa xa v0) T h_30) (cwV 1 hts gX10_firstUnread_X7_at rfl rfl rfl hdX7_at ⟨Nat.le_of_ble_eq_true rfl, Nat.le_of_ble_eq_true rfl⟩) hK hA hX hP hD hS (xpR b T xa xs v0h hz_27) (xqR b T xa xs v0h _ _) (ci := 7) (q0 := 0) rfl rfl rfl hl.1 rfl (Nat.le_of_ble_eq_true rfl) dX10_firstUnread_4 ⟨Nat.le_of_ble_eq_true rfl, Nat.le_of_ble_eq_true rfl⟩ (fun H locs hP hD hS => ?_)
      obtain ⟨xs_31, exs_31⟩ : ∃ z, z = uR xs v0 (some (rz_26.1, st_29)) := ⟨_, rfl⟩
      have hR : xRel b xa (uR xs v0 (some (rz_26.1, st_29))) := hR.uR hz_27
      rw [← exs_31] at hP hD hR
      have heq := nm_h exs_31 heq
      obtain ⟨y_32, h_33, heq⟩ := bd1_h heq
      refine h_si (own := RX10) (As := [.int y_28]) (rest := []) (w0 := []) (w1 := []) (wr := xW b T xa xs_31) hx hb hml hown hts (okX10_digitsBehind z l D h_33) (va_cwS 1 hts gX10_firstUnread_X10_digitsBehind rfl rfl rfl (hdX10_digitsBehind).2 ⟨Nat.le_of_ble_eq_true rfl, Nat.le_of_ble_eq_true rfl⟩) (hK.sub [] rfl) hA hX hP hD hS (List.Perm.refl _) (List.Perm.refl _) rfl hl.1 rfl (Nat.le_of_ble_eq_true rfl) dX10_firstUnread_7 ⟨Nat.le_of_ble_eq_true rfl, Nat.le_of_ble_eq_true rfl⟩ (fun H locs hP hD hS => ?_)
      refine lv_istore_n (lv' := [(2, .int y_32), (0, .ref (xRa xa v0 0)), (1, .int v1)]) hx hb dX10_firstUnread_10 rfl hl (by decide) rfl (fun ls hl => ?_)
      refine lv_iload_n hx hb dX10_firstUnread_11 rfl (lv_at hl 0 rfl) ?_
      refine lv_bipush (v := (-4 : Int32)) hx hb dX10_firstUnread_12 (by decide) ?_
      refine lv_icmp_ne (tgt := 19) hx hb dX10_firstUnread_14 (by decide) (fun c_34 => ?_) (fun c_34 => ?_)
      · have heq := it_f c_34 heq
        obtain ⟨x_35, ex_35⟩ : ∃ y : Int32, y = v1 + (1 : Int32) := ⟨_, rfl⟩
        have heq := nm_h ex_35 heq
        refine lv_iinc (v := x_35) (lv' := [(1, .int x_35), (2, .int y_32), (0, .ref (xRa xa v0 0))]) hx hb dX10_firstUnread_19 hl (k := 2) rfl (by rw [ex_35]; rfl) (by decide) rfl (fun ls hl => ?_)
        refine lv_iconst (v := (0 : Int32)) hx hb dX10_firstUnread_22 (by decide) ?_
        refine lv_istore_n (lv' := [(3, .int (0 : Int32)), (1, .int x_35), (2, .int y_32), (0, .ref (xRa xa v0 0))]) hx hb dX10_firstUnread_23 rfl hl (by decide) rfl (fun ls hl => ?_)
        exact b24 (fun xs v0 v1 => X10_firstUnread_p2 n xs v0 v1) ih 5000 xs_31 v0 x_35 y_32 (0 : Int32) xa v0h H locs ls hR hU hP hD hS (lv_sub hl [3, 1, 2, 0] rfl) heq
      have heq := it_t c_34 heq
      exact b17 xs_31 v1 xa H locs ls hR hU hP hD hS (lv_sub hl [2] rfl) heq
  obtain ⟨H, hH⟩ : ∃ H, H = s.heap := ⟨_, rfl⟩
  obtain ⟨locs, hlocs⟩ : ∃ z : List Loc, z = [] := ⟨_, rfl⟩
  have hS : va_S A s.heap H locs := by rw [hH, hlocs]; exact hS
  have hP : va_P D vwCl (xW b T xa xs) H := by rw [hH]; exact hP
  suffices h9 : W p l e rmX10_firstUnread s m args below meth c H locs 0 0 Q (F0 m 0 ls []) by rw [hH, hlocs] at h9; exact h9
  clear hH hlocs
  unfold X10_firstUnread at heq
  refine lv_iconst (v := (0 : Int32)) hx hb dX10_firstUnread_0 (by decide) ?_
  refine lv_istore_n (lv' := [(1, .int (0 : Int32)), (0, .ref (xRa xa v0 0))]) hx hb dX10_firstUnread_1 rfl hl (by decide) rfl (fun ls hl => ?_)
  exact b2 5000 xs v0 (0 : Int32) xa v0h H locs ls hR hU hP hD hS (lv_sub hl [1, 0] rfl) heq
set_option maxRecDepth 20000 in
theorem ggX10_brickOf_X0_init : GoodIn wsX10_brickOf wsX0_init := goodIn_r _ [27, 28, 29, 30, 31, 60, 64, 61, 65, 63, 66, 62, 67] (by decide +kernel) (by decide +kernel)
set_option maxRecDepth 20000 in
theorem gX10_brickOf_X0_init : GoodIn wsX10_brickOf (wsX0_init) := ggX10_brickOf_X0_init
set_option maxRecDepth 20000 in
theorem ggX10_brickOf_X2_init : GoodIn wsX10_brickOf wsX2_init := goodIn_r _ [34, 35, 26, 3, 27, 28, 29, 30, 31, 60, 64, 61, 65, 63, 66, 62, 67] (by decide +kernel) (by decide +kernel)
set_option maxRecDepth 20000 in
theorem gX10_brickOf_X2_init : GoodIn wsX10_brickOf (wsX2_init) := ggX10_brickOf_X2_init
set_option maxRecDepth 20000 in
theorem ggX10_brickOf_X6_init : GoodIn wsX10_brickOf wsX6_init := goodIn_r _ [38, 39, 26, 3, 27, 28, 29, 30, 31, 60, 64, 61, 65, 63, 66, 62, 67] (by decide +kernel) (by decide +kernel)
set_option maxRecDepth 20000 in
theorem gX10_brickOf_X6_init : GoodIn wsX10_brickOf (wsX6_init) := ggX10_brickOf_X6_init
set_option maxRecDepth 20000 in
theorem ggX10_brickOf_X4_init : GoodIn wsX10_brickOf wsX4_init := goodIn_r _ [42, 43, 37, 9, 38, 39, 26, 3, 27, 28, 29, 30, 31, 60, 64, 61, 65, 63, 66, 62, 67] (by decide +kernel) (by decide +kernel)
set_option maxRecDepth 20000 in
theorem gX10_brickOf_X4_init : GoodIn wsX10_brickOf (wsX4_init) := ggX10_brickOf_X4_init
set_option maxRecDepth 20000 in
theorem ggX10_brickOf_X1_init : GoodIn wsX10_brickOf wsX1_init := goodIn_r _ [46, 47, 26, 3, 27, 28, 29, 30, 31, 60, 64, 61, 65, 63, 66, 62, 67] (by decide +kernel) (by decide +kernel)
set_option maxRecDepth 20000 in
theorem gX10_brickOf_X1_init : GoodIn wsX10_brickOf (wsX1_init) := ggX10_brickOf_X1_init
set_option maxRecDepth 20000 in
theorem ggX10_brickOf_X3_init : GoodIn wsX10_brickOf wsX3_init := goodIn_r _ [50, 51, 26, 3, 27, 28, 29, 30, 31, 60, 64, 61, 65, 63, 66, 62, 67] (by decide +kernel) (by decide +kernel)
set_option maxRecDepth 20000 in
theorem gX10_brickOf_X3_init : GoodIn wsX10_brickOf (wsX3_init) := ggX10_brickOf_X3_init
set_option maxRecDepth 20000 in
theorem ggX10_brickOf_X5_init : GoodIn wsX10_brickOf wsX5_init := goodIn_r _ [54, 55, 37, 9, 38, 39, 26, 3, 27, 28, 29, 30, 31, 60, 64, 61, 65, 63, 66, 62, 67] (by decide +kernel) (by decide +kernel)
set_option maxRecDepth 20000 in
theorem gX10_brickOf_X5_init : GoodIn wsX10_brickOf (wsX5_init) := ggX10_brickOf_X5_init
set_option maxRecDepth 20000 in
theorem ggX10_brickOf_X9_init : GoodIn wsX10_brickOf wsX9_init := goodIn_r _ [58, 59, 26, 3, 27, 28, 29, 30, 31, 60, 64, 61, 65, 63, 66, 62, 67] (by decide +kernel) (by decide +kernel)
set_option maxRecDepth 20000 in
theorem gX10_brickOf_X9_init : GoodIn wsX10_brickOf (wsX9_init) := ggX10_brickOf_X9_init
theorem dX10_brickOf_0 : decode cX10_brickOf 0 = .ok (.iload_n 1, 1) := by decide +kernel
theorem dX10_brickOf_1 : decode cX10_brickOf 1 = .ok (.ifCond .lt 9, 3) := by decide +kernel
theorem dX10_brickOf_4 : decode cX10_brickOf 4 = .ok (.iload_n 1, 1) := by decide +kernel
theorem dX10_brickOf_5 : decode cX10_brickOf 5 = .ok (.bipush 9, 2) := by decide +kernel
theorem dX10_brickOf_7 : decode cX10_brickOf 7 = .ok (.if_icmp .le 5, 3) := by decide +kernel
theorem dX10_brickOf_10 : decode cX10_brickOf 10 = .ok (.aconst_null, 1) := by decide +kernel
theorem dX10_brickOf_11 : decode cX10_brickOf 11 = .ok (.areturn, 1) := by decide +kernel
theorem dX10_brickOf_12 : decode cX10_brickOf 12 = .ok (.iload_n 0, 1) := by decide +kernel
theorem dX10_brickOf_13 : decode cX10_brickOf 13 = .ok (.tableswitch 119 0 7 #[47, 56, 65, 74, 83, 92, 101, 110], 47) := by decide +kernel
theorem dX10_brickOf_60 : decode cX10_brickOf 60 = .ok (.new 31, 3) := by decide +kernel
theorem dX10_brickOf_63 : decode cX10_brickOf 63 = .ok (.dup, 1) := by decide +kernel
theorem dX10_brickOf_64 : decode cX10_brickOf 64 = .ok (.iload_n 1, 1) := by decide +kernel
theorem dX10_brickOf_65 : decode cX10_brickOf 65 = .ok (.invokespecial 353, 3) := by decide +kernel
theorem dX10_brickOf_68 : decode cX10_brickOf 68 = .ok (.areturn, 1) := by decide +kernel
theorem dX10_brickOf_69 : decode cX10_brickOf 69 = .ok (.new 22, 3) := by decide +kernel
theorem dX10_brickOf_72 : decode cX10_brickOf 72 = .ok (.dup, 1) := by decide +kernel
theorem dX10_brickOf_73 : decode cX10_brickOf 73 = .ok (.iload_n 1, 1) := by decide +kernel
theorem dX10_brickOf_74 : decode cX10_brickOf 74 = .ok (.invokespecial 24, 3) := by decide +kernel
theorem dX10_brickOf_77 : decode cX10_brickOf 77 = .ok (.areturn, 1) := by decide +kernel
theorem dX10_brickOf_78 : decode cX10_brickOf 78 = .ok (.new 347, 3) := by decide +kernel
theorem dX10_brickOf_81 : decode cX10_brickOf 81 = .ok (.dup, 1) := by decide +kernel
theorem dX10_brickOf_82 : decode cX10_brickOf 82 = .ok (.iload_n 1, 1) := by decide +kernel
theorem dX10_brickOf_83 : decode cX10_brickOf 83 = .ok (.invokespecial 349, 3) := by decide +kernel
theorem dX10_brickOf_86 : decode cX10_brickOf 86 = .ok (.areturn, 1) := by decide +kernel
theorem dX10_brickOf_87 : decode cX10_brickOf 87 = .ok (.new 354, 3) := by decide +kernel
theorem dX10_brickOf_90 : decode cX10_brickOf 90 = .ok (.dup, 1) := by decide +kernel
theorem dX10_brickOf_91 : decode cX10_brickOf 91 = .ok (.iload_n 1, 1) := by decide +kernel
theorem dX10_brickOf_92 : decode cX10_brickOf 92 = .ok (.invokespecial 356, 3) := by decide +kernel
theorem dX10_brickOf_95 : decode cX10_brickOf 95 = .ok (.areturn, 1) := by decide +kernel
theorem dX10_brickOf_96 : decode cX10_brickOf 96 = .ok (.new 357, 3) := by decide +kernel
theorem dX10_brickOf_99 : decode cX10_brickOf 99 = .ok (.dup, 1) := by decide +kernel
theorem dX10_brickOf_100 : decode cX10_brickOf 100 = .ok (.iload_n 1, 1) := by decide +kernel
theorem dX10_brickOf_101 : decode cX10_brickOf 101 = .ok (.invokespecial 359, 3) := by decide +kernel
theorem dX10_brickOf_104 : decode cX10_brickOf 104 = .ok (.areturn, 1) := by decide +kernel
theorem dX10_brickOf_105 : decode cX10_brickOf 105 = .ok (.new 360, 3) := by decide +kernel
theorem dX10_brickOf_108 : decode cX10_brickOf 108 = .ok (.dup, 1) := by decide +kernel
theorem dX10_brickOf_109 : decode cX10_brickOf 109 = .ok (.iload_n 1, 1) := by decide +kernel
theorem dX10_brickOf_110 : decode cX10_brickOf 110 = .ok (.invokespecial 362, 3) := by decide +kernel
theorem dX10_brickOf_113 : decode cX10_brickOf 113 = .ok (.areturn, 1) := by decide +kernel
theorem dX10_brickOf_114 : decode cX10_brickOf 114 = .ok (.new 363, 3) := by decide +kernel
theorem dX10_brickOf_117 : decode cX10_brickOf 117 = .ok (.dup, 1) := by decide +kernel
theorem dX10_brickOf_118 : decode cX10_brickOf 118 = .ok (.iload_n 1, 1) := by decide +kernel
theorem dX10_brickOf_119 : decode cX10_brickOf 119 = .ok (.invokespecial 365, 3) := by decide +kernel
theorem dX10_brickOf_122 : decode cX10_brickOf 122 = .ok (.areturn, 1) := by decide +kernel
theorem dX10_brickOf_123 : decode cX10_brickOf 123 = .ok (.new 210, 3) := by decide +kernel
theorem dX10_brickOf_126 : decode cX10_brickOf 126 = .ok (.dup, 1) := by decide +kernel
theorem dX10_brickOf_127 : decode cX10_brickOf 127 = .ok (.iload_n 1, 1) := by decide +kernel
theorem dX10_brickOf_128 : decode cX10_brickOf 128 = .ok (.invokespecial 212, 3) := by decide +kernel
theorem dX10_brickOf_131 : decode cX10_brickOf 131 = .ok (.areturn, 1) := by decide +kernel
theorem dX10_brickOf_132 : decode cX10_brickOf 132 = .ok (.aconst_null, 1) := by decide +kernel
theorem dX10_brickOf_133 : decode cX10_brickOf 133 = .ok (.areturn, 1) := by decide +kernel
/-! X10 brickOf -/
def X10_brickOf_p10 (xs : XS) : Option ((Option BK) × XS) :=
    some (none, xs)
def X10_brickOf (xs : XS) (v0 : Int32) (v1 : Int32) : Option ((Option BK) × XS) :=
    if v1 < 0 then
      (X10_brickOf_p10 xs)
    else
    if v1 ≤ (9 : Int32) then
      (if v0 = (0 : Int32) then
        (some ((some ((0, v1) : BK)), xs))
      else
      if v0 = (1 : Int32) then
        (some ((some ((1, v1) : BK)), xs))
      else
      if v0 = (2 : Int32) then
        (some ((some ((2, v1) : BK)), xs))
      else
      if v0 = (3 : Int32) then
        (some ((some ((3, v1) : BK)), xs))
      else
      if v0 = (4 : Int32) then
        (some ((some ((4, v1) : BK)), xs))
      else
      if v0 = (5 : Int32) then
        (some ((some ((5, v1) : BK)), xs))
      else
      if v0 = (6 : Int32) then
        (some ((some ((6, v1) : BK)), xs))
      else
      if v0 = (7 : Int32) then
        (some ((some ((7, v1) : BK)), xs))
      else
      some (none, xs))
    else
    X10_brickOf_p10 xs
abbrev rmX10_brickOf : Room := { frames := 4, cells := 1, slots := 1, locals := 75 }
theorem hdX10_brickOf : yX10_brickOf.cls = RX10 ∧ yX10_brickOf.cls ≠ "java/lang/invoke/MethodHandle" ∧ yX10_brickOf.cls ≠ "java/lang/invoke/VarHandle" ∧ (parseMethodDescriptor yX10_brickOf.desc).map (fun d => d.parameters.length) = some 2 := by decide +kernel
set_option maxRecDepth 100000 in
set_option maxHeartbeats 8000000 in
theorem okX10_brickOf (z : Nat → Nat) (l : Launch) (D : va_G) (T : mT3) (b : Nat → Nat) {xa : XA} {xs : XS} {v0 : Int32} {v1 : Int32} {r : Option BK} {xs' : XS} (hR : xRel b xa xs) (heq : X10_brickOf xs v0 v1 = some (r, xs')) : hXb xSub z l D T b yX10_brickOf wsX10_brickOf rmX10_brickOf [.int v0, .int v1] xa xs r xs' := by
  refine xbody_b (plainFor_of_name (by decide)) rfl (Nat.le_of_ble_eq_true rfl) (fun p e s m args below meth c A Q hx hb hml hown hts hK hA hX hret ls hP hD hS hl => ?_)
  have hl : lv_has ls 2 [(0, .int v0), (1, .int v1)] := hl
  have hin0 : ∀ w ∈ wsX00, w ∈ wsX10_brickOf := by decide +kernel
  have hin1 : ∀ w ∈ wsX10, w ∈ wsX10_brickOf := by decide +kernel
  have hin2 : ∀ w ∈ wsX20, w ∈ wsX10_brickOf := by decide +kernel
  have hin3 : ∀ w ∈ wsX30, w ∈ wsX10_brickOf := by decide +kernel
  have hin4 : ∀ w ∈ wsX40, w ∈ wsX10_brickOf := by decide +kernel
  have hin5 : ∀ w ∈ wsX50, w ∈ wsX10_brickOf := by decide +kernel
  have hin6 : ∀ w ∈ wsX60, w ∈ wsX10_brickOf := by decide +kernel
  have hin9 : ∀ w ∈ wsX90, w ∈ wsX10_brickOf := by decide +kernel
  have hw0 := hts (.classLink RX10 31 RX0) (by decide +kernel)
  have hw1 := hts (.instantiable RX0 1) (by decide +kernel)
  have hw2 := hts (.initialized RX0) (by decide +kernel)
  have hw3 := hts (.methodLink RX10 353 yX0_init) (by decide +kernel)
  have hw4 := hts (.instanceMethod yX0_init) (by decide +kernel)
  have hw5 := hts (.classLink RX10 22 RX2) (by decide +kernel)
  have hw6 := hts (.instantiable RX2 1) (by decide +kernel)
  have hw7 := hts (.initialized RX2) (by decide +kernel)
  have hw8 := hts (.methodLink RX10 24 yX2_init) (by decide +kernel)
  have hw9 := hts (.instanceMethod yX2_init) (by decide +kernel)
  have hw10 := hts (.classLink RX10 347 RX6) (by decide +kernel)
  have hw11 := hts (.instantiable RX6 1) (by decide +kernel)
  have hw12 := hts (.initialized RX6) (by decide +kernel)
  have hw13 := hts (.methodLink RX10 349 yX6_init) (by decide +kernel)
  have hw14 := hts (.instanceMethod yX6_init) (by decide +kernel)
  have hw15 := hts (.classLink RX10 354 RX4) (by decide +kernel)
  have hw16 := hts (.instantiable RX4 1) (by decide +kernel)
  have hw17 := hts (.initialized RX4) (by decide +kernel)
  have hw18 := hts (.methodLink RX10 356 yX4_init) (by decide +kernel)
  have hw19 := hts (.instanceMethod yX4_init) (by decide +kernel)
  have hw20 := hts (.classLink RX10 357 RX1) (by decide +kernel)
  have hw21 := hts (.instantiable RX1 1) (by decide +kernel)
  have hw22 := hts (.initialized RX1) (by decide +kernel)
  have hw23 := hts (.methodLink RX10 359 yX1_init) (by decide +kernel)
  have hw24 := hts (.instanceMethod yX1_init) (by decide +kernel)
  have hw25 := hts (.classLink RX10 360 RX3) (by decide +kernel)
  have hw26 := hts (.instantiable RX3 1) (by decide +kernel)
  have hw27 := hts (.initialized RX3) (by decide +kernel)
  have hw28 := hts (.methodLink RX10 362 yX3_init) (by decide +kernel)
  have hw29 := hts (.instanceMethod yX3_init) (by decide +kernel)
  have hw30 := hts (.classLink RX10 363 RX5) (by decide +kernel)
  have hw31 := hts (.instantiable RX5 1) (by decide +kernel)
  have hw32 := hts (.initialized RX5) (by decide +kernel)
  have hw33 := hts (.methodLink RX10 365 yX5_init) (by decide +kernel)
  have hw34 := hts (.instanceMethod yX5_init) (by decide +kernel)
  have hw35 := hts (.classLink RX10 210 RX9) (by decide +kernel)
  have hw36 := hts (.instantiable RX9 1) (by decide +kernel)
  have hw37 := hts (.initialized RX9) (by decide +kernel)
  have hw38 := hts (.methodLink RX10 212 yX9_init) (by decide +kernel)
  have hw39 := hts (.instanceMethod yX9_init) (by decide +kernel)
  obtain ⟨xa0, hxa0⟩ : ∃ z : XA, z = xa := ⟨_, rfl⟩
  rw [← hxa0] at hret
  have hU : xSub xa0 xa := by rw [hxa0]; exact xSub.rf
  clear hxa0
  have b10 : ∀ (xs : XS) (xa : XA) (H : Heap) (locs : List Loc) (ls : Array Slot), xRel b xa xs → xSub xa0 xa → va_P D vwCl (xW b T xa xs) H → va_D A (xW b T xa xs) → va_S A s.heap H locs → lv_has ls 2 [] → X10_brickOf_p10 xs = some (r, xs') → W p l e rmX10_brickOf s m args below meth c H locs 0 0 Q (F0 m 10 ls []) := by
    intro xs xa H locs ls hR hU hP hD hS hl heq
    unfold X10_brickOf_p10 at heq
    refine lv_null hx hb dX10_brickOf_10 ?_
    obtain ⟨heq, heq2⟩ := ret_h heq
    subst heq
    subst heq2
    refine W.widen (k := 1) (n := 1) (by first | decide | omega) (by first | decide | omega) ?_
    exact hret 11 H locs ls xa none hR hU hP hD hS rfl dX10_brickOf_11
  obtain ⟨H, hH⟩ : ∃ H, H = s.heap := ⟨_, rfl⟩
  obtain ⟨locs, hlocs⟩ : ∃ z : List Loc, z = [] := ⟨_, rfl⟩
  have hS : va_S A s.heap H locs := by rw [hH, hlocs]; exact hS
  have hP : va_P D vwCl (xW b T xa xs) H := by rw [hH]; exact hP
  suffices h9 : W p l e rmX10_brickOf s m args below meth c H locs 0 0 Q (F0 m 0 ls []) by rw [hH, hlocs] at h9; exact h9
  clear hH hlocs
  unfold X10_brickOf at heq
  refine lv_iload_n hx hb dX10_brickOf_0 rfl (lv_at hl 1 rfl) ?_
  refine lv_if_lt (tgt := 10) hx hb dX10_brickOf_1 (by decide) (fun c_1 => ?_) (fun c_1 => ?_)
  · have heq := it_t c_1 heq
    exact b10 xs xa H locs ls hR hU hP hD hS (lv_sub hl [] rfl) heq
  have heq := it_f c_1 heq
  refine lv_iload_n hx hb dX10_brickOf_4 rfl (lv_at hl 1 rfl) ?_
  refine lv_bipush (v := (9 : Int32)) hx hb dX10_brickOf_5 (by decide) ?_
  refine lv_icmp_le (tgt := 12) hx hb dX10_brickOf_7 (by decide) (fun c_2 => ?_) (fun c_2 => ?_)
  · have heq := it_t c_2 heq
    refine lv_iload_n hx hb dX10_brickOf_12 rfl (lv_at hl 0 rfl) ?_
    by_cases c_3 : v0 = (0 : Int32)
    · have heq := it_t c_3 heq
      refine lv_tableIn (tgt := 60) hx hb dX10_brickOf_13 (by rw [c_3]; decide) (by rw [c_3]; decide) (by rw [c_3]; rfl) (by decide) ?_
      refine va_new (ci := 0) (fs := [.int 0]) (C := RX0) (T := TX0) (N := 1) hx hb hts hin0 tyX0 tyX0_ok hown hw0 hw1 hw2 hK hP hD hS hA rfl (fun j hj => by rcases (show j = 0 by omega) with rfl <;> rfl) (by show 0 + 1 ≤ 1; omega) (by show 0 + 1 ≤ 1; omega) dX10_brickOf_60 (fun q_4 H hP hD hS => ?_)
      refine lv_dup hx hb dX10_brickOf_63 rfl ?_
      refine lv_iload_n hx hb dX10_brickOf_64 rfl (lv_at hl 1 rfl) ?_
      refine x_init (own := RX10) (k := 0) (rest := [.ref q_4]) hx hb hml hown hts (okX0_init_0 z l D T q_4 0 v1) (cwI 1 hts gX10_brickOf_X0_init rfl rfl rfl hw2 hw3 hw4 rfl (by decide +kernel) ⟨Nat.le_of_ble_eq_true rfl, Nat.le_of_ble_eq_true rfl⟩) hK hA hX hP hD hS hl.1 (Nat.le_of_ble_eq_true rfl) dX10_brickOf_65 ⟨by show (0 + 1) + 0 ≤ 1; omega, by show (0 + 1) + 0 ≤ 1; omega⟩ (fun H locs hP hD hS => ?_)
      refine W.widen (k := (0 + 1)) (n := (0 + 1)) (Nat.le_refl _) (Nat.le_refl _) ?_
      obtain ⟨xa_5, exa_5⟩ : ∃ z, z = xGrow xa q_4 ((0, v1) : BK) := ⟨_, rfl⟩
      have hR : xRel b (xGrow xa q_4 ((0, v1) : BK)) xs := hR.grow (Nat.le_of_ble_eq_true rfl)
      have hm_6 : (q_4, ((0, v1) : BK)) ∈ xPl (xGrow xa q_4 ((0, v1) : BK)) := xGrow.mem
      have hsxa_5 : xSub xa xa_5 := by rw [exa_5]; exact xSub.grow
      rw [← exa_5] at hP hD hR hm_6
      have hU := xSub.tr hU hsxa_5
      obtain ⟨heq, heq2⟩ := ret_h heq
      subst heq
      subst heq2
      refine W.widen (k := 1) (n := 1) (by first | decide | omega) (by first | decide | omega) ?_
      exact hret 68 H locs ls xa_5 (some q_4) hR hU hP hD hS ⟨_, rfl, hm_6⟩ dX10_brickOf_68
    have heq := it_f c_3 heq
    by_cases c_7 : v0 = (1 : Int32)
    · have heq := it_t c_7 heq
      refine lv_tableIn (tgt := 69) hx hb dX10_brickOf_13 (by rw [c_7]; decide) (by rw [c_7]; decide) (by rw [c_7]; rfl) (by decide) ?_
      refine va_new (ci := 2) (fs := [.int 0]) (C := RX2) (T := TX2) (N := 1) hx hb hts hin2 tyX2 tyX2_ok hown hw5 hw6 hw7 hK hP hD hS hA rfl (fun j hj => by rcases (show j = 0 by omega) with rfl <;> rfl) (by show 0 + 1 ≤ 1; omega) (by show 0 + 1 ≤ 1; omega) dX10_brickOf_69 (fun q_8 H hP hD hS => ?_)
      refine lv_dup hx hb dX10_brickOf_72 rfl ?_
      refine lv_iload_n hx hb dX10_brickOf_73 rfl (lv_at hl 1 rfl) ?_
      refine x_init (own := RX10) (k := 1) (rest := [.ref q_8]) hx hb hml hown hts (okX2_init_2 z l D T q_8 0 v1) (cwI 1 hts gX10_brickOf_X2_init rfl rfl rfl hw7 hw8 hw9 rfl (by decide +kernel) ⟨Nat.le_of_ble_eq_true rfl, Nat.le_of_ble_eq_true rfl⟩) hK hA hX hP hD hS hl.1 (Nat.le_of_ble_eq_true rfl) dX10_brickOf_74 ⟨by show (0 + 1) + 0 ≤ 1; omega, by show (0 + 1) + 0 ≤ 1; omega⟩ (fun H locs hP hD hS => ?_)
      refine W.widen (k := (0 + 1)) (n := (0 + 1)) (Nat.le_refl _) (Nat.le_refl _) ?_
      obtain ⟨xa_9, exa_9⟩ : ∃ z, z = xGrow xa q_8 ((1, v1) : BK) := ⟨_, rfl⟩
      have hR : xRel b (xGrow xa q_8 ((1, v1) : BK)) xs := hR.grow (Nat.le_of_ble_eq_true rfl)
      have hm_10 : (q_8, ((1, v1) : BK)) ∈ xPl (xGrow xa q_8 ((1, v1) : BK)) := xGrow.mem
      have hsxa_9 : xSub xa xa_9 := by rw [exa_9]; exact xSub.grow
      rw [← exa_9] at hP hD hR hm_10
      have hU := xSub.tr hU hsxa_9
      obtain ⟨heq, heq2⟩ := ret_h heq
      subst heq
      subst heq2
      refine W.widen (k := 1) (n := 1) (by first | decide | omega) (by first | decide | omega) ?_
      exact hret 77 H locs ls xa_9 (some q_8) hR hU hP hD hS ⟨_, rfl, hm_10⟩ dX10_brickOf_77
    have heq := it_f c_7 heq
    by_cases c_11 : v0 = (2 : Int32)
    · have heq := it_t c_11 heq
      refine lv_tableIn (tgt := 78) hx hb dX10_brickOf_13 (by rw [c_11]; decide) (by rw [c_11]; decide) (by rw [c_11]; rfl) (by decide) ?_
      refine va_new (ci := 6) (fs := [.int 0]) (C := RX6) (T := TX6) (N := 1) hx hb hts hin6 tyX6 tyX6_ok hown hw10 hw11 hw12 hK hP hD hS hA rfl (fun j hj => by rcases (show j = 0 by omega) with rfl <;> rfl) (by show 0 + 1 ≤ 1; omega) (by show 0 + 1 ≤ 1; omega) dX10_brickOf_78 (fun q_12 H hP hD hS => ?_)
      refine lv_dup hx hb dX10_brickOf_81 rfl ?_
      refine lv_iload_n hx hb dX10_brickOf_82 rfl (lv_at hl 1 rfl) ?_
      refine x_init (own := RX10) (k := 2) (rest := [.ref q_12]) hx hb hml hown hts (okX6_init_6 z l D T q_12 0 v1) (cwI 1 hts gX10_brickOf_X6_init rfl rfl rfl hw12 hw13 hw14 rfl (by decide +kernel) ⟨Nat.le_of_ble_eq_true rfl, Nat.le_of_ble_eq_true rfl⟩) hK hA hX hP hD hS hl.1 (Nat.le_of_ble_eq_true rfl) dX10_brickOf_83 ⟨by show (0 + 1) + 0 ≤ 1; omega, by show (0 + 1) + 0 ≤ 1; omega⟩ (fun H locs hP hD hS => ?_)
      refine W.widen (k := (0 + 1)) (n := (0 + 1)) (Nat.le_refl _) (Nat.le_refl _) ?_
      obtain ⟨xa_13, exa_13⟩ : ∃ z, z = xGrow xa q_12 ((2, v1) : BK) := ⟨_, rfl⟩
      have hR : xRel b (xGrow xa q_12 ((2, v1) : BK)) xs := hR.grow (Nat.le_of_ble_eq_true rfl)
      have hm_14 : (q_12, ((2, v1) : BK)) ∈ xPl (xGrow xa q_12 ((2, v1) : BK)) := xGrow.mem
      have hsxa_13 : xSub xa xa_13 := by rw [exa_13]; exact xSub.grow
      rw [← exa_13] at hP hD hR hm_14
      have hU := xSub.tr hU hsxa_13
      obtain ⟨heq, heq2⟩ := ret_h heq
      subst heq
      subst heq2
      refine W.widen (k := 1) (n := 1) (by first | decide | omega) (by first | decide | omega) ?_
      exact hret 86 H locs ls xa_13 (some q_12) hR hU hP hD hS ⟨_, rfl, hm_14⟩ dX10_brickOf_86
    have heq := it_f c_11 heq
    by_cases c_15 : v0 = (3 : Int32)
    · have heq := it_t c_15 heq
      refine lv_tableIn (tgt := 87) hx hb dX10_brickOf_13 (by rw [c_15]; decide) (by rw [c_15]; decide) (by rw [c_15]; rfl) (by decide) ?_
      refine va_new (ci := 4) (fs := [.int 0]) (C := RX4) (T := TX4) (N := 1) hx hb hts hin4 tyX4 tyX4_ok hown hw15 hw16 hw17 hK hP hD hS hA rfl (fun j hj => by rcases (show j = 0 by omega) with rfl <;> rfl) (by show 0 + 1 ≤ 1; omega) (by show 0 + 1 ≤ 1; omega) dX10_brickOf_87 (fun q_16 H hP hD hS => ?_)
      refine lv_dup hx hb dX10_brickOf_90 rfl ?_
      refine lv_iload_n hx hb dX10_brickOf_91 rfl (lv_at hl 1 rfl) ?_
      refine x_init (own := RX10) (k := 3) (rest := [.ref q_16]) hx hb hml hown hts (okX4_init_4 z l D T q_16 0 v1) (cwI 1 hts gX10_brickOf_X4_init rfl rfl rfl hw17 hw18 hw19 rfl (by decide +kernel) ⟨Nat.le_of_ble_eq_true rfl, Nat.le_of_ble_eq_true rfl⟩) hK hA hX hP hD hS hl.1 (Nat.le_of_ble_eq_true rfl) dX10_brickOf_92 ⟨by show (0 + 1) + 0 ≤ 1; omega, by show (0 + 1) + 0 ≤ 1; omega⟩ (fun H locs hP hD hS => ?_)
      refine W.widen (k := (0 + 1)) (n := (0 + 1)) (Nat.le_refl _) (Nat.le_refl _) ?_
      obtain ⟨xa_17, exa_17⟩ : ∃ z, z = xGrow xa q_16 ((3, v1) : BK) := ⟨_, rfl⟩
      have hR : xRel b (xGrow xa q_16 ((3, v1) : BK)) xs := hR.grow (Nat.le_of_ble_eq_true rfl)
      have hm_18 : (q_16, ((3, v1) : BK)) ∈ xPl (xGrow xa q_16 ((3, v1) : BK)) := xGrow.mem
      have hsxa_17 : xSub xa xa_17 := by rw [exa_17]; exact xSub.grow
      rw [← exa_17] at hP hD hR hm_18
      have hU := xSub.tr hU hsxa_17
      obtain ⟨heq, heq2⟩ := ret_h heq
      subst heq
      subst heq2
      refine W.widen (k := 1) (n := 1) (by first | decide | omega) (by first | decide | omega) ?_
      exact hret 95 H locs ls xa_17 (some q_16) hR hU hP hD hS ⟨_, rfl, hm_18⟩ dX10_brickOf_95
    have heq := it_f c_15 heq
    by_cases c_19 : v0 = (4 : Int32)
    · have heq := it_t c_19 heq
      refine lv_tableIn (tgt := 96) hx hb dX10_brickOf_13 (by rw [c_19]; decide) (by rw [c_19]; decide) (by rw [c_19]; rfl) (by decide) ?_
      refine va_new (ci := 1) (fs := [.int 0]) (C := RX1) (T := TX1) (N := 1) hx hb hts hin1 tyX1 tyX1_ok hown hw20 hw21 hw22 hK hP hD hS hA rfl (fun j hj => by rcases (show j = 0 by omega) with rfl <;> rfl) (by show 0 + 1 ≤ 1; omega) (by show 0 + 1 ≤ 1; omega) dX10_brickOf_96 (fun q_20 H hP hD hS => ?_)
      refine lv_dup hx hb dX10_brickOf_99 rfl ?_
      refine lv_iload_n hx hb dX10_brickOf_100 rfl (lv_at hl 1 rfl) ?_
      refine x_init (own := RX10) (k := 4) (rest := [.ref q_20]) hx hb hml hown hts (okX1_init_1 z l D T q_20 0 v1) (cwI 1 hts gX10_brickOf_X1_init rfl rfl rfl hw22 hw23 hw24 rfl (by decide +kernel) ⟨Nat.le_of_ble_eq_true rfl, Nat.le_of_ble_eq_true rfl⟩) hK hA hX hP hD hS hl.1 (Nat.le_of_ble_eq_true rfl) dX10_brickOf_101 ⟨by show (0 + 1) + 0 ≤ 1; omega, by show (0 + 1) + 0 ≤ 1; omega⟩ (fun H locs hP hD hS => ?_)
      refine W.widen (k := (0 + 1)) (n := (0 + 1)) (Nat.le_refl _) (Nat.le_refl _) ?_
      obtain ⟨xa_21, exa_21⟩ : ∃ z, z = xGrow xa q_20 ((4, v1) : BK) := ⟨_, rfl⟩
      have hR : xRel b (xGrow xa q_20 ((4, v1) : BK)) xs := hR.grow (Nat.le_of_ble_eq_true rfl)
      have hm_22 : (q_20, ((4, v1) : BK)) ∈ xPl (xGrow xa q_20 ((4, v1) : BK)) := xGrow.mem
      have hsxa_21 : xSub xa xa_21 := by rw [exa_21]; exact xSub.grow
      rw [← exa_21] at hP hD hR hm_22
      have hU := xSub.tr hU hsxa_21
      obtain ⟨heq, heq2⟩ := ret_h heq
      subst heq
      subst heq2
      refine W.widen (k := 1) (n := 1) (by first | decide | omega) (by first | decide | omega) ?_
      exact hret 104 H locs ls xa_21 (some q_20) hR hU hP hD hS ⟨_, rfl, hm_22⟩ dX10_brickOf_104
    have heq := it_f c_19 heq
    by_cases c_23 : v0 = (5 : Int32)
    · have heq := it_t c_23 heq
      refine lv_tableIn (tgt := 105) hx hb dX10_brickOf_13 (by rw [c_23]; decide) (by rw [c_23]; decide) (by rw [c_23]; rfl) (by decide) ?_
      refine va_new (ci := 3) (fs := [.int 0]) (C := RX3) (T := TX3) (N := 1) hx hb hts hin3 tyX3 tyX3_ok hown hw25 hw26 hw27 hK hP hD hS hA rfl (fun j hj => by rcases (show j = 0 by omega) with rfl <;> rfl) (by show 0 + 1 ≤ 1; omega) (by show 0 + 1 ≤ 1; omega) dX10_brickOf_105 (fun q_24 H hP hD hS => ?_)
      refine lv_dup hx hb dX10_brickOf_108 rfl ?_
      refine lv_iload_n hx hb dX10_brickOf_109 rfl (lv_at hl 1 rfl) ?_
      refine x_init (own := RX10) (k := 5) (rest := [.ref q_24]) hx hb hml hown hts (okX3_init_3 z l D T q_24 0 v1) (cwI 1 hts gX10_brickOf_X3_init rfl rfl rfl hw27 hw28 hw29 rfl (by decide +kernel) ⟨Nat.le_of_ble_eq_true rfl, Nat.le_of_ble_eq_true rfl⟩) hK hA hX hP hD hS hl.1 (Nat.le_of_ble_eq_true rfl) dX10_brickOf_110 ⟨by show (0 + 1) + 0 ≤ 1; omega, by show (0 + 1) + 0 ≤ 1; omega⟩ (fun H locs hP hD hS => ?_)
      refine W.widen (k := (0 + 1)) (n := (0 + 1)) (Nat.le_refl _) (Nat.le_refl _) ?_
      obtain ⟨xa_25, exa_25⟩ : ∃ z, z = xGrow xa q_24 ((5, v1) : BK) := ⟨_, rfl⟩
      have hR : xRel b (xGrow xa q_24 ((5, v1) : BK)) xs := hR.grow (Nat.le_of_ble_eq_true rfl)
      have hm_26 : (q_24, ((5, v1) : BK)) ∈ xPl (xGrow xa q_24 ((5, v1) : BK)) := xGrow.mem
      have hsxa_25 : xSub xa xa_25 := by rw [exa_25]; exact xSub.grow
      rw [← exa_25] at hP hD hR hm_26
      have hU := xSub.tr hU hsxa_25
      obtain ⟨heq, heq2⟩ := ret_h heq
      subst heq
      subst heq2
      refine W.widen (k := 1) (n := 1) (by first | decide | omega) (by first | decide | omega) ?_
      exact hret 113 H locs ls xa_25 (some q_24) hR hU hP hD hS ⟨_, rfl, hm_26⟩ dX10_brickOf_113
    have heq := it_f c_23 heq
    by_cases c_27 : v0 = (6 : Int32)
    · have heq := it_t c_27 heq
      refine lv_tableIn (tgt := 114) hx hb dX10_brickOf_13 (by rw [c_27]; decide) (by rw [c_27]; decide) (by rw [c_27]; rfl) (by decide) ?_
      refine va_new (ci := 5) (fs := [.int 0]) (C := RX5) (T := TX5) (N := 1) hx hb hts hin5 tyX5 tyX5_ok hown hw30 hw31 hw32 hK hP hD hS hA rfl (fun j hj => by rcases (show j = 0 by omega) with rfl <;> rfl) (by show 0 + 1 ≤ 1; omega) (by show 0 + 1 ≤ 1; omega) dX10_brickOf_114 (fun q_28 H hP hD hS => ?_)
      refine lv_dup hx hb dX10_brickOf_117 rfl ?_
      refine lv_iload_n hx hb dX10_brickOf_118 rfl (lv_at hl 1 rfl) ?_
      refine x_init (own := RX10) (k := 6) (rest := [.ref q_28]) hx hb hml hown hts (okX5_init_5 z l D T q_28 0 v1) (cwI 1 hts gX10_brickOf_X5_init rfl rfl rfl hw32 hw33 hw34 rfl (by decide +kernel) ⟨Nat.le_of_ble_eq_true rfl, Nat.le_of_ble_eq_true rfl⟩) hK hA hX hP hD hS hl.1 (Nat.le_of_ble_eq_true rfl) dX10_brickOf_119 ⟨by show (0 + 1) + 0 ≤ 1; omega, by show (0 + 1) + 0 ≤ 1; omega⟩ (fun H locs hP hD hS => ?_)
      refine W.widen (k := (0 + 1)) (n := (0 + 1)) (Nat.le_refl _) (Nat.le_refl _) ?_
      obtain ⟨xa_29, exa_29⟩ : ∃ z, z = xGrow xa q_28 ((6, v1) : BK) := ⟨_, rfl⟩
      have hR : xRel b (xGrow xa q_28 ((6, v1) : BK)) xs := hR.grow (Nat.le_of_ble_eq_true rfl)
      have hm_30 : (q_28, ((6, v1) : BK)) ∈ xPl (xGrow xa q_28 ((6, v1) : BK)) := xGrow.mem
      have hsxa_29 : xSub xa xa_29 := by rw [exa_29]; exact xSub.grow
      rw [← exa_29] at hP hD hR hm_30
      have hU := xSub.tr hU hsxa_29
      obtain ⟨heq, heq2⟩ := ret_h heq
      subst heq
      subst heq2
      refine W.widen (k := 1) (n := 1) (by first | decide | omega) (by first | decide | omega) ?_
      exact hret 122 H locs ls xa_29 (some q_28) hR hU hP hD hS ⟨_, rfl, hm_30⟩ dX10_brickOf_122
    have heq := it_f c_27 heq
    by_cases c_31 : v0 = (7 : Int32)
    · have heq := it_t c_31 heq
      refine lv_tableIn (tgt := 123) hx hb dX10_brickOf_13 (by rw [c_31]; decide) (by rw [c_31]; decide) (by rw [c_31]; rfl) (by decide) ?_
      refine va_new (ci := 9) (fs := [.int 0]) (C := RX9) (T := TX9) (N := 1) hx hb hts hin9 tyX9 tyX9_ok hown hw35 hw36 hw37 hK hP hD hS hA rfl (fun j hj => by rcases (show j = 0 by omega) with rfl <;> rfl) (by show 0 + 1 ≤ 1; omega) (by show 0 + 1 ≤ 1; omega) dX10_brickOf_123 (fun q_32 H hP hD hS => ?_)
      refine lv_dup hx hb dX10_brickOf_126 rfl ?_
      refine lv_iload_n hx hb dX10_brickOf_127 rfl (lv_at hl 1 rfl) ?_
      refine x_init (own := RX10) (k := 7) (rest := [.ref q_32]) hx hb hml hown hts (okX9_init_9 z l D T q_32 0 v1) (cwI 1 hts gX10_brickOf_X9_init rfl rfl rfl hw37 hw38 hw39 rfl (by decide +kernel) ⟨Nat.le_of_ble_eq_true rfl, Nat.le_of_ble_eq_true rfl⟩) hK hA hX hP hD hS hl.1 (Nat.le_of_ble_eq_true rfl) dX10_brickOf_128 ⟨by show (0 + 1) + 0 ≤ 1; omega, by show (0 + 1) + 0 ≤ 1; omega⟩ (fun H locs hP hD hS => ?_)
      refine W.widen (k := (0 + 1)) (n := (0 + 1)) (Nat.le_refl _) (Nat.le_refl _) ?_
      obtain ⟨xa_33, exa_33⟩ : ∃ z, z = xGrow xa q_32 ((7, v1) : BK) := ⟨_, rfl⟩
      have hR : xRel b (xGrow xa q_32 ((7, v1) : BK)) xs := hR.grow (Nat.le_of_ble_eq_true rfl)
      have hm_34 : (q_32, ((7, v1) : BK)) ∈ xPl (xGrow xa q_32 ((7, v1) : BK)) := xGrow.mem
      have hsxa_33 : xSub xa xa_33 := by rw [exa_33]; exact xSub.grow
      rw [← exa_33] at hP hD hR hm_34
      have hU := xSub.tr hU hsxa_33
      obtain ⟨heq, heq2⟩ := ret_h heq
      subst heq
      subst heq2
      refine W.widen (k := 1) (n := 1) (by first | decide | omega) (by first | decide | omega) ?_
      exact hret 131 H locs ls xa_33 (some q_32) hR hU hP hD hS ⟨_, rfl, hm_34⟩ dX10_brickOf_131
    have heq := it_f c_31 heq
    refine lv_tableOut (tgt := 132) hx hb dX10_brickOf_13 (sw_out fun k h1 h2 => ?_) (by decide) ?_
    · rcases (show k = 0 ∨ k = 1 ∨ k = 2 ∨ k = 3 ∨ k = 4 ∨ k = 5 ∨ k = 6 ∨ k = 7 by omega) with rfl | rfl | rfl | rfl | rfl | rfl | rfl | rfl
      · exact c_3
      · exact c_7
      · exact c_11
      · exact c_15
      · exact c_19
      · exact c_23
      · exact c_27
      · exact c_31
    refine lv_null hx hb dX10_brickOf_132 ?_
    obtain ⟨heq, heq2⟩ := ret_h heq
    subst heq
    subst heq2
    refine W.widen (k := 1) (n := 1) (by first | decide | omega) (by first | decide | omega) ?_
    exact hret 133 H locs ls xa none hR hU hP hD hS rfl dX10_brickOf_133
  have heq := it_f c_2 heq
  exact b10 xs xa H locs ls hR hU hP hD hS (lv_sub hl [] rfl) heq
set_option maxRecDepth 20000 in
theorem ggX10_placesCell_X7_number : GoodIn wsX10_placesCell wsX7_number := goodIn_r _ [5, 6, 7, 8, 4, 9, 10, 11, 12, 13, 14, 152, 153] (by decide +kernel) (by decide +kernel)
set_option maxRecDepth 20000 in
theorem gX10_placesCell_X7_number : GoodIn wsX10_placesCell (wsV RX10 331 RX7 yX7_number wsX7_number) := goodIn_app (goodIn_of _ (by decide +kernel)) ggX10_placesCell_X7_number
set_option maxRecDepth 20000 in
theorem ggX10_placesCell_X10_brickOf : GoodIn wsX10_placesCell wsX10_brickOf := goodIn_r _ [18, 19, 20, 21, 22, 23, 24, 25, 26, 27, 28, 29, 30, 31, 32, 33, 34, 35, 36, 37, 38, 39, 40, 41, 42, 43, 44, 45, 46, 47, 48, 49, 50, 51, 52, 53, 54, 55, 56, 57, 58, 59, 60, 61, 62, 63, 64, 65, 66, 67, 68, 69, 70, 71, 72, 73, 74, 75, 76, 77, 154, 155, 156, 157, 158, 159, 160, 161] (by decide +kernel) (by decide +kernel)
set_option maxRecDepth 20000 in
theorem gX10_placesCell_X10_brickOf : GoodIn wsX10_placesCell (va_wsS RX10 271 yX10_brickOf wsX10_brickOf) := goodIn_app (goodIn_of _ (by decide +kernel)) ggX10_placesCell_X10_brickOf
set_option maxRecDepth 20000 in
theorem ggX10_placesCell_X10_isSide : GoodIn wsX10_placesCell wsX10_isSide := goodIn_r _ [80] (by decide +kernel) (by decide +kernel)
set_option maxRecDepth 20000 in
theorem gX10_placesCell_X10_isSide : GoodIn wsX10_placesCell (va_wsS RX10 80 yX10_isSide wsX10_isSide) := goodIn_app (goodIn_of _ (by decide +kernel)) ggX10_placesCell_X10_isSide
set_option maxRecDepth 20000 in
theorem ggX10_placesCell_X8_replace : GoodIn wsX10_placesCell wsX8_replace := goodIn_r _ [85, 86, 87, 88, 89, 90, 91, 21, 92, 93, 94, 95, 96, 97, 33, 98, 99, 100, 101, 102, 24, 103, 104, 105, 36, 106, 107, 108, 109, 110, 111, 112, 30, 113, 114, 115, 116, 117, 27, 118, 119, 120, 121, 122, 123, 124, 42, 125, 126, 127, 128, 129, 130, 131, 132, 133, 134, 135, 136, 137, 138, 139, 140, 141, 142, 143, 144, 145, 146, 39, 147, 148, 149, 150, 151, 162, 163, 164, 165, 166, 167, 168, 169, 170, 171, 154, 158, 155, 159, 157, 160, 156, 161] (by decide +kernel) (by decide +kernel)
set_option maxRecDepth 20000 in
theorem gX10_placesCell_X8_replace : GoodIn wsX10_placesCell (wsV RX10 180 RX8 yX8_replace wsX8_replace) := goodIn_app (goodIn_of _ (by decide +kernel)) ggX10_placesCell_X8_replace
theorem dX10_placesCell_0 : decode cX10_placesCell 0 = .ok (.aload_n 1, 1) := by decide +kernel
theorem dX10_placesCell_1 : decode cX10_placesCell 1 = .ok (.iload_n 2, 1) := by decide +kernel
theorem dX10_placesCell_2 : decode cX10_placesCell 2 = .ok (.iconst 1, 1) := by decide +kernel
theorem dX10_placesCell_3 : decode cX10_placesCell 3 = .ok (.iadd, 1) := by decide +kernel
theorem dX10_placesCell_4 : decode cX10_placesCell 4 = .ok (.iconst 2, 1) := by decide +kernel
theorem dX10_placesCell_5 : decode cX10_placesCell 5 = .ok (.invokevirtual 331, 3) := by decide +kernel
theorem dX10_placesCell_8 : decode cX10_placesCell 8 = .ok (.istore_n 3, 1) := by decide +kernel
theorem dX10_placesCell_9 : decode cX10_placesCell 9 = .ok (.aload_n 1, 1) := by decide +kernel
theorem dX10_placesCell_10 : decode cX10_placesCell 10 = .ok (.iload_n 2, 1) := by decide +kernel
theorem dX10_placesCell_11 : decode cX10_placesCell 11 = .ok (.iconst 3, 1) := by decide +kernel
theorem dX10_placesCell_12 : decode cX10_placesCell 12 = .ok (.iadd, 1) := by decide +kernel
theorem dX10_placesCell_13 : decode cX10_placesCell 13 = .ok (.iconst 1, 1) := by decide +kernel
theorem dX10_placesCell_14 : decode cX10_placesCell 14 = .ok (.invokevirtual 331, 3) := by decide +kernel
theorem dX10_placesCell_17 : decode cX10_placesCell 17 = .ok (.aload_n 1, 1) := by decide +kernel
theorem dX10_placesCell_18 : decode cX10_placesCell 18 = .ok (.iload_n 2, 1) := by decide +kernel
theorem dX10_placesCell_19 : decode cX10_placesCell 19 = .ok (.iconst 4, 1) := by decide +kernel
theorem dX10_placesCell_20 : decode cX10_placesCell 20 = .ok (.iadd, 1) := by decide +kernel
theorem dX10_placesCell_21 : decode cX10_placesCell 21 = .ok (.iconst 1, 1) := by decide +kernel
theorem dX10_placesCell_22 : decode cX10_placesCell 22 = .ok (.invokevirtual 331, 3) := by decide +kernel
theorem dX10_placesCell_25 : decode cX10_placesCell 25 = .ok (.invokestatic 271, 3) := by decide +kernel
theorem dX10_placesCell_28 : decode cX10_placesCell 28 = .ok (.astore 4, 2) := by decide +kernel
theorem dX10_placesCell_30 : decode cX10_placesCell 30 = .ok (.iload_n 3, 1) := by decide +kernel
theorem dX10_placesCell_31 : decode cX10_placesCell 31 = .ok (.invokestatic 80, 3) := by decide +kernel
theorem dX10_placesCell_34 : decode cX10_placesCell 34 = .ok (.ifCond .eq 8, 3) := by decide +kernel
theorem dX10_placesCell_37 : decode cX10_placesCell 37 = .ok (.aload 4, 2) := by decide +kernel
theorem dX10_placesCell_39 : decode cX10_placesCell 39 = .ok (.ifnonnull 5, 3) := by decide +kernel
theorem dX10_placesCell_42 : decode cX10_placesCell 42 = .ok (.iconst 0, 1) := by decide +kernel
theorem dX10_placesCell_43 : decode cX10_placesCell 43 = .ok (.ireturn, 1) := by decide +kernel
theorem dX10_placesCell_44 : decode cX10_placesCell 44 = .ok (.aload_n 0, 1) := by decide +kernel
theorem dX10_placesCell_45 : decode cX10_placesCell 45 = .ok (.iload_n 3, 1) := by decide +kernel
theorem dX10_placesCell_46 : decode cX10_placesCell 46 = .ok (.aload 4, 2) := by decide +kernel
theorem dX10_placesCell_48 : decode cX10_placesCell 48 = .ok (.invokevirtual 180, 3) := by decide +kernel
theorem dX10_placesCell_51 : decode cX10_placesCell 51 = .ok (.iconst 1, 1) := by decide +kernel
theorem dX10_placesCell_52 : decode cX10_placesCell 52 = .ok (.ireturn, 1) := by decide +kernel
/-! X10 placesCell -/
def X10_placesCell (xs : XS) (v1 : Nat) (v2 : Int32) : Option (Int32 × XS) :=
    bd1 (xR xs v1) fun rz_1 =>
    bnd (X7_number rz_1.1 rz_1.2 (v2 + (1 : Int32)) (2 : Int32)) fun y_3 st_4 =>
    nm (uR xs v1 (some (rz_1.1, st_4))) fun xs_6 =>
    bd1 (xR xs_6 v1) fun rz_7 =>
    bnd (X7_number rz_7.1 rz_7.2 (v2 + (3 : Int32)) (1 : Int32)) fun y_9 st_10 =>
    nm (uR xs_6 v1 (some (rz_7.1, st_10))) fun xs_12 =>
    bd1 (xR xs_12 v1) fun rz_13 =>
    bnd (X7_number rz_13.1 rz_13.2 (v2 + (4 : Int32)) (1 : Int32)) fun y_15 st_16 =>
    nm (uR xs_12 v1 (some (rz_13.1, st_16))) fun xs_18 =>
    bnd (X10_brickOf xs_18 y_9 y_15) fun y_19 xs_20 =>
    bd1 (X10_isSide y_3) fun y_24 =>
    if y_24 = 0 then
      (gz (0 : Int32) <|
      some ((0 : Int32), xs_20))
    else
    ob y_19
      (gz (0 : Int32) <|
      some ((0 : Int32), xs_20))
    fun k_28 =>
    bnd (X8_replace_1 xs_20 y_3 k_28) fun _ xs_33 =>
    gz (1 : Int32) <|
    some ((1 : Int32), xs_33)
abbrev rmX10_placesCell : Room := { frames := 5, cells := 1, slots := 1, locals := 96 }
theorem hdX10_placesCell : yX10_placesCell.cls = RX10 ∧ yX10_placesCell.cls ≠ "java/lang/invoke/MethodHandle" ∧ yX10_placesCell.cls ≠ "java/lang/invoke/VarHandle" ∧ (parseMethodDescriptor yX10_placesCell.desc).map (fun d => d.parameters.length) = some 3 := by decide +kernel
set_option maxRecDepth 100000 in
set_option maxHeartbeats 8000000 in
theorem okX10_placesCell (z : Nat → Nat) (l : Launch) (D : va_G) (T : mT3) (b : Nat → Nat) {xa : XA} {xs : XS} {v1 : Nat} {v2 : Int32} {r : Int32} {xs' : XS} (hR : xRel b xa xs) (v1h : v1 < 8) (heq : X10_placesCell xs v1 v2 = some (r, xs')) : hXi xSub z l D T b yX10_placesCell wsX10_placesCell rmX10_placesCell [.ref (b 10), .ref (xRa xa v1 0), .int v2] xa xs r xs' := by
  refine xbody_i (plainFor_of_name (by decide)) rfl (Nat.le_of_ble_eq_true rfl) (fun p e s m args below meth c A Q hx hb hml hown hts hK hA hX hret ls hP hD hS hl => ?_)
  have hl : lv_has ls 5 [(0, .ref (b 10)), (1, .ref (xRa xa v1 0)), (2, .int v2)] := hl
  obtain ⟨xa0, hxa0⟩ : ∃ z : XA, z = xa := ⟨_, rfl⟩
  rw [← hxa0] at hret
  have hU : xSub xa0 xa := by rw [hxa0]; exact xSub.rf
  clear hxa0
  obtain ⟨H, hH⟩ : ∃ H, H = s.heap := ⟨_, rfl⟩
  obtain ⟨locs, hlocs⟩ : ∃ z : List Loc, z = [] := ⟨_, rfl⟩
  have hS : va_S A s.heap H locs := by rw [hH, hlocs]; exact hS
  have hP : va_P D vwCl (xW b T xa xs) H := by rw [hH]; exact hP
  suffices h9 : W p l e rmX10_placesCell s m args below meth c H locs 0 0 Q (F0 m 0 ls []) by rw [hH, hlocs] at h9; exact h9
  clear hH hlocs
  unfold X10_placesCell at heq
  refine lv_aload_n hx hb dX10_placesCell_0 rfl (lv_at hl 1 rfl) ?_
  refine lv_iload_n hx hb dX10_placesCell_1 rfl (lv_at hl 2 rfl) ?_
  refine lv_iconst (v := (1 : Int32)) hx hb dX10_placesCell_2 (by decide) ?_
  refine lv_iadd hx hb dX10_placesCell_3 ?_
  refine lv_iconst (v := (2 : Int32)) hx hb dX10_placesCell_4 (by decide) ?_
  obtain ⟨rz_1, hz_2, heq⟩ := bd1_h heq
  obtain ⟨y_3, st_4, h_5, heq⟩ := bnd_h heq
  refine h_vi (own := RX10) (As := [.int (v2 + (1 : Int32)), .int (2 : Int32)]) (rest := []) (wr := xWrR b T xa xs v1) hx hb hml hown hts (okX7_number z l D (xRa xa v1) T h_5) (cwV 2 hts gX10_placesCell_X7_number rfl rfl rfl hdX7_number ⟨Nat.le_of_ble_eq_true rfl, Nat.le_of_ble_eq_true rfl⟩) hK hA hX hP hD hS (xpR b T xa xs v1h hz_2) (xqR b T xa xs v1h _ _) (ci := 7) (q0 := 0) rfl rfl rfl hl.1 rfl (Nat.le_of_ble_eq_true rfl) dX10_placesCell_5 ⟨by show 0 + 0 ≤ 1; omega, by show 0 + 0 ≤ 1; omega⟩ (fun H locs hP hD hS => ?_)
  obtain ⟨xs_6, exs_6⟩ : ∃ z, z = uR xs v1 (some (rz_1.1, st_4)) := ⟨_, rfl⟩
  refine W.widen (k := 0) (n := 0) (Nat.le_refl _) (Nat.le_refl _) ?_
  have hR : xRel b xa (uR xs v1 (some (rz_1.1, st_4))) := hR.uR hz_2
  rw [← exs_6] at hP hD hR
  have heq := nm_h exs_6 heq
  refine lv_istore_n (lv' := [(3, .int y_3), (0, .ref (b 10)), (1, .ref (xRa xa v1 0)), (2, .int v2)]) hx hb dX10_placesCell_8 rfl hl (by decide) rfl (fun ls hl => ?_)
  refine lv_aload_n hx hb dX10_placesCell_9 rfl (lv_at hl 2 rfl) ?_
  refine lv_iload_n hx hb dX10_placesCell_10 rfl (lv_at hl 3 rfl) ?_
  refine lv_iconst (v := (3 : Int32)) hx hb dX10_placesCell_11 (by decide) ?_
  refine lv_iadd hx hb dX10_placesCell_12 ?_
  refine lv_iconst (v := (1 : Int32)) hx hb dX10_placesCell_13 (by decide) ?_
  obtain ⟨rz_7, hz_8, heq⟩ := bd1_h heq
  obtain ⟨y_9, st_10, h_11, heq⟩ := bnd_h heq
  refine h_vi (own := RX10) (As := [.int (v2 + (3 : Int32)), .int (1 : Int32)]) (rest := []) (wr := xWrR b T xa xs_6 v1) hx hb hml hown hts (okX7_number z l D (xRa xa v1) T h_11) (cwV 2 hts gX10_placesCell_X7_number rfl rfl rfl hdX7_number ⟨Nat.le_of_ble_eq_true rfl, Nat.le_of_ble_eq_true rfl⟩) hK hA hX hP hD hS (xpR b T xa xs_6 v1h hz_8) (xqR b T xa xs_6 v1h _ _) (ci := 7) (q0 := 0) rfl rfl rfl hl.1 rfl (Nat.le_of_ble_eq_true rfl) dX10_placesCell_14 ⟨by show 0 + 0 ≤ 1; omega, by show 0 + 0 ≤ 1; omega⟩ (fun H locs hP hD hS => ?_)
  obtain ⟨xs_12, exs_12⟩ : ∃ z, z = uR xs_6 v1 (some (rz_7.1, st_10)) := ⟨_, rfl⟩
  refine W.widen (k := 0) (n := 0) (Nat.le_refl _) (Nat.le_refl _) ?_
  have hR : xRel b xa (uR xs_6 v1 (some (rz_7.1, st_10))) := hR.uR hz_8
  rw [← exs_12] at hP hD hR
  have heq := nm_h exs_12 heq
  refine lv_aload_n hx hb dX10_placesCell_17 rfl (lv_at hl 2 rfl) ?_
  refine lv_iload_n hx hb dX10_placesCell_18 rfl (lv_at hl 3 rfl) ?_
  refine lv_iconst (v := (4 : Int32)) hx hb dX10_placesCell_19 (by decide) ?_
  refine lv_iadd hx hb dX10_placesCell_20 ?_
  refine lv_iconst (v := (1 : Int32)) hx hb dX10_placesCell_21 (by decide) ?_
  obtain ⟨rz_13, hz_14, heq⟩ := bd1_h heq
  obtain ⟨y_15, st_16, h_17, heq⟩ := bnd_h heq
  refine h_vi (own := RX10) (As := [.int (v2 + (4 : Int32)), .int (1 : Int32)]) (rest := [.int y_9]) (wr := xWrR b T xa xs_12 v1) hx hb hml hown hts (okX7_number z l D (xRa xa v1) T h_17) (cwV 2 hts gX10_placesCell_X7_number rfl rfl rfl hdX7_number ⟨Nat.le_of_ble_eq_true rfl, Nat.le_of_ble_eq_true rfl⟩) hK hA hX hP hD hS (xpR b T xa xs_12 v1h hz_14) (xqR b T xa xs_12 v1h _ _) (ci := 7) (q0 := 0) rfl rfl rfl hl.1 rfl (Nat.le_of_ble_eq_true rfl) dX10_placesCell_22 ⟨by show 0 + 0 ≤ 1; omega, by show 0 + 0 ≤ 1; omega⟩ (fun H locs hP hD hS => ?_)
  obtain ⟨xs_18, exs_18⟩ : ∃ z, z = uR xs_12 v1 (some (rz_13.1, st_16)) := ⟨_, rfl⟩
  refine W.widen (k := 0) (n := 0) (Nat.le_refl _) (Nat.le_refl _) ?_
  have hR : xRel b xa (uR xs_12 v1 (some (rz_13.1, st_16))) := hR.uR hz_14
  rw [← exs_18] at hP hD hR
  have heq := nm_h exs_18 heq
  obtain ⟨y_19, xs_20, h_21, heq⟩ := bnd_h heq
  refine x_sb (own := RX10) (As := [.int y_9, .int y_15]) (rest := []) hx hb hml hown hts (okX10_brickOf z l D T b hR h_21) (va_cwS 2 hts gX10_placesCell_X10_brickOf rfl rfl rfl (hdX10_brickOf).2 ⟨Nat.le_of_ble_eq_true rfl, Nat.le_of_ble_eq_true rfl⟩) hK hA hX hP hD hS rfl hl.1 rfl (Nat.le_of_ble_eq_true rfl) dX10_placesCell_25 ⟨by show 0 + 1 ≤ 1; omega, by show 0 + 1 ≤ 1; omega⟩ (fun xa_22 H locs o_23 hR hsxa_22 ho_23 hP hD hS => ?_)
  refine W.widen (k := (0 + 1)) (n := (0 + 1)) (Nat.le_refl _) (Nat.le_refl _) ?_
  have hU := xSub.tr hU hsxa_22
  have hl : lv_has ls 5 [(3, .int y_3), (0, .ref (b 10)), (1, .ref (xRa xa_22 v1 0)), (2, .int v2)] := by rw [hsxa_22.2.2]; exact hl
  refine lv_astoreQ (lv' := [(4, va_rf o_23), (3, .int y_3), (0, .ref (b 10)), (1, .ref (xRa xa_22 v1 0)), (2, .int v2)]) hx hb dX10_placesCell_28 hl (by decide) rfl (fun ls hl => ?_)
  refine lv_iload_n hx hb dX10_placesCell_30 rfl (lv_at hl 1 rfl) ?_
  obtain ⟨y_24, h_25, heq⟩ := bd1_h heq
  refine h_si (own := RX10) (As := [.int y_3]) (rest := []) (w0 := []) (w1 := []) (wr := xW b T xa_22 xs_20) hx hb hml hown hts (okX10_isSide z l D h_25) (va_cwS 1 hts gX10_placesCell_X10_isSide rfl rfl rfl (hdX10_isSide).2 ⟨Nat.le_of_ble_eq_true rfl, Nat.le_of_ble_eq_true rfl⟩) (hK.sub [] rfl) hA hX hP hD hS (List.Perm.refl _) (List.Perm.refl _) rfl hl.1 rfl (Nat.le_of_ble_eq_true rfl) dX10_placesCell_31 ⟨by show (0 + 1) + 0 ≤ 1; omega, by show (0 + 1) + 0 ≤ 1; omega⟩ (fun H locs hP hD hS => ?_)
  refine W.widen (k := (0 + 1)) (n := (0 + 1)) (Nat.le_refl _) (Nat.le_refl _) ?_
  refine lv_if_eq (tgt := 42) hx hb dX10_placesCell_34 (by decide) (fun c_26 => ?_) (fun c_26 => ?_)
  · have heq := it_t c_26 heq
    refine lv_iconst (v := (0 : Int32)) hx hb dX10_placesCell_42 (by decide) ?_
    obtain ⟨n_27, _, heq⟩ := gz_h heq
    obtain ⟨heq, heq2⟩ := ret_h heq
    subst heq
    subst heq2
    refine W.widen (k := 1) (n := 1) (by first | decide | omega) (by first | decide | omega) ?_
    exact hret 43 H locs ls xa_22 hR hU hP hD hS n_27 dX10_placesCell_43
  have heq := it_f c_26 heq
  refine lv_aloadQ (r := o_23) hx hb dX10_placesCell_37 (lv_at hl 0 rfl) ?_
  rcases obB_h ho_23 heq with ⟨h_29, heq⟩ | ⟨k_28, ⟨q_30, h_29, h_31⟩, heq⟩
  · rw [h_29] at hl ⊢
    have hl : lv_has ls 5 [(4, .null), (3, .int y_3), (0, .ref (b 10)), (1, .ref (xRa xa_22 v1 0)), (2, .int v2)] := hl
    refine lv_ifnonnullN hx hb dX10_placesCell_39 ?_
    refine lv_iconst (v := (0 : Int32)) hx hb dX10_placesCell_42 (by decide) ?_
    obtain ⟨n_32, _, heq⟩ := gz_h heq
    obtain ⟨heq, heq2⟩ := ret_h heq
    subst heq
    subst heq2
    refine W.widen (k := 1) (n := 1) (by first | decide | omega) (by first | decide | omega) ?_
    exact hret 43 H locs ls xa_22 hR hU hP hD hS n_32 dX10_placesCell_43
  rw [h_29] at hl ⊢
  have hl : lv_has ls 5 [(4, .ref q_30), (3, .int y_3), (0, .ref (b 10)), (1, .ref (xRa xa_22 v1 0)), (2, .int v2)] := hl
  refine lv_ifnonnull (tgt := 44) hx hb dX10_placesCell_39 (by decide) ?_
  refine lv_aload_n hx hb dX10_placesCell_44 rfl (lv_at hl 2 rfl) ?_
  refine lv_iload_n hx hb dX10_placesCell_45 rfl (lv_at hl 1 rfl) ?_
  refine lv_aload hx hb dX10_placesCell_46 (lv_at hl 0 rfl) ?_
  obtain ⟨⟨⟩, xs_33, h_34, heq⟩ := bnd_h heq
  refine x_vv (own := RX10) (As := [.int y_3, .ref q_30]) (rest := []) hx hb hml hown hts (okX8_replace_1 z l D T b hR h_31 h_34) (cwV 2 hts gX10_placesCell_X8_replace rfl rfl rfl hdX8_replace ⟨Nat.le_of_ble_eq_true rfl, Nat.le_of_ble_eq_true rfl⟩) hK hA hX hP hD hS (ci := 8) (q0 := 10) rfl rfl rfl hl.1 rfl (Nat.le_of_ble_eq_true rfl) dX10_placesCell_48 ⟨by show (0 + 1) + 0 ≤ 1; omega, by show (0 + 1) + 0 ≤ 1; omega⟩ (fun xa_35 H locs hR hsxa_35 hP hD hS => ?_)
  refine W.widen (k := (0 + 1)) (n := (0 + 1)) (Nat.le_refl _) (Nat.le_refl _) ?_
  have hU := xSub.tr hU hsxa_35
  have hl : lv_has ls 5 [(4, .ref q_30), (3, .int y_3), (0, .ref (b 10)), (1, .ref (xRa xa_35 v1 0)), (2, .int v2)] := by rw [hsxa_35.2.2]; exact hl
  refine lv_iconst (v := (1 : Int32)) hx hb dX10_placesCell_51 (by decide) ?_
  obtain ⟨n_37, _, heq⟩ := gz_h heq
  obtain ⟨heq, heq2⟩ := ret_h heq
  subst heq
  subst heq2
  refine W.widen (k := 1) (n := 1) (by first | decide | omega) (by first | decide | omega) ?_
  exact hret 52 H locs ls xa_35 hR hU hP hD hS n_37 dX10_placesCell_52
