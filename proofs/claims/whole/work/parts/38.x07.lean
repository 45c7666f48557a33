set_option maxRecDepth 20000 in
theorem ggX10_forged_X10_rowOn : GoodIn wsX10_forged wsX10_rowOn := goodIn_r _ [11, 12, 13, 14, 10, 15, 92, 93, 94, 95, 96, 97, 98] (by decide +kernel) (by decide +kernel)
set_option maxRecDepth 20000 in
theorem gX10_forged_X10_rowOn : GoodIn wsX10_forged (wsV RX10 43 RX10 yX10_rowOn wsX10_rowOn) := goodIn_app (goodIn_of _ (by decide +kernel)) ggX10_forged_X10_rowOn
set_option maxRecDepth 20000 in
theorem ggX10_forged_X10_refusal : GoodIn wsX10_forged wsX10_refusal := goodIn_r _ [19, 13, 14, 10, 15, 20, 21, 22, 23, 24, 12, 92, 93, 94, 95, 96, 97, 98] (by decide +kernel) (by decide +kernel)
set_option maxRecDepth 20000 in
theorem gX10_forged_X10_refusal : GoodIn wsX10_forged (wsV RX10 47 RX10 yX10_refusal wsX10_refusal) := goodIn_app (goodIn_of _ (by decide +kernel)) ggX10_forged_X10_refusal
set_option maxRecDepth 20000 in
theorem ggX10_forged_X7_size : GoodIn wsX10_forged wsX7_size := goodIn_r _ [29, 30, 109, 110] (by decide +kernel) (by decide +kernel)
set_option maxRecDepth 20000 in
theorem gX10_forged_X7_size : GoodIn wsX10_forged (wsV RX10 63 RX7 yX7_size wsX7_size) := goodIn_app (goodIn_of _ (by decide +kernel)) ggX10_forged_X7_size
set_option maxRecDepth 20000 in
theorem ggX10_forged_X10_firstNotSo : GoodIn wsX10_forged wsX10_firstNotSo := goodIn_r _ [34, 1, 35, 36, 37, 38, 39, 40, 41, 42, 43, 44, 45, 46, 47, 48, 49, 50, 5, 51, 52, 53, 54, 55, 56, 57, 58, 59, 60, 10, 61, 62, 63, 64, 65, 66, 67, 68, 69, 70, 71, 72, 73, 74, 75, 76, 77, 25, 26, 27, 28, 29, 30, 78, 79, 80, 81, 82, 83, 84, 85, 86, 87, 88, 89, 90, 91, 92, 93, 94, 95, 96, 97, 98, 99, 100, 101, 102, 103, 104, 105, 106, 107, 108, 109, 110] (by decide +kernel) (by decide +kernel)
set_option maxRecDepth 20000 in
theorem gX10_forged_X10_firstNotSo : GoodIn wsX10_forged (wsV RX10 246 RX10 yX10_firstNotSo wsX10_firstNotSo) := goodIn_app (goodIn_of _ (by decide +kernel)) ggX10_forged_X10_firstNotSo
theorem dX10_forged_0 : decode cX10_forged 0 = .ok (.aload_n 0, 1) := by decide +kernel
theorem dX10_forged_1 : decode cX10_forged 1 = .ok (.iload_n 1, 1) := by decide +kernel
theorem dX10_forged_2 : decode cX10_forged 2 = .ok (.invokevirtual 43, 3) := by decide +kernel
theorem dX10_forged_5 : decode cX10_forged 5 = .ok (.astore_n 2, 1) := by decide +kernel
theorem dX10_forged_6 : decode cX10_forged 6 = .ok (.aload_n 2, 1) := by decide +kernel
theorem dX10_forged_7 : decode cX10_forged 7 = .ok (.ifnonnull 9, 3) := by decide +kernel
theorem dX10_forged_10 : decode cX10_forged 10 = .ok (.aload_n 0, 1) := by decide +kernel
theorem dX10_forged_11 : decode cX10_forged 11 = .ok (.iload_n 1, 1) := by decide +kernel
theorem dX10_forged_12 : decode cX10_forged 12 = .ok (.invokevirtual 47, 3) := by decide +kernel
theorem dX10_forged_15 : decode cX10_forged 15 = .ok (.ireturn, 1) := by decide +kernel
theorem dX10_forged_16 : decode cX10_forged 16 = .ok (.aload_n 2, 1) := by decide +kernel
theorem dX10_forged_17 : decode cX10_forged 17 = .ok (.invokevirtual 63, 3) := by decide +kernel
theorem dX10_forged_20 : decode cX10_forged 20 = .ok (.aload_n 0, 1) := by decide +kernel
theorem dX10_forged_21 : decode cX10_forged 21 = .ok (.getfield 10, 3) := by decide +kernel
theorem dX10_forged_24 : decode cX10_forged 24 = .ok (.getfield 126, 3) := by decide +kernel
theorem dX10_forged_27 : decode cX10_forged 27 = .ok (.if_icmp .le 6, 3) := by decide +kernel
theorem dX10_forged_30 : decode cX10_forged 30 = .ok (.bipush (-13), 2) := by decide +kernel
theorem dX10_forged_32 : decode cX10_forged 32 = .ok (.ireturn, 1) := by decide +kernel
theorem dX10_forged_33 : decode cX10_forged 33 = .ok (.iconst 0, 1) := by decide +kernel
theorem dX10_forged_34 : decode cX10_forged 34 = .ok (.istore_n 3, 1) := by decide +kernel
theorem dX10_forged_35 : decode cX10_forged 35 = .ok (.iconst 0, 1) := by decide +kernel
theorem dX10_forged_36 : decode cX10_forged 36 = .ok (.istore 4, 2) := by decide +kernel
theorem dX10_forged_38 : decode cX10_forged 38 = .ok (.iload 4, 2) := by decide +kernel
theorem dX10_forged_40 : decode cX10_forged 40 = .ok (.bipush 12, 2) := by decide +kernel
theorem dX10_forged_42 : decode cX10_forged 42 = .ok (.if_icmp .ge 21, 3) := by decide +kernel
theorem dX10_forged_45 : decode cX10_forged 45 = .ok (.iload_n 3, 1) := by decide +kernel
theorem dX10_forged_46 : decode cX10_forged 46 = .ok (.aload_n 0, 1) := by decide +kernel
theorem dX10_forged_47 : decode cX10_forged 47 = .ok (.aload_n 2, 1) := by decide +kernel
theorem dX10_forged_48 : decode cX10_forged 48 = .ok (.iload 4, 2) := by decide +kernel
theorem dX10_forged_50 : decode cX10_forged 50 = .ok (.invokevirtual 246, 3) := by decide +kernel
theorem dX10_forged_53 : decode cX10_forged 53 = .ok (.invokestatic 238, 3) := by decide +kernel
theorem dX10_forged_56 : decode cX10_forged 56 = .ok (.istore_n 3, 1) := by decide +kernel
theorem dX10_forged_57 : decode cX10_forged 57 = .ok (.iinc 4 1, 3) := by decide +kernel
theorem dX10_forged_60 : decode cX10_forged 60 = .ok (.goto (-22), 3) := by decide +kernel
theorem dX10_forged_63 : decode cX10_forged 63 = .ok (.iload_n 3, 1) := by decide +kernel
theorem dX10_forged_64 : decode cX10_forged 64 = .ok (.aload_n 2, 1) := by decide +kernel
theorem dX10_forged_65 : decode cX10_forged 65 = .ok (.invokevirtual 63, 3) := by decide +kernel
theorem dX10_forged_68 : decode cX10_forged 68 = .ok (.if_icmp .ne 8, 3) := by decide +kernel
theorem dX10_forged_71 : decode cX10_forged 71 = .ok (.bipush (-4), 2) := by decide +kernel
theorem dX10_forged_73 : decode cX10_forged 73 = .ok (.goto 4, 3) := by decide +kernel
theorem dX10_forged_76 : decode cX10_forged 76 = .ok (.iload_n 3, 1) := by decide +kernel
theorem dX10_forged_77 : decode cX10_forged 77 = .ok (.ireturn, 1) := by decide +kernel
/-! X10 forged -/
def X10_forged_p77 (xs : XS) (t0 : Int32) : Option (Int32 × XS) :=
    some (t0, xs)
def X10_forged_p63 (xs : XS) (v2 : Nat) (v3 : Int32) : Option (Int32 × XS) :=
    bd1 (xR xs v2) fun rz_1 =>
    bnd (X7_size rz_1.1 rz_1.2) fun y_3 st_4 =>
    nm (uR xs v2 (some (rz_1.1, st_4))) fun xs_6 =>
    if v3 = y_3 then
      (X10_forged_p77 xs_6 (-4 : Int32))
    else
    X10_forged_p77 xs_6 v3
def X10_forged_p38 : Nat → XS → Nat → Int32 → Int32 → Option (Int32 × XS)
  | 0, _, _, _, _ => none
  | n + 1, xs, v2, v3, v4 =>
    if (12 : Int32) ≤ v4 then
      (X10_forged_p63 xs v2 v3)
    else
    bnd (X10_firstNotSo xs v2 v4) fun y_9 xs_10 =>
    nm (if v3 < y_9 then y_9 else v3) fun x_14 =>
    nm (v4 + (1 : Int32)) fun x_15 =>
    X10_forged_p38 n xs_10 v2 x_14 x_15
theorem X10_forged_p38_s (n : Nat) (xs : XS) (v2 : Nat) (v3 : Int32) (v4 : Int32) : X10_forged_p38 (n + 1) xs v2 v3 v4 =
    (if (12 : Int32) ≤ v4 then
      (X10_forged_p63 xs v2 v3)
    else
    bnd (X10_firstNotSo xs v2 v4) fun y_9 xs_10 =>
    nm (if v3 < y_9 then y_9 else v3) fun x_14 =>
    nm (v4 + (1 : Int32)) fun x_15 =>
    X10_forged_p38 n xs_10 v2 x_14 x_15) := rfl
def X10_forged (xs : XS) (v1 : Int32) : Option (Int32 × XS) :=
    bnd (X10_rowOn xs v1) fun y_16 xs_17 =>
    ob y_16
      (bnd (X10_refusal xs_17 v1) fun y_25 xs_26 =>
      some (y_25, xs_26))
    fun k_21 =>
    bd1 (xR xs_17 k_21) fun rz_30 =>
    bnd (X7_size rz_30.1 rz_30.2) fun y_32 st_33 =>
    nm (uR xs_17 k_21 (some (rz_30.1, st_33))) fun xs_35 =>
    if y_32 ≤ (gF (xT xs_35 0) 6) then
      (X10_forged_p38 13 xs_35 k_21 (0 : Int32) (0 : Int32))
    else
    some ((-13 : Int32), xs_35)
abbrev rmX10_forged : Room := { frames := 6, cells := 0, slots := 0, locals := 138 }
theorem hdX10_forged : yX10_forged.cls = RX10 ∧ yX10_forged.cls ≠ "java/lang/invoke/MethodHandle" ∧ yX10_forged.cls ≠ "java/lang/invoke/VarHandle" ∧ (parseMethodDescriptor yX10_forged.desc).map (fun d => d.parameters.length) = some 1 := by decide +kernel
set_option maxRecDepth 100000 in
set_option maxHeartbeats 8000000 in
theorem okX10_forged (z : Nat → Nat) (l : Launch) (D : va_G) (T : mT3) (b : Nat → Nat) {xa : XA} {xs : XS} {v1 : Int32} {r : Int32} {xs' : XS} (hR : xRel b xa xs) (heq : X10_forged xs v1 = some (r, xs')) : hXi xSub z l D T b yX10_forged wsX10_forged rmX10_forged [.ref (b 0), .int v1] xa xs r xs' := by
  refine xbody_i (plainFor_of_name (by decide)) rfl (Nat.le_of_ble_eq_true rfl) (fun p e s m args below meth c A Q hx hb hml hown hts hK hA hX hret ls hP hD hS hl => ?_)
  have hl : lv_has ls 5 [(0, .ref (b 0)), (1, .int v1)] := hl
  have hin10 : ∀ w ∈ wsX100, w ∈ wsX10_forged := by decide +kernel
  have hin8 : ∀ w ∈ wsX80, w ∈ wsX10_forged := by decide +kernel
  have f10 : (Cond.fieldLink RX10 10 RX10 (TX10 0).2.1 (TX10 0).2.2.1).before args s = true := hts (.fieldLink RX10 10 RX10 "now" "LLaidDownTheLane$Town;") (by decide +kernel)
  have f126 : (Cond.fieldLink RX10 126 RX8 (TX8 6).2.1 (TX8 6).2.2.1).before args s = true := hts (.fieldLink RX10 126 RX8 "houses" "I") (by decide +kernel)
  have m238_0 := hts (.methodLink RX10 238 Lib.Math.max.name) (by decide +kernel)
  have m238_1 := hts (.static Lib.Math.max.name) (by decide +kernel)
  have m238_2 := hts (.initialized "java/lang/Math") (by decide +kernel)
  have m238_3 := hts (.code Lib.Math.max.name Lib.Math.max.code 2 (some .int)) (by decide +kernel)
  obtain ⟨xa0, hxa0⟩ : ∃ z : XA, z = xa := ⟨_, rfl⟩
  rw [← hxa0] at hret
  have hU : xSub xa0 xa := by rw [hxa0]; exact xSub.rf
  clear hxa0
  have b77 : ∀ (xs : XS) (t0 : Int32) (xa : XA) (H : Heap) (locs : List Loc) (ls : Array Slot), xRel b xa xs → xSub xa0 xa → va_P D vwCl (xW b T xa xs) H → va_D A (xW b T xa xs) → va_S A s.heap H locs → lv_has ls 5 [] → X10_forged_p77 xs t0 = some (r, xs') → W p l e rmX10_forged s m args below meth c H locs 0 0 Q (F0 m 77 ls [.int t0]) := by
    intro xs t0 xa H locs ls hR hU hP hD hS hl heq
    unfold X10_forged_p77 at heq
    obtain ⟨heq, heq2⟩ := ret_h heq
    subst heq
    subst heq2
    exact hret 77 H locs ls xa hR hU hP hD hS rfl dX10_forged_77
  have b63 : ∀ (xs : XS) (v2 : Nat) (v3 : Int32) (xa : XA) (v2h : v2 < 8) (H : Heap) (locs : List Loc) (ls : Array Slot), xRel b xa xs → xSub xa0 xa → va_P D vwCl (xW b T xa xs) H → va_D A (xW b T xa xs) → va_S A s.heap H locs → lv_has ls 5 [(2, .ref (xRa xa v2 0)), (3, .int v3)] → X10_forged_p63 xs v2 v3 = some (r, xs') → W p l e rmX10_forged s m args below meth c H locs 0 0 Q (F0 m 63 ls []) := by
    intro xs v2 v3 xa v2h H locs ls hR hU hP hD hS hl heq
    unfold X10_forged_p63 at heq
    refine lv_iload_n hx hb dX10_forged_63 rfl (lv_at hl 1 rfl) ?_
    refine lv_aload_n hx hb dX10_forged_64 rfl (lv_at hl 0 rfl) ?_
    obtain ⟨rz_1, hz_2, heq⟩ := bd1_h heq
    obtain ⟨y_3, st_4, h_5, heq⟩ := bnd_h heq
    refine h_vi (own := RX10) (As := []) (rest := [.int v3]) (wr := xWrR b T xa xs v2) hx hb hml hown hts (okX7_size z l D (xRa xa v2) T h_5) (cwV 0 hts gX10_forged_X7_size rfl rfl rfl hdX7_size ⟨Nat.le_of_ble_eq_true rfl, Nat.le_of_ble_eq_true rfl⟩) hK hA hX hP hD hS (xpR b T xa xs v2h hz_2) (xqR b T xa xs v2h _ _) (ci := 7) (q0 := 0) rfl rfl rfl hl.1 rfl (Nat.le_of_ble_eq_true rfl) dX10_forged_65 ⟨Nat.le_of_ble_eq_true rfl, Nat.le_of_ble_eq_true rfl⟩ (fun H locs hP hD hS => ?_)
    obtain ⟨xs_6, exs_6⟩ : ∃ z, z = uR xs v2 (some (rz_1.1, st_4)) := ⟨_, rfl⟩
    have hR : xRel b xa (uR xs v2 (some (rz_1.1, st_4))) := hR.uR hz_2
    rw [← exs_6] at hP hD hR
    have heq := nm_h exs_6 heq
    refine lv_icmp_ne (tgt := 76) hx hb dX10_forged_68 (by decide) (fun c_7 => ?_) (fun c_7 => ?_)
    · have heq := it_f c_7 heq
      refine lv_iload_n hx hb dX10_forged_76 rfl (lv_at hl 1 rfl) ?_
      exact b77 xs_6 v3 xa H locs ls hR hU hP hD hS (lv_sub hl [] rfl) heq
    have heq := it_t c_7 heq
    refine lv_bipush (v := (-4 : Int32)) hx hb dX10_forged_71 (by decide) ?_
    refine lv_goto (tgt := 77) hx hb dX10_forged_73 (by decide) ?_
    exact b77 xs_6 (-4 : Int32) xa H locs ls hR hU hP hD hS (lv_sub hl [] rfl) heq
  have b38 : ∀ (n : Nat), ∀ (xs : XS) (v2 : Nat) (v3 : Int32) (v4 : Int32) (xa : XA) (v2h : v2 < 8) (H : Heap) (locs : List Loc) (ls : Array Slot), xRel b xa xs → xSub xa0 xa → va_P D vwCl (xW b T xa xs) H → va_D A (xW b T xa xs) → va_S A s.heap H locs → lv_has ls 5 [(0, .ref (b 0)), (2, .ref (xRa xa v2 0)), (3, .int v3), (4, .int v4)] → X10_forged_p38 n xs v2 v3 v4 = some (r, xs') → W p l e rmX10_forged s m args below meth c H locs 0 0 Q (F0 m 38 ls []) := by
    intro n
    induction n with
    | zero => intro xs v2 v3 v4 xa v2h H locs ls hR hU hP hD hS hl heq; cases heq
    | succ n ih =>
      intro xs v2 v3 v4 xa v2h H locs ls hR hU hP hD hS hl heq
      rw [X10_forged_p38_s] at heq
      refine lv_iload hx hb dX10_forged_38 (lv_at hl 3 rfl) ?_
      refine lv_bipush (v := (12 : Int32)) hx hb dX10_forged_40 (by decide) ?_
      refine lv_icmp_ge (tgt := 63) hx hb dX10_forged_42 (by decide) (fun c_8 => ?_) (fun c_8 => ?_)
      · have heq := it_t c_8 heq
        exact b63 xs v2 v3 xa v2h H locs ls hR hU hP hD hS (lv_sub hl [1, 2] rfl) heq
      have heq := it_f c_8 heq
      refine lv_iload_n hx hb dX10_forged_45 rfl (lv_at hl 2 rfl) ?_
      refine lv_aload_n hx hb dX10_forged_46 rfl (lv_at hl 0 rfl) ?_
      refine lv_aload_n hx hb dX10_forged_47 rfl (lv_at hl 1 rfl) ?_
      refine lv_iload hx hb dX10_forged_48 (lv_at hl 3 rfl) ?_
      obtain ⟨y_9, xs_10, h_11, heq⟩ := bnd_h heq
      refine x_vi (own := RX10) (As := [.ref (xRa xa v2 0), .int v4]) (rest := [.int v3]) hx hb hml hown hts (okX10_firstNotSo z l D T b hR v2h h_11) (cwV 2 hts gX10_forged_X10_firstNotSo rfl rfl rfl hdX10_firstNotSo ⟨Nat.le_of_ble_eq_true rfl, Nat.le_of_ble_eq_true rfl⟩) hK hA hX hP hD hS (ci := 10) (q0 := 0) rfl rfl rfl hl.1 rfl (Nat.le_of_ble_eq_true rfl) dX10_forged_50 ⟨Nat.le_of_ble_eq_true rfl, Nat.le_of_ble_eq_true rfl⟩ (fun xa_12 H locs hR hsxa_12 hP hD hS => ?_)
      have hU := xSub.tr hU hsxa_12
      have hl : lv_has ls 5 [(0, .ref (b 0)), (2, .ref (xRa xa_12 v2 0)), (3, .int v3), (4, .int v4)] := by rw [hsxa_12.2.2]; exact hl
      refine va_mmax hx hb (hml.trans hl.1.symm) hown m238_0 m238_1 m238_2 m238_3 (Nat.le_of_ble_eq_true rfl) (Nat.le_of_ble_eq_true rfl) (Nat.le_of_ble_eq_true rfl) (Nat.le_of_ble_eq_true rfl) dX10_forged_53 ?_
      refine lv_topi (fun x_14 ex_14 => ?_)
      have heq := nm_h ex_14 heq
      refine lv_istore_n (lv' := [(3, .int x_14), (0, .ref (b 0)), (2, .ref (xRa xa_12 v2 0)), (4, .int v4)]) hx hb dX10_forged_56 rfl hl (by decide) rfl (fun ls hl => ?_)
      obtain ⟨x_15, ex_15⟩ : ∃ y : Int32, y = v4 + (1 : Int32) := ⟨_, rfl⟩
      have heq := nm_h ex_15 heq
      refine lv_iinc (v := x_15) (lv' := [(4, .int x_15), (3, .int x_14), (0, .ref (b 0)), (2, .ref (xRa xa_12 v2 0))]) hx hb dX10_forged_57 hl (k := 3) rfl (by rw [ex_15]; rfl) (by decide) rfl (fun ls hl => ?_)
      refine lv_goto (tgt := 38) hx hb dX10_forged_60 (by decide) ?_
      exact ih xs_10 v2 x_14 x_15 xa_12 v2h H locs ls hR hU hP hD hS (lv_sub hl [2, 3, 1, 0] rfl) heq
  obtain ⟨H, hH⟩ : ∃ H, H = s.heap := ⟨_, rfl⟩
  obtain ⟨locs, hlocs⟩ : ∃ z : List Loc, z = [] := ⟨_, rfl⟩
  have hS : va_S A s.heap H locs := by rw [hH, hlocs]; exact hS
  have hP : va_P D vwCl (xW b T xa xs) H := by rw [hH]; exact hP
  suffices h9 : W p l e rmX10_forged s m args below meth c H locs 0 0 Q (F0 m 0 ls []) by rw [hH, hlocs] at h9; exact h9
  clear hH hlocs
  unfold X10_forged at heq
  refine lv_aload_n hx hb dX10_forged_0 rfl (lv_at hl 0 rfl) ?_
  refine lv_iload_n hx hb dX10_forged_1 rfl (lv_at hl 1 rfl) ?_
  obtain ⟨y_16, xs_17, h_18, heq⟩ := bnd_h heq
  refine x_vr (own := RX10) (As := [.int v1]) (rest := []) hx hb hml hown hts (okX10_rowOn z l D T b hR h_18) (cwV 1 hts gX10_forged_X10_rowOn rfl rfl rfl hdX10_rowOn ⟨Nat.le_of_ble_eq_true rfl, Nat.le_of_ble_eq_true rfl⟩) hK hA hX hP hD hS (ci := 10) (q0 := 0) rfl rfl rfl hl.1 rfl (Nat.le_of_ble_eq_true rfl) dX10_forged_2 ⟨Nat.le_of_ble_eq_true rfl, Nat.le_of_ble_eq_true rfl⟩ (fun xa_19 H locs o_20 hR hsxa_19 ho_20 hP hD hS => ?_)
  have hU := xSub.tr hU hsxa_19
  refine lv_astoreQ_n (lv' := [(2, va_rf o_20), (0, .ref (b 0)), (1, .int v1)]) hx hb dX10_forged_5 rfl hl (by decide) rfl (fun ls hl => ?_)
  refine lv_aloadQ_n (r := o_20) hx hb dX10_forged_6 rfl (lv_at hl 0 rfl) ?_
  rcases obR_h ho_20 heq with ⟨h_22, heq⟩ | ⟨k_21, ⟨h_22, h_24⟩, heq⟩
  · rw [h_22] at hl ⊢
    have hl : lv_has ls 5 [(2, .null), (0, .ref (b 0)), (1, .int v1)] := hl
    refine lv_ifnonnullN hx hb dX10_forged_7 ?_
    refine lv_aload_n hx hb dX10_forged_10 rfl (lv_at hl 1 rfl) ?_
    refine lv_iload_n hx hb dX10_forged_11 rfl (lv_at hl 2 rfl) ?_
    obtain ⟨y_25, xs_26, h_27, heq⟩ := bnd_h heq
    refine x_vi (own := RX10) (As := [.int v1]) (rest := []) hx hb hml hown hts (okX10_refusal z l D T b hR h_27) (cwV 1 hts gX10_forged_X10_refusal rfl rfl rfl hdX10_refusal ⟨Nat.le_of_ble_eq_true rfl, Nat.le_of_ble_eq_true rfl⟩) hK hA hX hP hD hS (ci := 10) (q0 := 0) rfl rfl rfl hl.1 rfl (Nat.le_of_ble_eq_true rfl) dX10_forged_12 ⟨Nat.le_of_ble_eq_true rfl, Nat.le_of_ble_eq_true rfl⟩ (fun xa_28 H locs hR hsxa_28 hP hD hS => ?_)
    have hU := xSub.tr hU hsxa_28
    obtain ⟨heq, heq2⟩ := ret_h heq
    subst heq
    subst heq2
    exact hret 15 H locs ls xa_28 hR hU hP hD hS rfl dX10_forged_15
  rw [h_22] at hl ⊢
  have hl : lv_has ls 5 [(2, .ref (xRa xa_19 k_21 0)), (0, .ref (b 0)), (1, .int v1)] := hl
  refine lv_ifnonnull (tgt := 16) hx hb dX10_forged_7 (by decide) ?_
  refine lv_aload_n hx hb dX10_forged_16 rfl (lv_at hl 0 rfl) ?_
  obtain ⟨rz_30, hz_31, heq⟩ := bd1_h heq
  obtain ⟨y_32, st_33, h_34, heq⟩ := bnd_h heq
  refine h_vi (own := RX10) (As := []) (rest := []) (wr := xWrR b T xa_19 xs_17 k_21) hx hb hml hown hts (okX7_size z l D (xRa xa_19 k_21) T h_34) (cwV 0 hts gX10_forged_X7_size rfl rfl rfl hdX7_size ⟨Nat.le_of_ble_eq_true rfl, Nat.le_of_ble_eq_true rfl⟩) hK hA hX hP hD hS (xpR b T xa_19 xs_17 h_24 hz_31) (xqR b T xa_19 xs_17 h_24 _ _) (ci := 7) (q0 := 0) rfl rfl rfl hl.1 rfl (Nat.le_of_ble_eq_true rfl) dX10_forged_17 ⟨Nat.le_of_ble_eq_true rfl, Nat.le_of_ble_eq_true rfl⟩ (fun H locs hP hD hS => ?_)
  obtain ⟨xs_35, exs_35⟩ : ∃ z, z = uR xs_17 k_21 (some (rz_30.1, st_33)) := ⟨_, rfl⟩
  have hR : xRel b xa_19 (uR xs_17 k_21 (some (rz_30.1, st_33))) := hR.uR hz_31
  rw [← exs_35] at hP hD hR
  have heq := nm_h exs_35 heq
  refine lv_aload_n hx hb dX10_forged_20 rfl (lv_at hl 1 rfl) ?_
  refine va_get (D := D) (ci := 10) (v := .ref (b 3)) (C := RX10) (T := TX10) (N := 7) hx hb hts hin10 hown hK hP 0 rfl rfl 0 (by decide) f10 (fun _ h9 => h9) rfl dX10_forged_21 ?_
  refine va_get (D := D) (ci := 8) (v := .int (gF (xT xs_35 0) 6)) (C := RX8) (T := TX8) (N := 10) hx hb hts hin8 hown hK hP 3 rfl rfl 6 (by decide) f126 (fun _ h9 => h9) rfl dX10_forged_24 ?_
  refine lv_icmp_le (tgt := 33) hx hb dX10_forged_27 (by decide) (fun c_36 => ?_) (fun c_36 => ?_)
  · have heq := it_t c_36 heq
    refine lv_iconst (v := (0 : Int32)) hx hb dX10_forged_33 (by decide) ?_
    refine lv_istore_n (lv' := [(3, .int (0 : Int32)), (2, .ref (xRa xa_19 k_21 0)), (0, .ref (b 0)), (1, .int v1)]) hx hb dX10_forged_34 rfl hl (by decide) rfl (fun ls hl => ?_)
    refine lv_iconst (v := (0 : Int32)) hx hb dX10_forged_35 (by decide) ?_
    refine lv_istore (lv' := [(4, .int (0 : Int32)), (3, .int (0 : Int32)), (2, .ref (xRa xa_19 k_21 0)), (0, .ref (b 0)), (1, .int v1)]) hx hb dX10_forged_36 hl (by decide) rfl (fun ls hl => ?_)
    exact b38 13 xs_35 k_21 (0 : Int32) (0 : Int32) xa_19 h_24 H locs ls hR hU hP hD hS (lv_sub hl [3, 2, 1, 0] rfl) heq
  have heq := it_f c_36 heq
  refine lv_bipush (v := (-13 : Int32)) hx hb dX10_forged_30 (by decide) ?_
  obtain ⟨heq, heq2⟩ := ret_h heq
  subst heq
  subst heq2
  exact hret 32 H locs ls xa_19 hR hU hP hD hS rfl dX10_forged_32
set_option maxRecDepth 20000 in
theorem ggX10_judge_X10_rowOn : GoodIn wsX10_judge wsX10_rowOn := goodIn_r _ [7, 8, 9, 10, 6, 11, 86, 87, 88, 89, 90, 91, 92] (by decide +kernel) (by decide +kernel)
set_option maxRecDepth 20000 in
theorem gX10_judge_X10_rowOn : GoodIn wsX10_judge (wsV RX10 43 RX10 yX10_rowOn wsX10_rowOn) := goodIn_app (goodIn_of _ (by decide +kernel)) ggX10_judge_X10_rowOn
set_option maxRecDepth 20000 in
theorem ggX10_judge_X10_refusal : GoodIn wsX10_judge wsX10_refusal := goodIn_r _ [15, 9, 10, 6, 11, 16, 17, 18, 19, 20, 8, 86, 87, 88, 89, 90, 91, 92] (by decide +kernel) (by decide +kernel)
set_option maxRecDepth 20000 in
theorem gX10_judge_X10_refusal : GoodIn wsX10_judge (wsV RX10 47 RX10 yX10_refusal wsX10_refusal) := goodIn_app (goodIn_of _ (by decide +kernel)) ggX10_judge_X10_refusal
set_option maxRecDepth 20000 in
theorem ggX10_judge_X8_isDown : GoodIn wsX10_judge wsX8_isDown := goodIn_r _ [25, 26, 93, 94, 95, 96, 97, 98, 99, 100, 101, 102] (by decide +kernel) (by decide +kernel)
set_option maxRecDepth 20000 in
theorem gX10_judge_X8_isDown : GoodIn wsX10_judge (wsV RX10 116 RX8 yX8_isDown wsX8_isDown) := goodIn_app (goodIn_of _ (by decide +kernel)) ggX10_judge_X8_isDown
set_option maxRecDepth 20000 in
theorem ggX10_judge_X8_fallAfter : GoodIn wsX10_judge wsX8_fallAfter := goodIn_r _ [30, 31, 32, 33, 34, 24, 35, 36, 37, 38, 39, 40, 41, 42, 43, 44, 45, 46, 47, 48, 49, 50, 51, 52, 53, 54, 55, 56, 57, 58, 59, 60, 61, 93, 94, 95, 96, 97, 98, 99, 100, 101, 102] (by decide +kernel) (by decide +kernel)
set_option maxRecDepth 20000 in
theorem gX10_judge_X8_fallAfter : GoodIn wsX10_judge (wsV RX10 190 RX8 yX8_fallAfter wsX8_fallAfter) := goodIn_app (goodIn_of _ (by decide +kernel)) ggX10_judge_X8_fallAfter
set_option maxRecDepth 20000 in
theorem ggX10_judge_X7_size : GoodIn wsX10_judge wsX7_size := goodIn_r _ [66, 67, 103, 104] (by decide +kernel) (by decide +kernel)
set_option maxRecDepth 20000 in
theorem gX10_judge_X7_size : GoodIn wsX10_judge (wsV RX10 63 RX7 yX7_size wsX7_size) := goodIn_app (goodIn_of _ (by decide +kernel)) ggX10_judge_X7_size
set_option maxRecDepth 20000 in
theorem ggX10_judge_X7_isSkipped : GoodIn wsX10_judge wsX7_isSkipped := goodIn_r _ [71, 72, 73, 74, 75, 65, 76, 67, 77, 78, 79, 80, 103, 104] (by decide +kernel) (by decide +kernel)
set_option maxRecDepth 20000 in
theorem gX10_judge_X7_isSkipped : GoodIn wsX10_judge (wsV RX10 250 RX7 yX7_isSkipped wsX7_isSkipped) := goodIn_app (goodIn_of _ (by decide +kernel)) ggX10_judge_X7_isSkipped
set_option maxRecDepth 20000 in
theorem ggX10_judge_X7_at : GoodIn wsX10_judge wsX7_at := goodIn_r _ [76, 67, 77, 78, 79, 65, 80, 103, 104] (by decide +kernel) (by decide +kernel)
set_option maxRecDepth 20000 in
theorem gX10_judge_X7_at : GoodIn wsX10_judge (wsV RX10 74 RX7 yX7_at wsX7_at) := goodIn_app (goodIn_of _ (by decide +kernel)) ggX10_judge_X7_at
set_option maxRecDepth 20000 in
theorem ggX10_judge_X8_countBearing : GoodIn wsX10_judge wsX8_countBearing := goodIn_r _ [85, 57, 58, 59, 24, 60, 36, 61, 93, 94, 95, 96, 97, 98, 99, 100, 101, 102] (by decide +kernel) (by decide +kernel)
set_option maxRecDepth 20000 in
theorem gX10_judge_X8_countBearing : GoodIn wsX10_judge (wsV RX10 253 RX8 yX8_countBearing wsX8_countBearing) := goodIn_app (goodIn_of _ (by decide +kernel)) ggX10_judge_X8_countBearing
theorem dX10_judge_0 : decode cX10_judge 0 = .ok (.aload_n 0, 1) := by decide +kernel
theorem dX10_judge_1 : decode cX10_judge 1 = .ok (.iload_n 1, 1) := by decide +kernel
theorem dX10_judge_2 : decode cX10_judge 2 = .ok (.invokevirtual 43, 3) := by decide +kernel
theorem dX10_judge_5 : decode cX10_judge 5 = .ok (.astore_n 2, 1) := by decide +kernel
theorem dX10_judge_6 : decode cX10_judge 6 = .ok (.aload_n 2, 1) := by decide +kernel
theorem dX10_judge_7 : decode cX10_judge 7 = .ok (.ifnonnull 9, 3) := by decide +kernel
theorem dX10_judge_10 : decode cX10_judge 10 = .ok (.aload_n 0, 1) := by decide +kernel
theorem dX10_judge_11 : decode cX10_judge 11 = .ok (.iload_n 1, 1) := by decide +kernel
theorem dX10_judge_12 : decode cX10_judge 12 = .ok (.invokevirtual 47, 3) := by decide +kernel
theorem dX10_judge_15 : decode cX10_judge 15 = .ok (.ireturn, 1) := by decide +kernel
theorem dX10_judge_16 : decode cX10_judge 16 = .ok (.aload_n 0, 1) := by decide +kernel
theorem dX10_judge_17 : decode cX10_judge 17 = .ok (.getfield 10, 3) := by decide +kernel
theorem dX10_judge_20 : decode cX10_judge 20 = .ok (.invokevirtual 116, 3) := by decide +kernel
theorem dX10_judge_23 : decode cX10_judge 23 = .ok (.ifCond .eq 6, 3) := by decide +kernel
theorem dX10_judge_26 : decode cX10_judge 26 = .ok (.bipush (-3), 2) := by decide +kernel
theorem dX10_judge_28 : decode cX10_judge 28 = .ok (.ireturn, 1) := by decide +kernel
theorem dX10_judge_29 : decode cX10_judge 29 = .ok (.aload_n 0, 1) := by decide +kernel
theorem dX10_judge_30 : decode cX10_judge 30 = .ok (.getfield 10, 3) := by decide +kernel
theorem dX10_judge_33 : decode cX10_judge 33 = .ok (.bipush 60, 2) := by decide +kernel
theorem dX10_judge_35 : decode cX10_judge 35 = .ok (.invokevirtual 190, 3) := by decide +kernel
theorem dX10_judge_38 : decode cX10_judge 38 = .ok (.istore_n 3, 1) := by decide +kernel
theorem dX10_judge_39 : decode cX10_judge 39 = .ok (.iload_n 3, 1) := by decide +kernel
theorem dX10_judge_40 : decode cX10_judge 40 = .ok (.bipush (-4), 2) := by decide +kernel
theorem dX10_judge_42 : decode cX10_judge 42 = .ok (.if_icmp .ne 8, 3) := by decide +kernel
theorem dX10_judge_45 : decode cX10_judge 45 = .ok (.bipush 61, 2) := by decide +kernel
theorem dX10_judge_47 : decode cX10_judge 47 = .ok (.goto 4, 3) := by decide +kernel
theorem dX10_judge_50 : decode cX10_judge 50 = .ok (.iload_n 3, 1) := by decide +kernel
theorem dX10_judge_51 : decode cX10_judge 51 = .ok (.istore 4, 2) := by decide +kernel
theorem dX10_judge_53 : decode cX10_judge 53 = .ok (.iconst 0, 1) := by decide +kernel
theorem dX10_judge_54 : decode cX10_judge 54 = .ok (.istore 5, 2) := by decide +kernel
theorem dX10_judge_56 : decode cX10_judge 56 = .ok (.iload 5, 2) := by decide +kernel
theorem dX10_judge_58 : decode cX10_judge 58 = .ok (.aload_n 2, 1) := by decide +kernel
theorem dX10_judge_59 : decode cX10_judge 59 = .ok (.invokevirtual 63, 3) := by decide +kernel
theorem dX10_judge_62 : decode cX10_judge 62 = .ok (.if_icmp .ge 54, 3) := by decide +kernel
theorem dX10_judge_65 : decode cX10_judge 65 = .ok (.aload_n 2, 1) := by decide +kernel
theorem dX10_judge_66 : decode cX10_judge 66 = .ok (.iload 5, 2) := by decide +kernel
theorem dX10_judge_68 : decode cX10_judge 68 = .ok (.invokevirtual 250, 3) := by decide +kernel
theorem dX10_judge_71 : decode cX10_judge 71 = .ok (.ifCond .ne 39, 3) := by decide +kernel
theorem dX10_judge_74 : decode cX10_judge 74 = .ok (.iload 5, 2) := by decide +kernel
theorem dX10_judge_76 : decode cX10_judge 76 = .ok (.iload 4, 2) := by decide +kernel
theorem dX10_judge_78 : decode cX10_judge 78 = .ok (.if_icmp .ge 29, 3) := by decide +kernel
theorem dX10_judge_81 : decode cX10_judge 81 = .ok (.aload_n 2, 1) := by decide +kernel
theorem dX10_judge_82 : decode cX10_judge 82 = .ok (.iload 5, 2) := by decide +kernel
theorem dX10_judge_84 : decode cX10_judge 84 = .ok (.invokevirtual 74, 3) := by decide +kernel
theorem dX10_judge_87 : decode cX10_judge 87 = .ok (.aload_n 0, 1) := by decide +kernel
theorem dX10_judge_88 : decode cX10_judge 88 = .ok (.getfield 10, 3) := by decide +kernel
theorem dX10_judge_91 : decode cX10_judge 91 = .ok (.aload_n 0, 1) := by decide +kernel
theorem dX10_judge_92 : decode cX10_judge 92 = .ok (.getfield 10, 3) := by decide +kernel
theorem dX10_judge_95 : decode cX10_judge 95 = .ok (.getfield 93, 3) := by decide +kernel
theorem dX10_judge_98 : decode cX10_judge 98 = .ok (.iload 5, 2) := by decide +kernel
theorem dX10_judge_100 : decode cX10_judge 100 = .ok (.iadd, 1) := by decide +kernel
theorem dX10_judge_101 : decode cX10_judge 101 = .ok (.invokevirtual 253, 3) := by decide +kernel
theorem dX10_judge_104 : decode cX10_judge 104 = .ok (.if_icmp .eq 6, 3) := by decide +kernel
theorem dX10_judge_107 : decode cX10_judge 107 = .ok (.iload 5, 2) := by decide +kernel
theorem dX10_judge_109 : decode cX10_judge 109 = .ok (.ireturn, 1) := by decide +kernel
theorem dX10_judge_110 : decode cX10_judge 110 = .ok (.iinc 5 1, 3) := by decide +kernel
theorem dX10_judge_113 : decode cX10_judge 113 = .ok (.goto (-57), 3) := by decide +kernel
theorem dX10_judge_116 : decode cX10_judge 116 = .ok (.bipush (-4), 2) := by decide +kernel
theorem dX10_judge_118 : decode cX10_judge 118 = .ok (.ireturn, 1) := by decide +kernel
/-! X10 judge -/
def X10_judge_p107 (xs : XS) (v5 : Int32) : Option (Int32 × XS) :=
    some (v5, xs)
def X10_judge_p110 (k56 : XS → Nat → Int32 → Int32 → Option (Int32 × XS)) (xs : XS) (v2 : Nat) (v4 : Int32) (v5 : Int32) : Option (Int32 × XS) :=
    nm (v5 + (1 : Int32)) fun x_1 =>
    k56 xs v2 v4 x_1
def X10_judge_p56 : Nat → XS → Nat → Int32 → Int32 → Option (Int32 × XS)
  | 0, _, _, _, _ => none
  | n + 1, xs, v2, v4, v5 =>
    bd1 (xR xs v2) fun rz_2 =>
    bnd (X7_size rz_2.1 rz_2.2) fun y_4 st_5 =>
    nm (uR xs v2 (some (rz_2.1, st_5))) fun xs_7 =>
    if y_4 ≤ v5 then
      (some ((-4 : Int32), xs_7))
    else
    bd1 (xR xs_7 v2) fun rz_9 =>
    bnd (X7_isSkipped rz_9.1 rz_9.2 v5) fun y_11 st_12 =>
    nm (uR xs_7 v2 (some (rz_9.1, st_12))) fun xs_14 =>
    if y_11 = 0 then
      (if v4 ≤ v5 then
        (X10_judge_p107 xs_14 v5)
      else
      bd1 (xR xs_14 v2) fun rz_17 =>
      bnd (X7_at rz_17.1 rz_17.2 v5) fun y_19 st_20 =>
      nm (uR xs_14 v2 (some (rz_17.1, st_20))) fun xs_22 =>
      bnd (X8_countBearing (xT xs_22 0) ((gF (xT xs_22 0) 8) + v5)) fun y_23 st_24 =>
      nm (uT xs_22 0 st_24) fun xs_26 =>
      if y_19 = y_23 then
        (X10_judge_p110 (fun xs v2 v4 v5 => X10_judge_p56 n xs v2 v4 v5) xs_26 v2 v4 v5)
      else
      X10_judge_p107 xs_26 v5)
    else
    X10_judge_p110 (fun xs v2 v4 v5 => X10_judge_p56 n xs v2 v4 v5) xs_14 v2 v4 v5
theorem X10_judge_p56_s (n : Nat) (xs : XS) (v2 : Nat) (v4 : Int32) (v5 : Int32) : X10_judge_p56 (n + 1) xs v2 v4 v5 =
    (bd1 (xR xs v2) fun rz_2 =>
    bnd (X7_size rz_2.1 rz_2.2) fun y_4 st_5 =>
    nm (uR xs v2 (some (rz_2.1, st_5))) fun xs_7 =>
    if y_4 ≤ v5 then
      (some ((-4 : Int32), xs_7))
    else
    bd1 (xR xs_7 v2) fun rz_9 =>
    bnd (X7_isSkipped rz_9.1 rz_9.2 v5) fun y_11 st_12 =>
    nm (uR xs_7 v2 (some (rz_9.1, st_12))) fun xs_14 =>
    if y_11 = 0 then
      (if v4 ≤ v5 then
        (X10_judge_p107 xs_14 v5)
      else
      bd1 (xR xs_14 v2) fun rz_17 =>
      bnd (X7_at rz_17.1 rz_17.2 v5) fun y_19 st_20 =>
      nm (uR xs_14 v2 (some (rz_17.1, st_20))) fun xs_22 =>
      bnd (X8_countBearing (xT xs_22 0) ((gF (xT xs_22 0) 8) + v5)) fun y_23 st_24 =>
      nm (uT xs_22 0 st_24) fun xs_26 =>
      if y_19 = y_23 then
        (X10_judge_p110 (fun xs v2 v4 v5 => X10_judge_p56 n xs v2 v4 v5) xs_26 v2 v4 v5)
      else
      X10_judge_p107 xs_26 v5)
    else
    X10_judge_p110 (fun xs v2 v4 v5 => X10_judge_p56 n xs v2 v4 v5) xs_14 v2 v4 v5) := rfl
def X10_judge_p51 (xs : XS) (v2 : Nat) (t0 : Int32) : Option (Int32 × XS) :=
    X10_judge_p56 5000 xs v2 t0 (0 : Int32)
def X10_judge (xs : XS) (v1 : Int32) : Option (Int32 × XS) :=
    bnd (X10_rowOn xs v1) fun y_28 xs_29 =>
    ob y_28
      (bnd (X10_refusal xs_29 v1) fun y_37 xs_38 =>
      some (y_37, xs_38))
    fun k_33 =>
    bnd (X8_isDown (xT xs_29 0)) fun y_42 st_43 =>
    nm (uT xs_29 0 st_43) fun xs_45 =>
    if y_42 = 0 then
      (bnd (X8_fallAfter (xT xs_45 0) (60 : Int32)) fun y_47 st_48 =>
      nm (uT xs_45 0 st_48) fun xs_50 =>
      if y_47 = (-4 : Int32) then
        (X10_judge_p51 xs_50 k_33 (61 : Int32))
      else
      X10_judge_p51 xs_50 k_33 y_47)
    else
    some ((-3 : Int32), xs_45)
abbrev rmX10_judge : Room := { frames := 5, cells := 0, slots := 0, locals := 117 }
theorem hdX10_judge : yX10_judge.cls = RX10 ∧ yX10_judge.cls ≠ "java/lang/invoke/MethodHandle" ∧ yX10_judge.cls ≠ "java/lang/invoke/VarHandle" ∧ (parseMethodDescriptor yX10_judge.desc).map (fun d => d.parameters.length) = some 1 := by decide +kernel
set_option maxRecDepth 100000 in
set_option maxHeartbeats 8000000 in
theorem okX10_judge (z : Nat → Nat) (l : Launch) (D : va_G) (T : mT3) (b : Nat → Nat) {xa : XA} {xs : XS} {v1 : Int32} {r : Int32} {xs' : XS} (hR : xRel b xa xs) (heq : X10_judge xs v1 = some (r, xs')) : hXi xSub z l D T b yX10_judge wsX10_judge rmX10_judge [.ref (b 0), .int v1] xa xs r xs' := by
  refine xbody_i (plainFor_of_name (by decide)) rfl (Nat.le_of_ble_eq_true rfl) (fun p e s m args below meth c A Q hx hb hml hown hts hK hA hX hret ls hP hD hS hl => ?_)
  have hl : lv_has ls 6 [(0, .ref (b 0)), (1, .int v1)] := hl
  have hin10 : ∀ w ∈ wsX100, w ∈ wsX10_judge := by decide +kernel
  have hin8 : ∀ w ∈ wsX80, w ∈ wsX10_judge := by decide +kernel
  have f10 : (Cond.fieldLink RX10 10 RX10 (TX10 0).2.1 (TX10 0).2.2.1).before args s = true := hts (.fieldLink RX10 10 RX10 "now" "LLaidDownTheLane$Town;") (by decide +kernel)
  have f93 : (Cond.fieldLink RX10 93 RX8 (TX8 8).2.1 (TX8 8).2.2.1).before args s = true := hts (.fieldLink RX10 93 RX8 "minute" "I") (by decide +kernel)
  obtain ⟨xa0, hxa0⟩ : ∃ z : XA, z = xa := ⟨_, rfl⟩
  rw [← hxa0] at hret
  have hU : xSub xa0 xa := by rw [hxa0]; exact xSub.rf
  clear hxa0
  have b107 : ∀ (xs : XS) (v5 : Int32) (xa : XA) (H : Heap) (locs : List Loc) (ls : Array Slot), xRel b xa xs → xSub xa0 xa → va_P D vwCl (xW b T xa xs) H → va_D A (xW b T xa xs) → va_S A s.heap H locs → lv_has ls 6 [(5, .int v5)] → X10_judge_p107 xs v5 = some (r, xs') → W p l e rmX10_judge s m args below meth c H locs 0 0 Q (F0 m 107 ls []) := by
    intro xs v5 xa H locs ls hR hU hP hD hS hl heq
    unfold X10_judge_p107 at heq
    refine lv_iload hx hb dX10_judge_107 (lv_at hl 0 rfl) ?_
    obtain ⟨heq, heq2⟩ := ret_h heq
    subst heq
    subst heq2
    exact hret 109 H locs ls xa hR hU hP hD hS rfl dX10_judge_109
  have b110 : ∀ (k56 : XS → Nat → Int32 → Int32 → Option (Int32 × XS)) (hk56 : ∀ (xs : XS) (v2 : Nat) (v4 : Int32) (v5 : Int32) (xa : XA) (v2h : v2 < 8) (H : Heap) (locs : List Loc) (ls : Array Slot), xRel b xa xs → xSub xa0 xa → va_P D vwCl (xW b T xa xs) H → va_D A (xW b T xa xs) → va_S A s.heap H locs → lv_has ls 6 [(0, .ref (b 0)), (2, .ref (xRa xa v2 0)), (4, .int v4), (5, .int v5)] → k56 xs v2 v4 v5 = some (r, xs') → W p l e rmX10_judge s m args below meth c H locs 0 0 Q (F0 m 56 ls [])), ∀ (xs : XS) (v2 : Nat) (v4 : Int32) (v5 : Int32) (xa : XA) (v2h : v2 < 8) (H : Heap) (locs : List Loc) (ls : Array Slot), xRel b xa xs → xSub xa0 xa → va_P D vwCl (xW b T xa xs) H → va_D A (xW b T xa xs) → va_S A s.heap H locs → lv_has ls 6 [(0, .ref (b 0)), (2, .ref (xRa xa v2 0)), (4, .int v4), (5, .int v5)] → X10_judge_p110 k56 xs v2 v4 v5 = some (r, xs') → W p l e rmX10_judge s m args below meth c H locs 0 0 Q (F0 m 110 ls []) := by
    intro k56 hk56 xs v2 v4 v5 xa v2h H locs ls hR hU hP hD hS hl heq
    unfold X10_judge_p110 at heq
    obtain ⟨x_1, ex_1⟩ : ∃ y : Int32, y = v5 + (1 : Int32) := ⟨_, rfl⟩
    have heq := nm_h ex_1 heq
    refine lv_iinc (v := x_1) (lv' := [(5, .int x_1), (0, .ref (b 0)), (2, .ref (xRa xa v2 0)), (4, .int v4)]) hx hb dX10_judge_110 hl (k := 3) rfl (by rw [ex_1]; rfl) (by decide) rfl (fun ls hl => ?_)
    refine lv_goto (tgt := 56) hx hb dX10_judge_113 (by decide) ?_
    exact hk56 xs v2 v4 x_1 xa v2h H locs ls hR hU hP hD hS (lv_sub hl [1, 2, 3, 0] rfl) heq
  have b56 : ∀ (n : Nat), ∀ (xs : XS) (v2 : Nat) (v4 : Int32) (v5 : Int32) (xa : XA) (v2h : v2 < 8) (H : Heap) (locs : List Loc) (ls : Array Slot), xRel b xa xs → xSub xa0 xa → va_P D vwCl (xW b T xa xs) H → va_D A (xW b T xa xs) → va_S A s.heap H locs → lv_has ls 6 [(0, .ref (b 0)), (2, .ref (xRa xa v2 0)), (4, .int v4), (5, .int v5)] → X10_judge_p56 n xs v2 v4 v5 = some (r, xs') → W p l e rmX10_judge s m args below meth c H locs 0 0 Q (F0 m 56 ls []) := by
    intro n
    induction n with
    | zero => intro xs v2 v4 v5 xa v2h H locs ls hR hU hP hD hS hl heq; cases heq
    | succ n ih =>
      intro xs v2 v4 v5 xa v2h H locs ls hR hU hP hD hS hl heq
      rw [X10_judge_p56_s] at heq
      refine lv_iload hx hb dX10_judge_56 (lv_at hl 3 rfl) ?_
      refine lv_aload_n hx hb dX10_judge_58 rfl (lv_at hl 1 rfl) ?_
      obtain ⟨rz_2, hz_3, heq⟩ := bd1_h heq
      obtain ⟨y_4, st_5, h_6, heq⟩ := bnd_h heq
      refine h_vi (own := RX10) (As := []) (rest := [.int v5]) (wr := xWrR b T xa xs v2) hx hb hml hown hts (okX7_size z l D (xRa xa v2) T h_6) (cwV 0 hts gX10_judge_X7_size rfl rfl rfl hdX7_size ⟨Nat.le_of_ble_eq_true rfl, Nat.le_of_ble_eq_true rfl⟩) hK hA hX hP hD hS (xpR b T xa xs v2h hz_3) (xqR b T xa xs v2h _ _) (ci := 7) (q0 := 0) rfl rfl rfl hl.1 rfl (Nat.le_of_ble_eq_true rfl) dX10_judge_59 ⟨Nat.le_of_ble_eq_true rfl, Nat.le_of_ble_eq_true rfl⟩ (fun H locs hP hD hS => ?_)
      obtain ⟨xs_7, exs_7⟩ : ∃ z, z = uR xs v2 (some (rz_2.1, st_5)) := ⟨_, rfl⟩
      have hR : xRel b xa (uR xs v2 (some (rz_2.1, st_5))) := hR.uR hz_3
      rw [← exs_7] at hP hD hR
      have heq := nm_h exs_7 heq
      refine lv_icmp_ge (tgt := 116) hx hb dX10_judge_62 (by decide) (fun c_8 => ?_) (fun c_8 => ?_)
      · have heq := it_t c_8 heq
        refine lv_bipush (v := (-4 : Int32)) hx hb dX10_judge_116 (by decide) ?_
        obtain ⟨heq, heq2⟩ := ret_h heq
        subst heq
        subst heq2
        exact hret 118 H locs ls xa hR hU hP hD hS rfl dX10_judge_118
      have heq := it_f c_8 heq
      refine lv_aload_n hx hb dX10_judge_65 rfl (lv_at hl 1 rfl) ?_
      refine lv_iload hx hb dX10_judge_66 (lv_at hl 3 rfl) ?_
      obtain ⟨rz_9, hz_10, heq⟩ := bd1_h heq
      obtain ⟨y_11, st_12, h_13, heq⟩ := bnd_h heq
      refine h_vi (own := RX10) (As := [.int v5]) (rest := []) (wr := xWrR b T xa xs_7 v2) hx hb hml hown hts (okX7_isSkipped z l D (xRa xa v2) T h_13) (cwV 1 hts gX10_judge_X7_isSkipped rfl rfl rfl hdX7_isSkipped ⟨Nat.le_of_ble_eq_true rfl, Nat.le_of_ble_eq_true rfl⟩) hK hA hX hP hD hS (xpR b T xa xs_7 v2h hz_10) (xqR b T xa xs_7 v2h _ _) (ci := 7) (q0 := 0) rfl rfl rfl hl.1 rfl (Nat.le_of_ble_eq_true rfl) dX10_judge_68 ⟨Nat.le_of_ble_eq_true rfl, Nat.le_of_ble_eq_true rfl⟩ (fun H locs hP hD hS => ?_)
      obtain ⟨xs_14, exs_14⟩ : ∃ z, z = uR xs_7 v2 (some (rz_9.1, st_12)) := ⟨_, rfl⟩
      have hR : xRel b xa (uR xs_7 v2 (some (rz_9.1, st_12))) := hR.uR hz_10
      rw [← exs_14] at hP hD hR
      have heq := nm_h exs_14 heq
      refine lv_if_ne (tgt := 110) hx hb dX10_judge_71 (by decide) (fun c_15 => ?_) (fun c_15 => ?_)
      · have heq := it_f c_15 heq
        exact b110 (fun xs v2 v4 v5 => X10_judge_p56 n xs v2 v4 v5) ih xs_14 v2 v4 v5 xa v2h H locs ls hR hU hP hD hS (lv_sub hl [0, 1, 2, 3] rfl) heq
      have heq := it_t c_15 heq
      refine lv_iload hx hb dX10_judge_74 (lv_at hl 3 rfl) ?_
      refine lv_iload hx hb dX10_judge_76 (lv_at hl 2 rfl) ?_
      refine lv_icmp_ge (tgt := 107) hx hb dX10_judge_78 (by decide) (fun c_16 => ?_) (fun c_16 => ?_)
      · have heq := it_t c_16 heq
        exact b107 xs_14 v5 xa H locs ls hR hU hP hD hS (lv_sub hl [3] rfl) heq
      have heq := it_f c_16 heq
      refine lv_aload_n hx hb dX10_judge_81 rfl (lv_at hl 1 rfl) ?_
      refine lv_iload hx hb dX10_judge_82 (lv_at hl 3 rfl) ?_
      obtain ⟨rz_17, hz_18, heq⟩ := bd1_h heq
      obtain ⟨y_19, st_20, h_21, heq⟩ := bnd_h heq
      refine h_vi (own := RX10) (As := [.int v5]) (rest := []) (wr := xWrR b T xa xs_14 v2) hx hb hml hown hts (okX7_at z l D (xRa xa v2) T h_21) (cwV 1 hts gX10_judge_X7_at rfl rfl rfl hdX7_at ⟨Nat.le_of_ble_eq_true rfl, Nat.le_of_ble_eq_true rfl⟩) hK hA hX hP hD hS (xpR b T xa xs_14 v2h hz_18) (xqR b T xa xs_14 v2h _ _) (ci := 7) (q0 := 0) rfl rfl rfl hl.1 rfl (Nat.le_of_ble_eq_true rfl) dX10_judge_84 ⟨Nat.le_of_ble_eq_true rfl, Nat.le_of_ble_eq_true rfl⟩ (fun H locs hP hD hS => ?_)
      obtain ⟨xs_22, exs_22⟩ : ∃ z, z = uR xs_14 v2 (some (rz_17.1, st_20)) := ⟨_, rfl⟩
      have hR : xRel b xa (uR xs_14 v2 (some (rz_17.1, st_20))) := hR.uR hz_18
      rw [← exs_22] at hP hD hR
      have heq := nm_h exs_22 heq
      refine lv_aload_n hx hb dX10_judge_87 rfl (lv_at hl 0 rfl) ?_
      refine va_get (D := D) (ci := 10) (v := .ref (b 3)) (C := RX10) (T := TX10) (N := 7) hx hb hts hin10 hown hK hP 0 rfl rfl 0 (by decide) f10 (fun _ h9 => h9) rfl dX10_judge_88 ?_
      refine lv_aload_n hx hb dX10_judge_91 rfl (lv_at hl 0 rfl) ?_
      refine va_get (D := D) (ci := 10) (v := .ref (b 3)) (C := RX10) (T := TX10) (N := 7) hx hb hts hin10 hown hK hP 0 rfl rfl 0 (by decide) f10 (fun _ h9 => h9) rfl dX10_judge_92 ?_
      refine va_get (D := D) (ci := 8) (v := .int (gF (xT xs_22 0) 8)) (C := RX8) (T := TX8) (N := 10) hx hb hts hin8 hown hK hP 3 rfl rfl 8 (by decide) f93 (fun _ h9 => h9) rfl dX10_judge_95 ?_
      refine lv_iload hx hb dX10_judge_98 (lv_at hl 3 rfl) ?_
      refine lv_iadd hx hb dX10_judge_100 ?_
      obtain ⟨y_23, st_24, h_25, heq⟩ := bnd_h heq
      refine h_vi (own := RX10) (As := [.int ((gF (xT xs_22 0) 8) + v5)]) (rest := [.int y_19]) (wr := xWr0 b T xa xs_22) hx hb hml hown hts (okX8_countBearing z l D (fun j => b (3 + j)) T (fun j => some (xFo xa 0 j)) h_25) (cwV 1 hts gX10_judge_X8_countBearing rfl rfl rfl hdX8_countBearing ⟨Nat.le_of_ble_eq_true rfl, Nat.le_of_ble_eq_true rfl⟩) hK hA hX hP hD hS (xp0 b T xa xs_22) (xq0 b T xa xs_22 _) (ci := 8) (q0 := 0) rfl rfl rfl hl.1 rfl (Nat.le_of_ble_eq_true rfl) dX10_judge_101 ⟨Nat.le_of_ble_eq_true rfl, Nat.le_of_ble_eq_true rfl⟩ (fun H locs hP hD hS => ?_)
      obtain ⟨xs_26, exs_26⟩ : ∃ z, z = uT xs_22 0 st_24 := ⟨_, rfl⟩
      have hR : xRel b xa (uT xs_22 0 st_24) := hR.uT _ _
      rw [← exs_26] at hP hD hR
      have heq := nm_h exs_26 heq
      refine lv_icmp_eq (tgt := 110) hx hb dX10_judge_104 (by decide) (fun c_27 => ?_) (fun c_27 => ?_)
      · have heq := it_t c_27 heq
        exact b110 (fun xs v2 v4 v5 => X10_judge_p56 n xs v2 v4 v5) ih xs_26 v2 v4 v5 xa v2h H locs ls hR hU hP hD hS (lv_sub hl [0, 1, 2, 3] rfl) heq
      have heq := it_f c_27 heq
      exact b107 xs_26 v5 xa H locs ls hR hU hP hD hS (lv_sub hl [3] rfl) heq
  have b51 : ∀ (xs : XS) (v2 : Nat) (t0 : Int32) (xa : XA) (v2h : v2 < 8) (H : Heap) (locs : List Loc) (ls : Array Slot), xRel b xa xs → xSub xa0 xa → va_P D vwCl (xW b T xa xs) H → va_D A (xW b T xa xs) → va_S A s.heap H locs → lv_has ls 6 [(0, .ref (b 0)), (2, .ref (xRa xa v2 0))] → X10_judge_p51 xs v2 t0 = some (r, xs') → W p l e rmX10_judge s m args below meth c H locs 0 0 Q (F0 m 51 ls [.int t0]) := by
    intro xs v2 t0 xa v2h H locs ls hR hU hP hD hS hl heq
    unfold X10_judge_p51 at heq
    refine lv_istore (lv' := [(4, .int t0), (0, .ref (b 0)), (2, .ref (xRa xa v2 0))]) hx hb dX10_judge_51 hl (by decide) rfl (fun ls hl => ?_)
    refine lv_iconst (v := (0 : Int32)) hx hb dX10_judge_53 (by decide) ?_
    refine lv_istore (lv' := [(5, .int (0 : Int32)), (4, .int t0), (0, .ref (b 0)), (2, .ref (xRa xa v2 0))]) hx hb dX10_judge_54 hl (by decide) rfl (fun ls hl => ?_)
    exact b56 5000 xs v2 t0 (0 : Int32) xa v2h H locs ls hR hU hP hD hS (lv_sub hl [2, 3, 1, 0] rfl) heq
  obtain ⟨H, hH⟩ : ∃ H, H = s.heap := ⟨_, rfl⟩
  obtain ⟨locs, hlocs⟩ : ∃ z : List Loc, z = [] := ⟨_, rfl⟩
  have hS : va_S A s.heap H locs := by rw [hH, hlocs]; exact hS
  have hP : va_P D vwCl (xW b T xa xs) H := by rw [hH]; exact hP
  suffices h9 : W p l e rmX10_judge s m args below meth c H locs 0 0 Q (F0 m 0 ls []) by rw [hH, hlocs] at h9; exact h9
  clear hH hlocs
  unfold X10_judge at heq
  refine lv_aload_n hx hb dX10_judge_0 rfl (lv_at hl 0 rfl) ?_
  refine lv_iload_n hx hb dX10_judge_1 rfl (lv_at hl 1 rfl) ?_
  obtain ⟨y_28, xs_29, h_30, heq⟩ := bnd_h heq
  refine x_vr (own := RX10) (As := [.int v1]) (rest := []) hx hb hml hown hts (okX10_rowOn z l D T b hR h_30) (cwV 1 hts gX10_judge_X10_rowOn rfl rfl rfl hdX10_rowOn ⟨Nat.le_of_ble_eq_true rfl, Nat.le_of_ble_eq_true rfl⟩) hK hA hX hP hD hS (ci := 10) (q0 := 0) rfl rfl rfl hl.1 rfl (Nat.le_of_ble_eq_true rfl) dX10_judge_2 ⟨Nat.le_of_ble_eq_true rfl, Nat.le_of_ble_eq_true rfl⟩ (fun xa_31 H locs o_32 hR hsxa_31 ho_32 hP hD hS => ?_)
  have hU := xSub.tr hU hsxa_31
  refine lv_astoreQ_n (lv' := [(2, va_rf o_32), (0, .ref (b 0)), (1, .int v1)]) hx hb dX10_judge_5 rfl hl (by decide) rfl (fun ls hl => ?_)
  refine lv_aloadQ_n (r := o_32) hx hb dX10_judge_6 rfl (lv_at hl 0 rfl) ?_
  rcases obR_h ho_32 heq with ⟨h_34, heq⟩ | ⟨k_33, ⟨h_34, h_36⟩, heq⟩
  · rw [h_34] at hl ⊢
    have hl : lv_has ls 6 [(2, .null), (0, .ref (b 0)), (1, .int v1)] := hl
    refine lv_ifnonnullN hx hb dX10_judge_7 ?_
    refine lv_aload_n hx hb dX10_judge_10 rfl (lv_at hl 1 rfl) ?_
    refine lv_iload_n hx hb dX10_judge_11 rfl (lv_at hl 2 rfl) ?_
    obtain ⟨y_37, xs_38, h_39, heq⟩ := bnd_h heq
    refine x_vi (own := RX10) (As := [.int v1]) (rest := []) hx hb hml hown hts (okX10_refusal z l D T b hR h_39) (cwV 1 hts gX10_judge_X10_refusal rfl rfl rfl hdX10_refusal ⟨Nat.le_of_ble_eq_true rfl, Nat.le_of_ble_eq_true rfl⟩) hK hA hX hP hD hS (ci := 10) (q0 := 0) rfl rfl rfl hl.1 rfl (Nat.le_of_ble_eq_true rfl) dX10_judge_12 ⟨Nat.le_of_ble_eq_true rfl, Nat.le_of_ble_eq_true rfl⟩ (fun xa_40 H locs hR hsxa_40 hP hD hS => ?_)
    have hU := xSub.tr hU hsxa_40
    obtain ⟨heq, heq2⟩ := ret_h heq
    subst heq
    subst heq2
    exact hret 15 H locs ls xa_40 hR hU hP hD hS rfl dX10_judge_15
  rw [h_34] at hl ⊢
  have hl : lv_has ls 6 [(2, .ref (xRa xa_31 k_33 0)), (0, .ref (b 0)), (1, .int v1)] := hl
  refine lv_ifnonnull (tgt := 16) hx hb dX10_judge_7 (by decide) ?_
  refine lv_aload_n hx hb dX10_judge_16 rfl (lv_at hl 1 rfl) ?_
  refine va_get (D := D) (ci := 10) (v := .ref (b 3)) (C := RX10) (T := TX10) (N := 7) hx hb hts hin10 hown hK hP 0 rfl rfl 0 (by decide) f10 (fun _ h9 => h9) rfl dX10_judge_17 ?_
  obtain ⟨y_42, st_43, h_44, heq⟩ := bnd_h heq
  refine h_vi (own := RX10) (As := []) (rest := []) (wr := xWr0 b T xa_31 xs_29) hx hb hml hown hts (okX8_isDown z l D (fun j => b (3 + j)) T (fun j => some (xFo xa_31 0 j)) h_44) (cwV 0 hts gX10_judge_X8_isDown rfl rfl rfl hdX8_isDown ⟨Nat.le_of_ble_eq_true rfl, Nat.le_of_ble_eq_true rfl⟩) hK hA hX hP hD hS (xp0 b T xa_31 xs_29) (xq0 b T xa_31 xs_29 _) (ci := 8) (q0 := 0) rfl rfl rfl hl.1 rfl (Nat.le_of_ble_eq_true rfl) dX10_judge_20 ⟨Nat.le_of_ble_eq_true rfl, Nat.le_of_ble_eq_true rfl⟩ (fun H locs hP hD hS => ?_)
  obtain ⟨xs_45, exs_45⟩ : ∃ z, z = uT xs_29 0 st_43 := ⟨_, rfl⟩
  have hR : xRel b xa_31 (uT xs_29 0 st_43) := hR.uT _ _
  rw [← exs_45] at hP hD hR
  have heq := nm_h exs_45 heq
  refine lv_if_eq (tgt := 29) hx hb dX10_judge_23 (by decide) (fun c_46 => ?_) (fun c_46 => ?_)
  · have heq := it_t c_46 heq
    refine lv_aload_n hx hb dX10_judge_29 rfl (lv_at hl 1 rfl) ?_
    refine va_get (D := D) (ci := 10) (v := .ref (b 3)) (C := RX10) (T := TX10) (N := 7) hx hb hts hin10 hown hK hP 0 rfl rfl 0 (by decide) f10 (fun _ h9 => h9) rfl dX10_judge_30 ?_
    refine lv_bipush (v := (60 : Int32)) hx hb dX10_judge_33 (by decide) ?_
    obtain ⟨y_47, st_48, h_49, heq⟩ := bnd_h heq
    refine h_vi (own := RX10) (As := [.int (60 : Int32)]) (rest := []) (wr := xWr0 b T xa_31 xs_45) hx hb hml hown hts (okX8_fallAfter z l D (fun j => b (3 + j)) T (fun j => some (xFo xa_31 0 j)) h_49) (cwV 1 hts gX10_judge_X8_fallAfter rfl rfl rfl hdX8_fallAfter ⟨Nat.le_of_ble_eq_true rfl, Nat.le_of_ble_eq_true rfl⟩) hK hA hX hP hD hS (xp0 b T xa_31 xs_45) (xq0 b T xa_31 xs_45 _) (ci := 8) (q0 := 0) rfl rfl rfl hl.1 rfl (Nat.le_of_ble_eq_true rfl) dX10_judge_35 ⟨Nat.le_of_ble_eq_true rfl, Nat.le_of_ble_eq_true rfl⟩ (fun H locs hP hD hS => ?_)
    obtain ⟨xs_50, exs_50⟩ : ∃ z, z = uT xs_45 0 st_48 := ⟨_, rfl⟩
    have hR : xRel b xa_31 (uT xs_45 0 st_48) := hR.uT _ _
    rw [← exs_50] at hP hD hR
    have heq := nm_h exs_50 heq
    refine lv_istore_n (lv' := [(3, .int y_47), (2, .ref (xRa xa_31 k_33 0)), (0, .ref (b 0)), (1, .int v1)]) hx hb dX10_judge_38 rfl hl (by decide) rfl (fun ls hl => ?_)
    refine lv_iload_n hx hb dX10_judge_39 rfl (lv_at hl 0 rfl) ?_
    refine lv_bipush (v := (-4 : Int32)) hx hb dX10_judge_40 (by decide) ?_
    refine lv_icmp_ne (tgt := 50) hx hb dX10_judge_42 (by decide) (fun c_51 => ?_) (fun c_51 => ?_)
    · have heq := it_f c_51 heq
      refine lv_iload_n hx hb dX10_judge_50 rfl (lv_at hl 0 rfl) ?_
      exact b51 xs_50 k_33 y_47 xa_31 h_36 H locs ls hR hU hP hD hS (lv_sub hl [2, 1] rfl) heq
    have heq := it_t c_51 heq
    refine lv_bipush (v := (61 : Int32)) hx hb dX10_judge_45 (by decide) ?_
    refine lv_goto (tgt := 51) hx hb dX10_judge_47 (by decide) ?_
    exact b51 xs_50 k_33 (61 : Int32) xa_31 h_36 H locs ls hR hU hP hD hS (lv_sub hl [2, 1] rfl) heq
  have heq := it_f c_46 heq
  refine lv_bipush (v := (-3 : Int32)) hx hb dX10_judge_26 (by decide) ?_
  obtain ⟨heq, heq2⟩ := ret_h heq
  subst heq
  subst heq2
  exact hret 28 H locs ls xa_31 hR hU hP hD hS rfl dX10_judge_28
set_option maxRecDepth 20000 in
theorem ggX10_days_X8_isDown : GoodIn wsX10_days wsX8_isDown := goodIn_r _ [9, 10, 118, 119, 120, 121, 122, 123, 124, 125, 126, 127] (by decide +kernel) (by decide +kernel)
set_option maxRecDepth 20000 in
theorem gX10_days_X8_isDown : GoodIn wsX10_days (wsV RX10 116 RX8 yX8_isDown wsX8_isDown) := goodIn_app (goodIn_of _ (by decide +kernel)) ggX10_days_X8_isDown
set_option maxRecDepth 20000 in
theorem ggX10_days_X8_takeFrom : GoodIn wsX10_days wsX8_takeFrom := goodIn_r _ [14, 15, 16, 17, 18, 19, 20, 21, 22, 23, 10, 118, 119, 120, 121, 122, 123, 124, 125, 126, 127] (by decide +kernel) (by decide +kernel)
set_option maxRecDepth 20000 in
theorem gX10_days_X8_takeFrom : GoodIn wsX10_days (wsV RX10 59 RX8 yX8_takeFrom wsX8_takeFrom) := goodIn_app (goodIn_of _ (by decide +kernel)) ggX10_days_X8_takeFrom
set_option maxRecDepth 20000 in
theorem ggX10_days_X10_nextSeed : GoodIn wsX10_days wsX10_nextSeed := goodIn_r _ [27, 28] (by decide +kernel) (by decide +kernel)
set_option maxRecDepth 20000 in
theorem gX10_days_X10_nextSeed : GoodIn wsX10_days (va_wsS RX10 256 yX10_nextSeed wsX10_nextSeed) := goodIn_app (goodIn_of _ (by decide +kernel)) ggX10_days_X10_nextSeed
set_option maxRecDepth 20000 in
theorem ggX10_days_X10_drawn : GoodIn wsX10_days wsX10_drawn := goodIn_r _ [31, 32, 33] (by decide +kernel) (by decide +kernel)
set_option maxRecDepth 20000 in
theorem gX10_days_X10_drawn : GoodIn wsX10_days (va_wsS RX10 259 yX10_drawn wsX10_drawn) := goodIn_app (goodIn_of _ (by decide +kernel)) ggX10_days_X10_drawn
set_option maxRecDepth 20000 in
theorem ggX10_days_X8_fallAfter : GoodIn wsX10_days wsX8_fallAfter := goodIn_r _ [37, 23, 38, 39, 40, 8, 41, 17, 42, 43, 44, 45, 46, 47, 48, 49, 50, 51, 52, 53, 18, 54, 55, 56, 57, 58, 59, 60, 61, 62, 63, 64, 16, 118, 119, 120, 121, 122, 123, 124, 125, 126, 127] (by decide +kernel) (by decide +kernel)
set_option maxRecDepth 20000 in
theorem gX10_days_X8_fallAfter : GoodIn wsX10_days (wsV RX10 190 RX8 yX8_fallAfter wsX8_fallAfter) := goodIn_app (goodIn_of _ (by decide +kernel)) ggX10_days_X8_fallAfter
set_option maxRecDepth 20000 in
theorem ggX10_days_X8_fallSideAt : GoodIn wsX10_days wsX8_fallSideAt := goodIn_r _ [45, 46, 47, 48, 8, 49, 50, 51, 52, 53, 18, 54, 55, 56, 57, 58, 59, 60, 61, 62, 63, 64, 17, 16, 118, 119, 120, 121, 122, 123, 124, 125, 126, 127] (by decide +kernel) (by decide +kernel)
set_option maxRecDepth 20000 in
theorem gX10_days_X8_fallSideAt : GoodIn wsX10_days (wsV RX10 184 RX8 yX8_fallSideAt wsX8_fallSideAt) := goodIn_app (goodIn_of _ (by decide +kernel)) ggX10_days_X8_fallSideAt
set_option maxRecDepth 20000 in
theorem ggX10_days_X8_struckBy : GoodIn wsX10_days wsX8_struckBy := goodIn_r _ [69, 70, 71, 72, 8, 73, 21, 19, 20, 18, 74, 75, 76, 77, 78, 79, 80, 81, 82, 83, 84, 85, 86, 26, 87, 88, 89, 90, 91, 92, 93, 94, 95, 96, 97, 98, 99, 100, 101, 102, 103, 118, 119, 120, 121, 122, 123, 124, 125, 126, 127] (by decide +kernel) (by decide +kernel)
set_option maxRecDepth 20000 in
theorem gX10_days_X8_struckBy : GoodIn wsX10_days (wsV RX10 235 RX8 yX8_struckBy wsX8_struckBy) := goodIn_app (goodIn_of _ (by decide +kernel)) ggX10_days_X8_struckBy
set_option maxRecDepth 20000 in
theorem ggX10_days_J6_bitCount_0f7a4 : GoodIn wsX10_days wsJ6_bitCount_0f7a4 := goodIn_r _ [107, 108, 109, 110] (by decide +kernel) (by decide +kernel)
set_option maxRecDepth 20000 in
theorem gX10_days_J6_bitCount_0f7a4 : GoodIn wsX10_days (va_wsS RX10 166 yJ6_bitCount_0f7a4 wsJ6_bitCount_0f7a4) := goodIn_app (goodIn_of _ (by decide +kernel)) ggX10_days_J6_bitCount_0f7a4
theorem dX10_days_0 : decode cX10_days 0 = .ok (.iload_n 1, 1) := by decide +kernel
theorem dX10_days_1 : decode cX10_days 1 = .ok (.iconst 1, 1) := by decide +kernel
theorem dX10_days_2 : decode cX10_days 2 = .ok (.if_icmp .lt 18, 3) := by decide +kernel
theorem dX10_days_5 : decode cX10_days 5 = .ok (.iload_n 1, 1) := by decide +kernel
theorem dX10_days_6 : decode cX10_days 6 = .ok (.bipush 20, 2) := by decide +kernel
theorem dX10_days_8 : decode cX10_days 8 = .ok (.if_icmp .gt 12, 3) := by decide +kernel
theorem dX10_days_11 : decode cX10_days 11 = .ok (.iload_n 3, 1) := by decide +kernel
theorem dX10_days_12 : decode cX10_days 12 = .ok (.ifCond .lt 8, 3) := by decide +kernel
theorem dX10_days_15 : decode cX10_days 15 = .ok (.iload_n 3, 1) := by decide +kernel
theorem dX10_days_16 : decode cX10_days 16 = .ok (.iconst 1, 1) := by decide +kernel
theorem dX10_days_17 : decode cX10_days 17 = .ok (.if_icmp .le 5, 3) := by decide +kernel
theorem dX10_days_20 : decode cX10_days 20 = .ok (.iconst (-1), 1) := by decide +kernel
theorem dX10_days_21 : decode cX10_days 21 = .ok (.ireturn, 1) := by decide +kernel
theorem dX10_days_22 : decode cX10_days 22 = .ok (.aload_n 0, 1) := by decide +kernel
theorem dX10_days_23 : decode cX10_days 23 = .ok (.getfield 10, 3) := by decide +kernel
theorem dX10_days_26 : decode cX10_days 26 = .ok (.invokevirtual 116, 3) := by decide +kernel
theorem dX10_days_29 : decode cX10_days 29 = .ok (.ifCond .eq 6, 3) := by decide +kernel
theorem dX10_days_32 : decode cX10_days 32 = .ok (.bipush (-3), 2) := by decide +kernel
theorem dX10_days_34 : decode cX10_days 34 = .ok (.ireturn, 1) := by decide +kernel
theorem dX10_days_35 : decode cX10_days 35 = .ok (.aload_n 0, 1) := by decide +kernel
theorem dX10_days_36 : decode cX10_days 36 = .ok (.getfield 16, 3) := by decide +kernel
theorem dX10_days_39 : decode cX10_days 39 = .ok (.aload_n 0, 1) := by decide +kernel
theorem dX10_days_40 : decode cX10_days 40 = .ok (.getfield 10, 3) := by decide +kernel
theorem dX10_days_43 : decode cX10_days 43 = .ok (.invokevirtual 59, 3) := by decide +kernel
theorem dX10_days_46 : decode cX10_days 46 = .ok (.iload_n 2, 1) := by decide +kernel
theorem dX10_days_47 : decode cX10_days 47 = .ok (.istore 4, 2) := by decide +kernel
theorem dX10_days_49 : decode cX10_days 49 = .ok (.iconst 0, 1) := by decide +kernel
theorem dX10_days_50 : decode cX10_days 50 = .ok (.istore 5, 2) := by decide +kernel
theorem dX10_days_52 : decode cX10_days 52 = .ok (.iconst 0, 1) := by decide +kernel
theorem dX10_days_53 : decode cX10_days 53 = .ok (.istore 6, 2) := by decide +kernel
theorem dX10_days_55 : decode cX10_days 55 = .ok (.iconst 0, 1) := by decide +kernel
theorem dX10_days_56 : decode cX10_days 56 = .ok (.istore 7, 2) := by decide +kernel
theorem dX10_days_58 : decode cX10_days 58 = .ok (.iload 7, 2) := by decide +kernel
theorem dX10_days_60 : decode cX10_days 60 = .ok (.iload_n 1, 1) := by decide +kernel
theorem dX10_days_61 : decode cX10_days 61 = .ok (.if_icmp .ge 142, 3) := by decide +kernel
theorem dX10_days_64 : decode cX10_days 64 = .ok (.iload 4, 2) := by decide +kernel
theorem dX10_days_66 : decode cX10_days 66 = .ok (.invokestatic 256, 3) := by decide +kernel
theorem dX10_days_69 : decode cX10_days 69 = .ok (.istore 4, 2) := by decide +kernel
theorem dX10_days_71 : decode cX10_days 71 = .ok (.aload_n 0, 1) := by decide +kernel
theorem dX10_days_72 : decode cX10_days 72 = .ok (.getfield 16, 3) := by decide +kernel
theorem dX10_days_75 : decode cX10_days 75 = .ok (.getfield 120, 3) := by decide +kernel
theorem dX10_days_78 : decode cX10_days 78 = .ok (.iconst 2, 1) := by decide +kernel
theorem dX10_days_79 : decode cX10_days 79 = .ok (.iload 4, 2) := by decide +kernel
theorem dX10_days_81 : decode cX10_days 81 = .ok (.invokestatic 259, 3) := by decide +kernel
theorem dX10_days_84 : decode cX10_days 84 = .ok (.bipush 12, 2) := by decide +kernel
theorem dX10_days_86 : decode cX10_days 86 = .ok (.irem, 1) := by decide +kernel
theorem dX10_days_87 : decode cX10_days 87 = .ok (.iastore, 1) := by decide +kernel
theorem dX10_days_88 : decode cX10_days 88 = .ok (.iload 4, 2) := by decide +kernel
theorem dX10_days_90 : decode cX10_days 90 = .ok (.invokestatic 256, 3) := by decide +kernel
theorem dX10_days_93 : decode cX10_days 93 = .ok (.istore 4, 2) := by decide +kernel
theorem dX10_days_95 : decode cX10_days 95 = .ok (.aload_n 0, 1) := by decide +kernel
theorem dX10_days_96 : decode cX10_days 96 = .ok (.getfield 16, 3) := by decide +kernel
theorem dX10_days_99 : decode cX10_days 99 = .ok (.getfield 120, 3) := by decide +kernel
theorem dX10_days_102 : decode cX10_days 102 = .ok (.iconst 3, 1) := by decide +kernel
theorem dX10_days_103 : decode cX10_days 103 = .ok (.iload 4, 2) := by decide +kernel
theorem dX10_days_105 : decode cX10_days 105 = .ok (.invokestatic 259, 3) := by decide +kernel
theorem dX10_days_108 : decode cX10_days 108 = .ok (.bipush 21, 2) := by decide +kernel
theorem dX10_days_110 : decode cX10_days 110 = .ok (.irem, 1) := by decide +kernel
theorem dX10_days_111 : decode cX10_days 111 = .ok (.iastore, 1) := by decide +kernel
theorem dX10_days_112 : decode cX10_days 112 = .ok (.aload_n 0, 1) := by decide +kernel
theorem dX10_days_113 : decode cX10_days 113 = .ok (.getfield 16, 3) := by decide +kernel
theorem dX10_days_116 : decode cX10_days 116 = .ok (.bipush 60, 2) := by decide +kernel
theorem dX10_days_118 : decode cX10_days 118 = .ok (.invokevirtual 190, 3) := by decide +kernel
theorem dX10_days_121 : decode cX10_days 121 = .ok (.istore 8, 2) := by decide +kernel
theorem dX10_days_123 : decode cX10_days 123 = .ok (.iload 8, 2) := by decide +kernel
theorem dX10_days_125 : decode cX10_days 125 = .ok (.bipush (-4), 2) := by decide +kernel
theorem dX10_days_127 : decode cX10_days 127 = .ok (.if_icmp .eq 70, 3) := by decide +kernel
theorem dX10_days_130 : decode cX10_days 130 = .ok (.aload_n 0, 1) := by decide +kernel
theorem dX10_days_131 : decode cX10_days 131 = .ok (.getfield 16, 3) := by decide +kernel
theorem dX10_days_134 : decode cX10_days 134 = .ok (.getfield 93, 3) := by decide +kernel
theorem dX10_days_137 : decode cX10_days 137 = .ok (.iload 8, 2) := by decide +kernel
theorem dX10_days_139 : decode cX10_days 139 = .ok (.iadd, 1) := by decide +kernel
theorem dX10_days_140 : decode cX10_days 140 = .ok (.istore 9, 2) := by decide +kernel
theorem dX10_days_142 : decode cX10_days 142 = .ok (.aload_n 0, 1) := by decide +kernel
theorem dX10_days_143 : decode cX10_days 143 = .ok (.getfield 16, 3) := by decide +kernel
theorem dX10_days_146 : decode cX10_days 146 = .ok (.iload 9, 2) := by decide +kernel
theorem dX10_days_148 : decode cX10_days 148 = .ok (.invokevirtual 184, 3) := by decide +kernel
theorem dX10_days_151 : decode cX10_days 151 = .ok (.istore 10, 2) := by decide +kernel
theorem dX10_days_153 : decode cX10_days 153 = .ok (.iload 5, 2) := by decide +kernel
theorem dX10_days_155 : decode cX10_days 155 = .ok (.iload 10, 2) := by decide +kernel
theorem dX10_days_157 : decode cX10_days 157 = .ok (.aload_n 0, 1) := by decide +kernel
theorem dX10_days_158 : decode cX10_days 158 = .ok (.getfield 16, 3) := by decide +kernel
theorem dX10_days_161 : decode cX10_days 161 = .ok (.getfield 120, 3) := by decide +kernel
theorem dX10_days_164 : decode cX10_days 164 = .ok (.bipush 6, 2) := by decide +kernel
theorem dX10_days_166 : decode cX10_days 166 = .ok (.iaload, 1) := by decide +kernel
theorem dX10_days_167 : decode cX10_days 167 = .ok (.if_icmp .ne 7, 3) := by decide +kernel
theorem dX10_days_170 : decode cX10_days 170 = .ok (.iconst 1, 1) := by decide +kernel
theorem dX10_days_171 : decode cX10_days 171 = .ok (.goto 4, 3) := by decide +kernel
theorem dX10_days_174 : decode cX10_days 174 = .ok (.iconst 0, 1) := by decide +kernel
theorem dX10_days_175 : decode cX10_days 175 = .ok (.iadd, 1) := by decide +kernel
theorem dX10_days_176 : decode cX10_days 176 = .ok (.istore 5, 2) := by decide +kernel
theorem dX10_days_178 : decode cX10_days 178 = .ok (.iload 6, 2) := by decide +kernel
theorem dX10_days_180 : decode cX10_days 180 = .ok (.aload_n 0, 1) := by decide +kernel
theorem dX10_days_181 : decode cX10_days 181 = .ok (.getfield 16, 3) := by decide +kernel
theorem dX10_days_184 : decode cX10_days 184 = .ok (.iload 10, 2) := by decide +kernel
theorem dX10_days_186 : decode cX10_days 186 = .ok (.iload 9, 2) := by decide +kernel
theorem dX10_days_188 : decode cX10_days 188 = .ok (.invokevirtual 235, 3) := by decide +kernel
theorem dX10_days_191 : decode cX10_days 191 = .ok (.invokestatic 166, 3) := by decide +kernel
theorem dX10_days_194 : decode cX10_days 194 = .ok (.iadd, 1) := by decide +kernel
theorem dX10_days_195 : decode cX10_days 195 = .ok (.istore 6, 2) := by decide +kernel
theorem dX10_days_197 : decode cX10_days 197 = .ok (.iinc 7 1, 3) := by decide +kernel
theorem dX10_days_200 : decode cX10_days 200 = .ok (.goto (-142), 3) := by decide +kernel
theorem dX10_days_203 : decode cX10_days 203 = .ok (.iload_n 3, 1) := by decide +kernel
theorem dX10_days_204 : decode cX10_days 204 = .ok (.ifCond .ne 8, 3) := by decide +kernel
theorem dX10_days_207 : decode cX10_days 207 = .ok (.iload 5, 2) := by decide +kernel
theorem dX10_days_209 : decode cX10_days 209 = .ok (.goto 5, 3) := by decide +kernel
theorem dX10_days_212 : decode cX10_days 212 = .ok (.iload 6, 2) := by decide +kernel
theorem dX10_days_214 : decode cX10_days 214 = .ok (.ireturn, 1) := by decide +kernel
/-! X10 days -/
def X10_days_p197 (k58 : XS → Int32 → Int32 → Int32 → Int32 → Int32 → Int32 → Option (Int32 × XS)) (xs : XS) (v1 : Int32) (v3 : Int32) (v4 : Int32) (v5 : Int32) (v6 : Int32) (v7 : Int32) : Option (Int32 × XS) :=
    nm (v7 + (1 : Int32)) fun x_1 =>
    k58 xs v1 v3 v4 v5 v6 x_1
def X10_days_p175 (k58 : XS → Int32 → Int32 → Int32 → Int32 → Int32 → Int32 → Option (Int32 × XS)) (xs : XS) (v1 : Int32) (v3 : Int32) (v4 : Int32) (v6 : Int32) (v7 : Int32) (v9 : Int32) (v10 : Int32) (t0 : Int32) (t1 : Int32) : Option (Int32 × XS) :=
    nm ((t0 + t1)) fun x_2 =>
    bnd (X8_struckBy (xT xs 1) v10 v9) fun y_3 st_4 =>
    nm (uT xs 1 st_4) fun xs_6 =>
    bd1 (J6_bitCount_0f7a4 y_3) fun y_7 =>
    nm ((v6 + y_7)) fun x_9 =>
    X10_days_p197 k58 xs_6 v1 v3 v4 x_2 x_9 v7
def X10_days_p214 (xs : XS) (t0 : Int32) : Option (Int32 × XS) :=
    some (t0, xs)
def X10_days_p203 (xs : XS) (v3 : Int32) (v5 : Int32) (v6 : Int32) : Option (Int32 × XS) :=
    if v3 = 0 then
      (X10_days_p214 xs v5)
    else
    X10_days_p214 xs v6
def X10_days_p58 : Nat → XS → Int32 → Int32 → Int32 → Int32 → Int32 → Int32 → Option (Int32 × XS)
  | 0, _, _, _, _, _, _, _ => none
  | n + 1, xs, v1, v3, v4, v5, v6, v7 =>
    if v1 ≤ v7 then
      (X10_days_p203 xs v3 v5 v6)
    else
    bd1 (X10_nextSeed v4) fun y_12 =>
    bd1 (X10_drawn y_12) fun y_14 =>
    dvi (12 : Int32) <|
    inr (2 : Int32) 7 <|
    nm (uT xs 1 (sA (xT xs 1) 3 (2 : Int32).toNatClampNeg (y_14 - y_14 / (12 : Int32) * (12 : Int32)))) fun xs_18 =>
    bd1 (X10_nextSeed y_12) fun y_19 =>
    bd1 (X10_drawn y_19) fun y_21 =>
    dvi (21 : Int32) <|
    inr (3 : Int32) 7 <|
    nm (uT xs_18 1 (sA (xT xs_18 1) 3 (3 : Int32).toNatClampNeg (y_21 - y_21 / (21 : Int32) * (21 : Int32)))) fun xs_25 =>
    bnd (X8_fallAfter (xT xs_25 1) (60 : Int32)) fun y_26 st_27 =>
    nm (uT xs_25 1 st_27) fun xs_29 =>
    if y_26 = (-4 : Int32) then
      (X10_days_p197 (fun xs v1 v3 v4 v5 v6 v7 => X10_days_p58 n xs v1 v3 v4 v5 v6 v7) xs_29 v1 v3 y_19 v5 v6 v7)
    else
    nm (((gF (xT xs_29 1) 8) + y_26)) fun x_31 =>
    bnd (X8_fallSideAt (xT xs_29 1) x_31) fun y_32 st_33 =>
    nm (uT xs_29 1 st_33) fun xs_35 =>
    inr (6 : Int32) 7 <|
    if y_32 = (gA (xT xs_35 1) 3 (6 : Int32).toNatClampNeg) then
      (X10_days_p175 (fun xs v1 v3 v4 v5 v6 v7 => X10_days_p58 n xs v1 v3 v4 v5 v6 v7) xs_35 v1 v3 y_19 v6 v7 x_31 y_32 v5 (1 : Int32))
    else
    X10_days_p175 (fun xs v1 v3 v4 v5 v6 v7 => X10_days_p58 n xs v1 v3 v4 v5 v6 v7) xs_35 v1 v3 y_19 v6 v7 x_31 y_32 v5 (0 : Int32)
theorem X10_days_p58_s (n : Nat) (xs : XS) (v1 : Int32) (v3 : Int32) (v4 : Int32) (v5 : Int32) (v6 : Int32) (v7 : Int32) : X10_days_p58 (n + 1) xs v1 v3 v4 v5 v6 v7 =
    (if v1 ≤ v7 then
      (X10_days_p203 xs v3 v5 v6)
    else
    bd1 (X10_nextSeed v4) fun y_12 =>
    bd1 (X10_drawn y_12) fun y_14 =>
    dvi (12 : Int32) <|
    inr (2 : Int32) 7 <|
    nm (uT xs 1 (sA (xT xs 1) 3 (2 : Int32).toNatClampNeg (y_14 - y_14 / (12 : Int32) * (12 : Int32)))) fun xs_18 =>
    bd1 (X10_nextSeed y_12) fun y_19 =>
    bd1 (X10_drawn y_19) fun y_21 =>
    dvi (21 : Int32) <|
    inr (3 : Int32) 7 <|
    nm (uT xs_18 1 (sA (xT xs_18 1) 3 (3 : Int32).toNatClampNeg (y_21 - y_21 / (21 : Int32) * (21 : Int32)))) fun xs_25 =>
    bnd (X8_fallAfter (xT xs_25 1) (60 : Int32)) fun y_26 st_27 =>
    nm (uT xs_25 1 st_27) fun xs_29 =>
    if y_26 = (-4 : Int32) then
      (X10_days_p197 (fun xs v1 v3 v4 v5 v6 v7 => X10_days_p58 n xs v1 v3 v4 v5 v6 v7) xs_29 v1 v3 y_19 v5 v6 v7)
    else
    nm (((gF (xT xs_29 1) 8) + y_26)) fun x_31 =>
    bnd (X8_fallSideAt (xT xs_29 1) x_31) fun y_32 st_33 =>
    nm (uT xs_29 1 st_33) fun xs_35 =>
    inr (6 : Int32) 7 <|
    if y_32 = (gA (xT xs_35 1) 3 (6 : Int32).toNatClampNeg) then
      (X10_days_p175 (fun xs v1 v3 v4 v5 v6 v7 => X10_days_p58 n xs v1 v3 v4 v5 v6 v7) xs_35 v1 v3 y_19 v6 v7 x_31 y_32 v5 (1 : Int32))
    else
    X10_days_p175 (fun xs v1 v3 v4 v5 v6 v7 => X10_days_p58 n xs v1 v3 v4 v5 v6 v7) xs_35 v1 v3 y_19 v6 v7 x_31 y_32 v5 (0 : Int32)) := rfl
def X10_days (xs : XS) (v1 : Int32) (v2 : Int32) (v3 : Int32) : Option (Int32 × XS) :=
    if v1 < (1 : Int32) then
      (some ((-1 : Int32), xs))
    else
    if (20 : Int32) < v1 then
      (some ((-1 : Int32), xs))
    else
    if v3 < 0 then
      (some ((-1 : Int32), xs))
    else
    if v3 ≤ (1 : Int32) then
      (bnd (X8_isDown (xT xs 0)) fun y_42 st_43 =>
      nm (uT xs 0 st_43) fun xs_45 =>
      if y_42 = 0 then
        (bnd (X8_takeFrom_1_0 xs_45) fun _ xs_47 =>
        X10_days_p58 5000 xs_47 v1 v3 v2 (0 : Int32) (0 : Int32) (0 : Int32))
      else
      some ((-3 : Int32), xs_45))
    else
    some ((-1 : Int32), xs)
abbrev rmX10_days : Room := { frames := 5, cells := 0, slots := 0, locals := 117 }
theorem hdX10_days : yX10_days.cls = RX10 ∧ yX10_days.cls ≠ "java/lang/invoke/MethodHandle" ∧ yX10_days.cls ≠ "java/lang/invoke/VarHandle" ∧ (parseMethodDescriptor yX10_days.desc).map (fun d => d.parameters.length) = some 3 := by decide +kernel
set_option maxRecDepth 100000 in
set_option maxHeartbeats 8000000 in
theorem okX10_days (z : Nat → Nat) (l : Launch) (D : va_G) (T : mT3) (b : Nat → Nat) {xa : XA} {xs : XS} {v1 : Int32} {v2 : Int32} {v3 : Int32} {r : Int32} {xs' : XS} (hR : xRel b xa xs) (heq : X10_days xs v1 v2 v3 = some (r, xs')) : hXi xSub z l D T b yX10_days wsX10_days rmX10_days [.ref (b 0), .int v1, .int v2, .int v3] xa xs r xs' := by
  refine xbody_i (plainFor_of_name (by decide)) rfl (Nat.le_of_ble_eq_true rfl) (fun p e s m args below meth c A Q hx hb hml hown hts hK hA hX hret ls hP hD hS hl => ?_)
  have hl : lv_has ls 11 [(0, .ref (b 0)), (1, .int v1), (2, .int v2), (3, .int v3)] := hl
  have hin10 : ∀ w ∈ wsX100, w ∈ wsX10_days := by decide +kernel
  have hin8 : ∀ w ∈ wsX80, w ∈ wsX10_days := by decide +kernel
  have f10 : (Cond.fieldLink RX10 10 RX10 (TX10 0).2.1 (TX10 0).2.2.1).before args s = true := hts (.fieldLink RX10 10 RX10 "now" "LLaidDownTheLane$Town;") (by decide +kernel)
  have f16 : (Cond.fieldLink RX10 16 RX10 (TX10 1).2.1 (TX10 1).2.2.1).before args s = true := hts (.fieldLink RX10 16 RX10 "trial" "LLaidDownTheLane$Town;") (by decide +kernel)
  have f93 : (Cond.fieldLink RX10 93 RX8 (TX8 8).2.1 (TX8 8).2.2.1).before args s = true := hts (.fieldLink RX10 93 RX8 "minute" "I") (by decide +kernel)
  have f120 : (Cond.fieldLink RX10 120 RX8 (TX8 3).2.1 (TX8 3).2.2.1).before args s = true := hts (.fieldLink RX10 120 RX8 "told" "[I") (by decide +kernel)
  obtain ⟨xa0, hxa0⟩ : ∃ z : XA, z = xa := ⟨_, rfl⟩
  rw [← hxa0] at hret
  have hU : xSub xa0 xa := by rw [hxa0]; exact xSub.rf
  clear hxa0
  have b197 : ∀ (k58 : XS → Int32 → Int32 → Int32 → Int32 → Int32 → Int32 → Option (Int32 × XS)) (hk58 : ∀ (xs : XS) (v1 : Int32) (v3 : Int32) (v4 : Int32) (v5 : Int32) (v6 : Int32) (v7 : Int32) (xa : XA) (H : Heap) (locs : List Loc) (ls : Array Slot), xRel b xa xs → xSub xa0 xa → va_P D vwCl (xW b T xa xs) H → va_D A (xW b T xa xs) → va_S A s.heap H locs → lv_has ls 11 [(0, .ref (b 0)), (1, .int v1), (3, .int v3), (4, .int v4), (5, .int v5), (6, .int v6), (7, .int v7)] → k58 xs v1 v3 v4 v5 v6 v7 = some (r, xs') → W p l e rmX10_days s m args below meth c H locs 0 0 Q (F0 m 58 ls [])), ∀ (xs : XS) (v1 : Int32) (v3 : Int32) (v4 : Int32) (v5 : Int32) (v6 : Int32) (v7 : Int32) (xa : XA) (H : Heap) (locs : List Loc) (ls : Array Slot), xRel b xa xs → xSub xa0 xa → va_P D vwCl (xW b T xa xs) H → va_D A (xW b T xa xs) → va_S A s.heap H locs → lv_has ls 11 [(0, .ref (b 0)), (1, .int v1), (3, .int v3), (4, .int v4), (5, .int v5), (6, .int v6), (7, .int v7)] → X10_days_p197 k58 xs v1 v3 v4 v5 v6 v7 = some (r, xs') → W p l e rmX10_days s m args below meth c H locs 0 0 Q (F0 m 197 ls []) := by
    intro k58 hk58 xs v1 v3 v4 v5 v6 v7 xa H locs ls hR hU hP hD hS hl heq
    unfold X10_days_p197 at heq
    obtain ⟨x_1, ex_1⟩ : ∃ y : Int32, y = v7 + (1 : Int32) := ⟨_, rfl⟩
    have heq := nm_h ex_1 heq
    refine lv_iinc (v := x_1) (lv' := [(7, .int x_1), (0, .ref (b 0)), (1, .int v1), (3, .int v3), (4, .int v4), (5, .int v5), (6, .int v6)]) hx hb dX10_days_197 hl (k := 6) rfl (by rw [ex_1]; rfl) (by decide) rfl (fun ls hl => ?_)
    refine lv_goto (tgt := 58) hx hb dX10_days_200 (by decide) ?_
    exact hk58 xs v1 v3 v4 v5 v6 x_1 xa H locs ls hR hU hP hD hS (lv_sub hl [1, 2, 3, 4, 5, 6, 0] rfl) heq
  have b175 : ∀ (k58 : XS → Int32 → Int32 → Int32 → Int32 → Int32 → Int32 → Option (Int32 × XS)) (hk58 : ∀ (xs : XS) (v1 : Int32) (v3 : Int32) (v4 : Int32) (v5 : Int32) (v6 : Int32) (v7 : Int32) (xa : XA) (H : Heap) (locs : List Loc) (ls : Array Slot), xRel b xa xs → xSub xa0 xa → va_P D vwCl (xW b T xa xs) H → va_D A (xW b T xa xs) → va_S A s.heap H locs → lv_has ls 11 [(0, .ref (b 0)), (1, .int v1), (3, .int v3), (4, .int v4), (5, .int v5), (6, .int v6), (7, .int v7)] → k58 xs v1 v3 v4 v5 v6 v7 = some (r, xs') → W p l e rmX10_days s m args below meth c H locs 0 0 Q (F0 m 58 ls [])), ∀ (xs : XS) (v1 : Int32) (v3 : Int32) (v4 : Int32) (v6 : Int32) (v7 : Int32) (v9 : Int32) (v10 : Int32) (t0 : Int32) (t1 : Int32) (xa : XA) (H : Heap) (locs : List Loc) (ls : Array Slot), xRel b xa xs → xSub xa0 xa → va_P D vwCl (xW b T xa xs) H → va_D A (xW b T xa xs) → va_S A s.heap H locs → lv_has ls 11 [(0, .ref (b 0)), (1, .int v1), (3, .int v3), (4, .int v4), (6, .int v6), (7, .int v7), (9, .int v9), (10, .int v10)] → X10_days_p175 k58 xs v1 v3 v4 v6 v7 v9 v10 t0 t1 = some (r, xs') → W p l e rmX10_days s m args below meth c H locs 0 0 Q (F0 m 175 ls [.int t1, .int t0]) := by
    intro k58 hk58 xs v1 v3 v4 v6 v7 v9 v10 t0 t1 xa H locs ls hR hU hP hD hS hl heq
    unfold X10_days_p175 at heq
    refine lv_iadd hx hb dX10_days_175 ?_
    refine lv_topi (fun x_2 ex_2 => ?_)
    have heq := nm_h ex_2 heq
    refine lv_istore (lv' := [(5, .int x_2), (0, .ref (b 0)), (1, .int v1), (3, .int v3), (4, .int v4), (6, .int v6), (7, .int v7), (9, .int v9), (10, .int v10)]) hx hb dX10_days_176 hl (by decide) rfl (fun ls hl => ?_)
    refine lv_iload hx hb dX10_days_178 (lv_at hl 5 rfl) ?_
    refine lv_aload_n hx hb dX10_days_180 rfl (lv_at hl 1 rfl) ?_
    refine va_get (D := D) (ci := 10) (v := .ref (b 10)) (C := RX10) (T := TX10) (N := 7) hx hb hts hin10 hown hK hP 0 rfl rfl 1 (by decide) f16 (fun _ h9 => h9) rfl dX10_days_181 ?_
    refine lv_iload hx hb dX10_days_184 (lv_at hl 8 rfl) ?_
    refine lv_iload hx hb dX10_days_186 (lv_at hl 7 rfl) ?_
    obtain ⟨y_3, st_4, h_5, heq⟩ := bnd_h heq
    refine h_vi (own := RX10) (As := [.int v10, .int v9]) (rest := [.int v6]) (wr := xWr1 b T xa xs) hx hb hml hown hts (okX8_struckBy z l D (fun j => b (10 + j)) T (fun j => some (xFo xa 1 j)) h_5) (cwV 2 hts gX10_days_X8_struckBy rfl rfl rfl hdX8_struckBy ⟨Nat.le_of_ble_eq_true rfl, Nat.le_of_ble_eq_true rfl⟩) hK hA hX hP hD hS (xp1 b T xa xs) (xq1 b T xa xs _) (ci := 8) (q0 := 0) rfl rfl rfl hl.1 rfl (Nat.le_of_ble_eq_true rfl) dX10_days_188 ⟨Nat.le_of_ble_eq_true rfl, Nat.le_of_ble_eq_true rfl⟩ (fun H locs hP hD hS => ?_)
    obtain ⟨xs_6, exs_6⟩ : ∃ z, z = uT xs 1 st_4 := ⟨_, rfl⟩
    have hR : xRel b xa (uT xs 1 st_4) := hR.uT _ _
    rw [← exs_6] at hP hD hR
    have heq := nm_h exs_6 heq
    obtain ⟨y_7, h_8, heq⟩ := bd1_h heq
    refine h_si (own := RX10) (As := [.int y_3]) (rest := [.int v6]) (w0 := []) (w1 := []) (wr := xW b T xa xs_6) hx hb hml hown hts (okJ6_bitCount_0f7a4 z l D h_8) (va_cwS 1 hts gX10_days_J6_bitCount_0f7a4 rfl rfl rfl (hdJ6_bitCount_0f7a4).2 ⟨Nat.le_of_ble_eq_true rfl, Nat.le_of_ble_eq_true rfl⟩) (hK.sub [] rfl) hA hX hP hD hS (List.Perm.refl _) (List.Perm.refl _) rfl hl.1 rfl (Nat.le_of_ble_eq_true rfl) dX10_days_191 ⟨Nat.le_of_ble_eq_true rfl, Nat.le_of_ble_eq_true rfl⟩ (fun H locs hP hD hS => ?_)
    refine lv_iadd hx hb dX10_days_194 ?_
    refine lv_topi (fun x_9 ex_9 => ?_)
    have heq := nm_h ex_9 heq
    refine lv_istore (lv' := [(6, .int x_9), (5, .int x_2), (0, .ref (b 0)), (1, .int v1), (3, .int v3), (4, .int v4), (7, .int v7), (9, .int v9), (10, .int v10)]) hx hb dX10_days_195 hl (by decide) rfl (fun ls hl => ?_)
    exact b197 k58 hk58 xs_6 v1 v3 v4 x_2 x_9 v7 xa H locs ls hR hU hP hD hS (lv_sub hl [2, 3, 4, 5, 1, 0, 6] rfl) heq
  have b214 : ∀ (xs : XS) (t0 : Int32) (xa : XA) (H : Heap) (locs : List Loc) (ls : Array Slot), xRel b xa xs → xSub xa0 xa → va_P D vwCl (xW b T xa xs) H → va_D A (xW b T xa xs) → va_S A s.heap H locs → lv_has ls 11 [] → X10_days_p214 xs t0 = some (r, xs') → W p l e rmX10_days s m args below meth c H locs 0 0 Q (F0 m 214 ls [.int t0]) := by
    intro xs t0 xa H locs ls hR hU hP hD hS hl heq
    unfold X10_days_p214 at heq
    obtain ⟨heq, heq2⟩ := ret_h heq
    subst heq
    subst heq2
    exact hret 214 H locs ls xa hR hU hP hD hS rfl dX10_days_214
  have b203 : ∀ (xs : XS) (v3 : Int32) (v5 : Int32) (v6 : Int32) (xa : XA) (H : Heap) (locs : List Loc) (ls : Array Slot), xRel b xa xs → xSub xa0 xa → va_P D vwCl (xW b T xa xs) H → va_D A (xW b T xa xs) → va_S A s.heap H locs → lv_has ls 11 [(3, .int v3), (5, .int v5), (6, .int v6)] → X10_days_p203 xs v3 v5 v6 = some (r, xs') → W p l e rmX10_days s m args below meth c H locs 0 0 Q (F0 m 203 ls []) := by
    intro xs v3 v5 v6 xa H locs ls hR hU hP hD hS hl heq
    unfold X10_days_p203 at heq
    refine lv_iload_n hx hb dX10_days_203 rfl (lv_at hl 0 rfl) ?_
    refine lv_if_ne (tgt := 212) hx hb dX10_days_204 (by decide) (fun c_10 => ?_) (fun c_10 => ?_)
    · have heq := it_f c_10 heq
      refine lv_iload hx hb dX10_days_212 (lv_at hl 2 rfl) ?_
      exact b214 xs v6 xa H locs ls hR hU hP hD hS (lv_sub hl [] rfl) heq
    have heq := it_t c_10 heq
    refine lv_iload hx hb dX10_days_207 (lv_at hl 1 rfl) ?_
    refine lv_goto (tgt := 214) hx hb dX10_days_209 (by decide) ?_
    exact b214 xs v5 xa H locs ls hR hU hP hD hS (lv_sub hl [] rfl) heq
  have b58 : ∀ (n : Nat), ∀ (xs : XS) (v1 : Int32) (v3 : Int32) (v4 : Int32) (v5 : Int32) (v6 : Int32) (v7 : Int32) (xa : XA) (H : Heap) (locs : List Loc) (ls : Array Slot), xRel b xa xs → xSub xa0 xa → va_P D vwCl (xW b T xa xs) H → va_D A (xW b T xa xs) → va_S A s.heap H locs → lv_has ls 11 [(0, .ref (b 0)), (1, .int v1), (3, .int v3), (4, .int v4), (5, .int v5), (6, .int v6), (7, .int v7)] → X10_days_p58 n xs v1 v3 v4 v5 v6 v7 = some (r, xs') → W p l e rmX10_days s m args below meth c H locs 0 0 Q (F0 m 58 ls []) := by
    intro n
    induction n with
    | zero => intro xs v1 v3 v4 v5 v6 v7 xa H locs ls hR hU hP hD hS hl heq; cases heq
    | succ n ih =>
      intro xs v1 v3 v4 v5 v6 v7 xa H locs ls hR hU hP hD hS hl heq
      rw [X10_days_p58_s] at heq
      refine lv_iload hx hb dX10_days_58 (lv_at hl 6 rfl) ?_
      refine lv_iload_n hx hb dX10_days_60 rfl (lv_at hl 1 rfl) ?_
      refine lv_icmp_ge (tgt := 203) hx hb dX10_days_61 (by decide) (fun c_11 => ?_) (fun c_11 => ?_)
      · have heq := it_t c_11 heq
        exact b203 xs v3 v5 v6 xa H locs ls hR hU hP hD hS (lv_sub hl [2, 4, 5] rfl) heq
      have heq := it_f c_11 heq
      refine lv_iload hx hb dX10_days_64 (lv_at hl 3 rfl) ?_
      obtain ⟨y_12, h_13, heq⟩ := bd1_h heq
      refine h_si (own := RX10) (As := [.int v4]) (rest := []) (w0 := []) (w1 := []) (wr := xW b T xa xs) hx hb hml hown hts (okX10_nextSeed z l D h_13) (va_cwS 1 hts gX10_days_X10_nextSeed rfl rfl rfl (hdX10_nextSeed).2 ⟨Nat.le_of_ble_eq_true rfl, Nat.le_of_ble_eq_true rfl⟩) (hK.sub [] rfl) hA hX hP hD hS (List.Perm.refl _) (List.Perm.refl _) rfl hl.1 rfl (Nat.le_of_ble_eq_true rfl) dX10_days_66 ⟨Nat.le_of_ble_eq_true rfl, Nat.le_of_ble_eq_true rfl⟩ (fun H locs hP hD hS => ?_)
      refine lv_istore (lv' := [(4, .int y_12), (0, .ref (b 0)), (1, .int v1), (3, .int v3), (5, .int v5), (6, .int v6), (7, .int v7)]) hx hb dX10_days_69 hl (by decide) rfl (fun ls hl => ?_)
      refine lv_aload_n hx hb dX10_days_71 rfl (lv_at hl 1 rfl) ?_
      refine va_get (D := D) (ci := 10) (v := .ref (b 10)) (C := RX10) (T := TX10) (N := 7) hx hb hts hin10 hown hK hP 0 rfl rfl 1 (by decide) f16 (fun _ h9 => h9) rfl dX10_days_72 ?_
      refine va_get (D := D) (ci := 8) (v := .ref (b 14)) (C := RX8) (T := TX8) (N := 10) hx hb hts hin8 hown hK hP 10 rfl rfl 3 (by decide) f120 (fun _ h9 => h9) rfl dX10_days_75 ?_
      refine lv_iconst (v := (2 : Int32)) hx hb dX10_days_78 (by decide) ?_
      refine lv_iload hx hb dX10_days_79 (lv_at hl 0 rfl) ?_
      obtain ⟨y_14, h_15, heq⟩ := bd1_h heq
      refine h_si (own := RX10) (As := [.int y_12]) (rest := [.int (2 : Int32), .ref (b 14)]) (w0 := []) (w1 := []) (wr := xW b T xa xs) hx hb hml hown hts (okX10_drawn z l D h_15) (va_cwS 1 hts gX10_days_X10_drawn rfl rfl rfl (hdX10_drawn).2 ⟨Nat.le_of_ble_eq_true rfl, Nat.le_of_ble_eq_true rfl⟩) (hK.sub [] rfl) hA hX hP hD hS (List.Perm.refl _) (List.Perm.refl _) rfl hl.1 rfl (Nat.le_of_ble_eq_true rfl) dX10_days_81 ⟨Nat.le_of_ble_eq_true rfl, Nat.le_of_ble_eq_true rfl⟩ (fun H locs hP hD hS => ?_)
      refine lv_bipush (v := (12 : Int32)) hx hb dX10_days_84 (by decide) ?_
      obtain ⟨n_16, heq⟩ := dvi_h heq
      refine lv_irem hx hb dX10_days_86 n_16 ?_
      obtain ⟨n_17, heq⟩ := inr_h heq
      refine va_iast (f := gA (xT xs 1) 3) (n := 7) hx hb hK hP hD hS 14 0 rfl rfl n_17 dX10_days_87 (fun H locs hP hD hS => ?_)
      obtain ⟨xs_18, exs_18⟩ : ∃ z, z = uT xs 1 (sA (xT xs 1) 3 (2 : Int32).toNatClampNeg (y_14 - y_14 / (12 : Int32) * (12 : Int32))) := ⟨_, rfl⟩
      have hP : va_P D vwCl (xW b T xa (uT xs 1 (sA (xT xs 1) 3 (2 : Int32).toNatClampNeg (y_14 - y_14 / (12 : Int32) * (12 : Int32))))) H := hP
      have hD : va_D A (xW b T xa (uT xs 1 (sA (xT xs 1) 3 (2 : Int32).toNatClampNeg (y_14 - y_14 / (12 : Int32) * (12 : Int32))))) := hD
      have hR : xRel b xa (uT xs 1 (sA (xT xs 1) 3 (2 : Int32).toNatClampNeg (y_14 - y_14 / (12 : Int32) * (12 : Int32)))) := hR.uT _ _
      rw [← exs_18] at hP hD hR
      have heq := nm_h exs_18 heq
      refine lv_iload hx hb dX10_days_88 (lv_at hl 0 rfl) ?_
      obtain ⟨y_19, h_20, heq⟩ := bd1_h heq
      refine h_si (own := RX10) (As := [.int y_12]) (rest := []) (w0 := []) (w1 := []) (wr := xW b T xa xs_18) hx hb hml hown hts (okX10_nextSeed z l D h_20) (va_cwS 1 hts gX10_days_X10_nextSeed rfl rfl rfl (hdX10_nextSeed).2 ⟨Nat.le_of_ble_eq_true rfl, Nat.le_of_ble_eq_true rfl⟩) (hK.sub [] rfl) hA hX hP hD hS (List.Perm.refl _) (List.Perm.refl _) rfl hl.1 rfl (Nat.le_of_ble_eq_true rfl) dX10_days_90 ⟨Nat.le_of_ble_eq_true rfl, Nat.le_of_ble_eq_true rfl⟩ (fun H locs hP hD hS => ?_)
      refine lv_istore (lv' := [(4, .int y_19), (0, .ref (b 0)), (1, .int v1), (3, .int v3), (5, .int v5), (6, .int v6), (7, .int v7)]) hx hb dX10_days_93 hl (by decide) rfl (fun ls hl => ?_)
      refine lv_aload_n hx hb dX10_days_95 rfl (lv_at hl 1 rfl) ?_
      refine va_get (D := D) (ci := 10) (v := .ref (b 10)) (C := RX10) (T := TX10) (N := 7) hx hb hts hin10 hown hK hP 0 rfl rfl 1 (by decide) f16 (fun _ h9 => h9) rfl dX10_days_96 ?_
      refine va_get (D := D) (ci := 8) (v := .ref (b 14)) (C := RX8) (T := TX8) (N := 10) hx hb hts hin8 hown hK hP 10 rfl rfl 3 (by decide) f120 (fun _ h9 => h9) rfl dX10_days_99 ?_
      refine lv_iconst (v := (3 : Int32)) hx hb dX10_days_102 (by decide) ?_
      refine lv_iload hx hb dX10_days_103 (lv_at hl 0 rfl) ?_
      obtain ⟨y_21, h_22, heq⟩ := bd1_h heq
      refine h_si (own := RX10) (As := [.int y_19]) (rest := [.int (3 : Int32), .ref (b 14)]) (w0 := []) (w1 := []) (wr := xW b T xa xs_18) hx hb hml hown hts (okX10_drawn z l D h_22) (va_cwS 1 hts gX10_days_X10_drawn rfl rfl rfl (hdX10_drawn).2 ⟨Nat.le_of_ble_eq_true rfl, Nat.le_of_ble_eq_true rfl⟩) (hK.sub [] rfl) hA hX hP hD hS (List.Perm.refl _) (List.Perm.refl _) rfl hl.1 rfl (Nat.le_of_ble_eq_true rfl) dX10_days_105 ⟨Nat.le_of_ble_eq_true rfl, Nat.le_of_ble_eq_true rfl⟩ (fun H locs hP hD hS => ?_)
      refine lv_bipush (v := (21 : Int32)) hx hb dX10_days_108 (by decide) ?_
      obtain ⟨n_23, heq⟩ := dvi_h heq
      refine lv_irem hx hb dX10_days_110 n_23 ?_
      obtain ⟨n_24, heq⟩ := inr_h heq
      refine va_iast (f := gA (xT xs_18 1) 3) (n := 7) hx hb hK hP hD hS 14 0 rfl rfl n_24 dX10_days_111 (fun H locs hP hD hS => ?_)
      obtain ⟨xs_25, exs_25⟩ : ∃ z, z = uT xs_18 1 (sA (xT xs_18 1) 3 (3 : Int32).toNatClampNeg (y_21 - y_21 / (21 : Int32) * (21 : Int32))) := ⟨_, rfl⟩
      have hP : va_P D vwCl (xW b T xa (uT xs_18 1 (sA (xT xs_18 1) 3 (3 : Int32).toNatClampNeg (y_21 - y_21 / (21 : Int32) * (21 : Int32))))) H := hP
      have hD : va_D A (xW b T xa (uT xs_18 1 (sA (xT xs_18 1) 3 (3 : Int32).toNatClampNeg (y_21 - y_21 / (21 : Int32) * (21 : Int32))))) := hD
      have hR : xRel b xa (uT xs_18 1 (sA (xT xs_18 1) 3 (3 : Int32).toNatClampNeg (y_21 - y_21 / (21 : Int32) * (21 : Int32)))) := hR.uT _ _
      rw [← exs_25] at hP hD hR
      have heq := nm_h exs_25 heq
      refine lv_aload_n hx hb dX10_days_112 rfl (lv_at hl 1 rfl) ?_
      refine va_get (D := D) (ci := 10) (v := .ref (b 10)) (C := RX10) (T := TX10) (N := 7) hx hb hts hin10 hown hK hP 0 rfl rfl 1 (by decide) f16 (fun _ h9 => h9) rfl dX10_days_113 ?_
      refine lv_bipush (v := (60 : Int32)) hx hb dX10_days_116 (by decide) ?_
      obtain ⟨y_26, st_27, h_28, heq⟩ := bnd_h heq
      refine h_vi (own := RX10) (As := [.int (60 : Int32)]) (rest := []) (wr := xWr1 b T xa xs_25) hx hb hml hown hts (okX8_fallAfter z l D (fun j => b (10 + j)) T (fun j => some (xFo xa 1 j)) h_28) (cwV 1 hts gX10_days_X8_fallAfter rfl rfl rfl hdX8_fallAfter ⟨Nat.le_of_ble_eq_true rfl, Nat.le_of_ble_eq_true rfl⟩) hK hA hX hP hD hS (xp1 b T xa xs_25) (xq1 b T xa xs_25 _) (ci := 8) (q0 := 0) rfl rfl rfl hl.1 rfl (Nat.le_of_ble_eq_true rfl) dX10_days_118 ⟨Nat.le_of_ble_eq_true rfl, Nat.le_of_ble_eq_true rfl⟩ (fun H locs hP hD hS => ?_)
      obtain ⟨xs_29, exs_29⟩ : ∃ z, z = uT xs_25 1 st_27 := ⟨_, rfl⟩
      have hR : xRel b xa (uT xs_25 1 st_27) := hR.uT _ _
      rw [← exs_29] at hP hD hR
      have heq := nm_h exs_29 heq
      refine lv_istore (lv' := [(8, .int y_26), (4, .int y_19), (0, .ref (b 0)), (1, .int v1), (3, .int v3), (5, .int v5), (6, .int v6), (7, .int v7)]) hx hb dX10_days_121 hl (by decide) rfl (fun ls hl => ?_)
      refine lv_iload hx hb dX10_days_123 (lv_at hl 0 rfl) ?_
      refine lv_bipush (v := (-4 : Int32)) hx hb dX10_days_125 (by decide) ?_
      refine lv_icmp_eq (tgt := 197) hx hb dX10_days_127 (by decide) (fun c_30 => ?_) (fun c_30 => ?_)
      · have heq := it_t c_30 heq
        exact b197 (fun xs v1 v3 v4 v5 v6 v7 => X10_days_p58 n xs v1 v3 v4 v5 v6 v7) ih xs_29 v1 v3 y_19 v5 v6 v7 xa H locs ls hR hU hP hD hS (lv_sub hl [2, 3, 4, 1, 5, 6, 7] rfl) heq
      have heq := it_f c_30 heq
      refine lv_aload_n hx hb dX10_days_130 rfl (lv_at hl 2 rfl) ?_
      refine va_get (D := D) (ci := 10) (v := .ref (b 10)) (C := RX10) (T := TX10) (N := 7) hx hb hts hin10 hown hK hP 0 rfl rfl 1 (by decide) f16 (fun _ h9 => h9) rfl dX10_days_131 ?_
      refine va_get (D := D) (ci := 8) (v := .int (gF (xT xs_29 1) 8)) (C := RX8) (T := TX8) (N := 10) hx hb hts hin8 hown hK hP 10 rfl rfl 8 (by decide) f93 (fun _ h9 => h9) rfl dX10_days_134 ?_
      refine lv_iload hx hb dX10_days_137 (lv_at hl 0 rfl) ?_
      refine lv_iadd hx hb dX10_days_139 ?_
      refine lv_topi (fun x_31 ex_31 => ?_)
      have heq := nm_h ex_31 heq
      refine lv_istore (lv' := [(9, .int x_31), (8, .int y_26), (4, .int y_19), (0, .ref (b 0)), (1, .int v1), (3, .int v3), (5, .int v5), (6, .int v6), (7, .int v7)]) hx hb dX10_days_140 hl (by decide) rfl (fun ls hl => ?_)
      refine lv_aload_n hx hb dX10_days_142 rfl (lv_at hl 3 rfl) ?_
      refine va_get (D := D) (ci := 10) (v := .ref (b 10)) (C := RX10) (T := TX10) (N := 7) hx hb hts hin10 hown hK hP 0 rfl rfl 1 (by decide) f16 (fun _ h9 => h9) rfl dX10_days_143 ?_
      refine lv_iload hx hb dX10_days_146 (lv_at hl 0 rfl) ?_
      obtain ⟨y_32, st_33, h_34, heq⟩ := bnd_h heq
      refine h_vi (own := RX10) (As := [.int x_31]) (rest := []) (wr := xWr1 b T xa xs_29) hx hb hml hown hts (okX8_fallSideAt z l D (fun j => b (10 + j)) T (fun j => some (xFo xa 1 j)) h_34) (cwV 1 hts gX10_days_X8_fallSideAt rfl rfl rfl hdX8_fallSideAt ⟨Nat.le_of_ble_eq_true rfl, Nat.le_of_ble_eq_true rfl⟩) hK hA hX hP hD hS (xp1 b T xa xs_29) (xq1 b T xa xs_29 _) (ci := 8) (q0 := 0) rfl rfl rfl hl.1 rfl (Nat.le_of_ble_eq_true rfl) dX10_days_148 ⟨Nat.le_of_ble_eq_true rfl, Nat.le_of_ble_eq_true rfl⟩ (fun H locs hP hD hS => ?_)
      obtain ⟨xs_35, exs_35⟩ : ∃ z, z = uT xs_29 1 st_33 := ⟨_, rfl⟩
      have hR : xRel b xa (uT xs_29 1 st_33) := hR.uT _ _
      rw [← exs_35] at hP hD hR
      have heq := nm_h exs_35 heq
      refine lv_istore (lv' := [(10, .int y_32), (9, .int x_31), (8, .int y_26), (4, .int y_19), (0, .ref (b 0)), (1, .int v1), (3, .int v3), (5, .int v5), (6, .int v6), (7, .int v7)]) hx hb dX10_days_151 hl (by decide) rfl (fun ls hl => ?_)
      refine lv_iload hx hb dX10_days_153 (lv_at hl 7 rfl) ?_
      refine lv_iload hx hb dX10_days_155 (lv_at hl 0 rfl) ?_
      refine lv_aload_n hx hb dX10_days_157 rfl (lv_at hl 4 rfl) ?_
      refine va_get (D := D) (ci := 10) (v := .ref (b 10)) (C := RX10) (T := TX10) (N := 7) hx hb hts hin10 hown hK hP 0 rfl rfl 1 (by decide) f16 (fun _ h9 => h9) rfl dX10_days_158 ?_
      refine va_get (D := D) (ci := 8) (v := .ref (b 14)) (C := RX8) (T := TX8) (N := 10) hx hb hts hin8 hown hK hP 10 rfl rfl 3 (by decide) f120 (fun _ h9 => h9) rfl dX10_days_161 ?_
      refine lv_bipush (v := (6 : Int32)) hx hb dX10_days_164 (by decide) ?_
      obtain ⟨n_36, heq⟩ := inr_h heq
      refine va_iald (f := gA (xT xs_35 1) 3) (n := 7) hx hb hK hP 14 0 rfl rfl n_36 dX10_days_166 ?_
      refine lv_icmp_ne (tgt := 174) hx hb dX10_days_167 (by decide) (fun c_37 => ?_) (fun c_37 => ?_)
      · have heq := it_f c_37 heq
        refine lv_iconst (v := (0 : Int32)) hx hb dX10_days_174 (by decide) ?_
        exact b175 (fun xs v1 v3 v4 v5 v6 v7 => X10_days_p58 n xs v1 v3 v4 v5 v6 v7) ih xs_35 v1 v3 y_19 v6 v7 x_31 y_32 v5 (0 : Int32) xa H locs ls hR hU hP hD hS (lv_sub hl [4, 5, 6, 3, 8, 9, 1, 0] rfl) heq
      have heq := it_t c_37 heq
      refine lv_iconst (v := (1 : Int32)) hx hb dX10_days_170 (by decide) ?_
      refine lv_goto (tgt := 175) hx hb dX10_days_171 (by decide) ?_
      exact b175 (fun xs v1 v3 v4 v5 v6 v7 => X10_days_p58 n xs v1 v3 v4 v5 v6 v7) ih xs_35 v1 v3 y_19 v6 v7 x_31 y_32 v5 (1 : Int32) xa H locs ls hR hU hP hD hS (lv_sub hl [4, 5, 6, 3, 8, 9, 1, 0] rfl) heq
  obtain ⟨H, hH⟩ : ∃ H, H = s.heap := ⟨_, rfl⟩
  obtain ⟨locs, hlocs⟩ : ∃ z : List Loc, z = [] := ⟨_, rfl⟩
  have hS : va_S A s.heap H locs := by rw [hH, hlocs]; exact hS
  have hP : va_P D vwCl (xW b T xa xs) H := by rw [hH]; exact hP
  suffices h9 : W p l e rmX10_days s m args below meth c H locs 0 0 Q (F0 m 0 ls []) by rw [hH, hlocs] at h9; exact h9
  clear hH hlocs
  unfold X10_days at heq
  refine lv_iload_n hx hb dX10_days_0 rfl (lv_at hl 1 rfl) ?_
  refine lv_iconst (v := (1 : Int32)) hx hb dX10_days_1 (by decide) ?_
  refine lv_icmp_lt (tgt := 20) hx hb dX10_days_2 (by decide) (fun c_38 => ?_) (fun c_38 => ?_)
  · have heq := it_t c_38 heq
    refine lv_iconst (v := (-1 : Int32)) hx hb dX10_days_20 (by decide) ?_
    obtain ⟨heq, heq2⟩ := ret_h heq
    subst heq
    subst heq2
    exact hret 21 H locs ls xa hR hU hP hD hS rfl dX10_days_21
  have heq := it_f c_38 heq
  refine lv_iload_n hx hb dX10_days_5 rfl (lv_at hl 1 rfl) ?_
  refine lv_bipush (v := (20 : Int32)) hx hb dX10_days_6 (by decide) ?_
  refine lv_icmp_gt (tgt := 20) hx hb dX10_days_8 (by decide) (fun c_39 => ?_) (fun c_39 => ?_)
  · have heq := it_t c_39 heq
    refine lv_iconst (v := (-1 : Int32)) hx hb dX10_days_20 (by decide) ?_
    obtain ⟨heq, heq2⟩ := ret_h heq
    subst heq
    subst heq2
    exact hret 21 H locs ls xa hR hU hP hD hS rfl dX10_days_21
  have heq := it_f c_39 heq
  refine lv_iload_n hx hb dX10_days_11 rfl (lv_at hl 3 rfl) ?_
  refine lv_if_lt (tgt := 20) hx hb dX10_days_12 (by decide) (fun c_40 => ?_) (fun c_40 => ?_)
  · have heq := it_t c_40 heq
    refine lv_iconst (v := (-1 : Int32)) hx hb dX10_days_20 (by decide) ?_
    obtain ⟨heq, heq2⟩ := ret_h heq
    subst heq
    subst heq2
    exact hret 21 H locs ls xa hR hU hP hD hS rfl dX10_days_21
  have heq := it_f c_40 heq
  refine lv_iload_n hx hb dX10_days_15 rfl (lv_at hl 3 rfl) ?_
  refine lv_iconst (v := (1 : Int32)) hx hb dX10_days_16 (by decide) ?_
  refine lv_icmp_le (tgt := 22) hx hb dX10_days_17 (by decide) (fun c_41 => ?_) (fun c_41 => ?_)
  · have heq := it_t c_41 heq
    refine lv_aload_n hx hb dX10_days_22 rfl (lv_at hl 0 rfl) ?_
    refine va_get (D := D) (ci := 10) (v := .ref (b 3)) (C := RX10) (T := TX10) (N := 7) hx hb hts hin10 hown hK hP 0 rfl rfl 0 (by decide) f10 (fun _ h9 => h9) rfl dX10_days_23 ?_
    obtain ⟨y_42, st_43, h_44, heq⟩ := bnd_h heq
    refine h_vi (own := RX10) (As := []) (rest := []) (wr := xWr0 b T xa xs) hx hb hml hown hts (okX8_isDown z l D (fun j => b (3 + j)) T (fun j => some (xFo xa 0 j)) h_44) (cwV 0 hts gX10_days_X8_isDown rfl rfl rfl hdX8_isDown ⟨Nat.le_of_ble_eq_true rfl, Nat.le_of_ble_eq_true rfl⟩) hK hA hX hP hD hS (xp0 b T xa xs) (xq0 b T xa xs _) (ci := 8) (q0 := 0) rfl rfl rfl hl.1 rfl (Nat.le_of_ble_eq_true rfl) dX10_days_26 ⟨Nat.le_of_ble_eq_true rfl, Nat.le_of_ble_eq_true rfl⟩ (fun H locs hP hD hS => ?_)
    obtain ⟨xs_45, exs_45⟩ : ∃ z, z = uT xs 0 st_43 := ⟨_, rfl⟩
    have hR : xRel b xa (uT xs 0 st_43) := hR.uT _ _
    rw [← exs_45] at hP hD hR
    have heq := nm_h exs_45 heq
    refine lv_if_eq (tgt := 35) hx hb dX10_days_29 (by decide) (fun c_46 => ?_) (fun c_46 => ?_)
    · have heq := it_t c_46 heq
      refine lv_aload_n hx hb dX10_days_35 rfl (lv_at hl 0 rfl) ?_
      refine va_get (D := D) (ci := 10) (v := .ref (b 10)) (C := RX10) (T := TX10) (N := 7) hx hb hts hin10 hown hK hP 0 rfl rfl 1 (by decide) f16 (fun _ h9 => h9) rfl dX10_days_36 ?_
      refine lv_aload_n hx hb dX10_days_39 rfl (lv_at hl 0 rfl) ?_
      refine va_get (D := D) (ci := 10) (v := .ref (b 3)) (C := RX10) (T := TX10) (N := 7) hx hb hts hin10 hown hK hP 0 rfl rfl 0 (by decide) f10 (fun _ h9 => h9) rfl dX10_days_40 ?_
      obtain ⟨⟨⟩, xs_47, h_48, heq⟩ := bnd_h heq
      refine x_vv (own := RX10) (As := [.ref (b 3)]) (rest := []) hx hb hml hown hts (okX8_takeFrom_1_0 z l D T b hR h_48) (cwV 1 hts gX10_days_X8_takeFrom rfl rfl rfl hdX8_takeFrom ⟨Nat.le_of_ble_eq_true rfl, Nat.le_of_ble_eq_true rfl⟩) hK hA hX hP hD hS (ci := 8) (q0 := 10) rfl rfl rfl hl.1 rfl (Nat.le_of_ble_eq_true rfl) dX10_days_43 ⟨Nat.le_of_ble_eq_true rfl, Nat.le_of_ble_eq_true rfl⟩ (fun xa_49 H locs hR hsxa_49 hP hD hS => ?_)
      have hU := xSub.tr hU hsxa_49
      refine lv_iload_n hx hb dX10_days_46 rfl (lv_at hl 2 rfl) ?_
      refine lv_istore (lv' := [(4, .int v2), (0, .ref (b 0)), (1, .int v1), (2, .int v2), (3, .int v3)]) hx hb dX10_days_47 hl (by decide) rfl (fun ls hl => ?_)
      refine lv_iconst (v := (0 : Int32)) hx hb dX10_days_49 (by decide) ?_
      refine lv_istore (lv' := [(5, .int (0 : Int32)), (4, .int v2), (0, .ref (b 0)), (1, .int v1), (2, .int v2), (3, .int v3)]) hx hb dX10_days_50 hl (by decide) rfl (fun ls hl => ?_)
      refine lv_iconst (v := (0 : Int32)) hx hb dX10_days_52 (by decide) ?_
      refine lv_istore (lv' := [(6, .int (0 : Int32)), (5, .int (0 : Int32)), (4, .int v2), (0, .ref (b 0)), (1, .int v1), (2, .int v2), (3, .int v3)]) hx hb dX10_days_53 hl (by decide) rfl (fun ls hl => ?_)
      refine lv_iconst (v := (0 : Int32)) hx hb dX10_days_55 (by decide) ?_
      refine lv_istore (lv' := [(7, .int (0 : Int32)), (6, .int (0 : Int32)), (5, .int (0 : Int32)), (4, .int v2), (0, .ref (b 0)), (1, .int v1), (2, .int v2), (3, .int v3)]) hx hb dX10_days_56 hl (by decide) rfl (fun ls hl => ?_)
      exact b58 5000 xs_47 v1 v3 v2 (0 : Int32) (0 : Int32) (0 : Int32) xa_49 H locs ls hR hU hP hD hS (lv_sub hl [4, 5, 7, 3, 2, 1, 0] rfl) heq
    have heq := it_f c_46 heq
    refine lv_bipush (v := (-3 : Int32)) hx hb dX10_days_32 (by decide) ?_
    obtain ⟨heq, heq2⟩ := ret_h heq
    subst heq
    subst heq2
    exact hret 34 H locs ls xa hR hU hP hD hS rfl dX10_days_34
  have heq := it_f c_41 heq
  refine lv_iconst (v := (-1 : Int32)) hx hb dX10_days_20 (by decide) ?_
  obtain ⟨heq, heq2⟩ := ret_h heq
  subst heq
  subst heq2
  exact hret 21 H locs ls xa hR hU hP hD hS rfl dX10_days_21
set_option maxRecDepth 20000 in
theorem ggX10_image_X8_takeFrom : GoodIn wsX10_image wsX8_takeFrom := goodIn_r _ [9, 10, 11, 12, 13, 14, 15, 16, 17, 18, 19, 27, 28, 29, 30, 31, 32, 33, 34, 35, 36] (by decide +kernel) (by decide +kernel)
set_option maxRecDepth 20000 in
theorem gX10_image_X8_takeFrom : GoodIn wsX10_image (wsV RX10 59 RX8 yX8_takeFrom wsX8_takeFrom) := goodIn_app (goodIn_of _ (by decide +kernel)) ggX10_image_X8_takeFrom
theorem dX10_image_0 : decode cX10_image 0 = .ok (.aload_n 0, 1) := by decide +kernel
theorem dX10_image_1 : decode cX10_image 1 = .ok (.getfield 19, 3) := by decide +kernel
theorem dX10_image_4 : decode cX10_image 4 = .ok (.aload_n 0, 1) := by decide +kernel
theorem dX10_image_5 : decode cX10_image 5 = .ok (.getfield 10, 3) := by decide +kernel
theorem dX10_image_8 : decode cX10_image 8 = .ok (.invokevirtual 59, 3) := by decide +kernel
theorem dX10_image_11 : decode cX10_image 11 = .ok (.aload_n 0, 1) := by decide +kernel
theorem dX10_image_12 : decode cX10_image 12 = .ok (.iconst 1, 1) := by decide +kernel
theorem dX10_image_13 : decode cX10_image 13 = .ok (.putfield 262, 3) := by decide +kernel
theorem dX10_image_16 : decode cX10_image 16 = .ok (.aload_n 0, 1) := by decide +kernel
theorem dX10_image_17 : decode cX10_image 17 = .ok (.getfield 10, 3) := by decide +kernel
theorem dX10_image_20 : decode cX10_image 20 = .ok (.getfield 93, 3) := by decide +kernel
theorem dX10_image_23 : decode cX10_image 23 = .ok (.ireturn, 1) := by decide +kernel
/-! X10 image -/
def X10_image (xs : XS) : Option (Int32 × XS) :=
    bnd (X8_takeFrom_2_0 xs) fun _ xs_1 =>
    gz (1 : Int32) <|
    nm (uI xs_1 (1 : Int32)) fun xs_6 =>
    some ((gF (xT xs_6 0) 8), xs_6)
abbrev rmX10_image : Room := { frames := 1, cells := 0, slots := 0, locals := 22 }
theorem hdX10_image : yX10_image.cls = RX10 ∧ yX10_image.cls ≠ "java/lang/invoke/MethodHandle" ∧ yX10_image.cls ≠ "java/lang/invoke/VarHandle" ∧ (parseMethodDescriptor yX10_image.desc).map (fun d => d.parameters.length) = some 0 := by decide +kernel
set_option maxRecDepth 100000 in
set_option maxHeartbeats 8000000 in
theorem okX10_image (z : Nat → Nat) (l : Launch) (D : va_G) (T : mT3) (b : Nat → Nat) {xa : XA} {xs : XS} {r : Int32} {xs' : XS} (hR : xRel b xa xs) (heq : X10_image xs = some (r, xs')) : hXi xSub z l D T b yX10_image wsX10_image rmX10_image [.ref (b 0)] xa xs r xs' := by
  refine xbody_i (plainFor_of_name (by decide)) rfl (Nat.le_of_ble_eq_true rfl) (fun p e s m args below meth c A Q hx hb hml hown hts hK hA hX hret ls hP hD hS hl => ?_)
  have hl : lv_has ls 1 [(0, .ref (b 0))] := hl
  have hin10 : ∀ w ∈ wsX100, w ∈ wsX10_image := by decide +kernel
  have hin8 : ∀ w ∈ wsX80, w ∈ wsX10_image := by decide +kernel
  have f10 : (Cond.fieldLink RX10 10 RX10 (TX10 0).2.1 (TX10 0).2.2.1).before args s = true := hts (.fieldLink RX10 10 RX10 "now" "LLaidDownTheLane$Town;") (by decide +kernel)
  have f19 : (Cond.fieldLink RX10 19 RX10 (TX10 2).2.1 (TX10 2).2.2.1).before args s = true := hts (.fieldLink RX10 19 RX10 "taken" "LLaidDownTheLane$Town;") (by decide +kernel)
  have f93 : (Cond.fieldLink RX10 93 RX8 (TX8 8).2.1 (TX8 8).2.2.1).before args s = true := hts (.fieldLink RX10 93 RX8 "minute" "I") (by decide +kernel)
  have f262 : (Cond.fieldLink RX10 262 RX10 (TX10 3).2.1 (TX10 3).2.2.1).before args s = true := hts (.fieldLink RX10 262 RX10 "imageTaken" "Z") (by decide +kernel)
  obtain ⟨xa0, hxa0⟩ : ∃ z : XA, z = xa := ⟨_, rfl⟩
  rw [← hxa0] at hret
  have hU : xSub xa0 xa := by rw [hxa0]; exact xSub.rf
  clear hxa0
  obtain ⟨H, hH⟩ : ∃ H, H = s.heap := ⟨_, rfl⟩
  obtain ⟨locs, hlocs⟩ : ∃ z : List Loc, z = [] := ⟨_, rfl⟩
  have hS : va_S A s.heap H locs := by rw [hH, hlocs]; exact hS
  have hP : va_P D vwCl (xW b T xa xs) H := by rw [hH]; exact hP
  suffices h9 : W p l e rmX10_image s m args below meth c H locs 0 0 Q (F0 m 0 ls []) by rw [hH, hlocs] at h9; exact h9
  clear hH hlocs
  unfold X10_image at heq
  refine lv_aload_n hx hb dX10_image_0 rfl (lv_at hl 0 rfl) ?_
  refine va_get (D := D) (ci := 10) (v := .ref (b 17)) (C := RX10) (T := TX10) (N := 7) hx hb hts hin10 hown hK hP 0 rfl rfl 2 (by decide) f19 (fun _ h9 => h9) rfl dX10_image_1 ?_
  refine lv_aload_n hx hb dX10_image_4 rfl (lv_at hl 0 rfl) ?_
  refine va_get (D := D) (ci := 10) (v := .ref (b 3)) (C := RX10) (T := TX10) (N := 7) hx hb hts hin10 hown hK hP 0 rfl rfl 0 (by decide) f10 (fun _ h9 => h9) rfl dX10_image_5 ?_
  obtain ⟨⟨⟩, xs_1, h_2, heq⟩ := bnd_h heq
  refine x_vv (own := RX10) (As := [.ref (b 3)]) (rest := []) hx hb hml hown hts (okX8_takeFrom_2_0 z l D T b hR h_2) (cwV 1 hts gX10_image_X8_takeFrom rfl rfl rfl hdX8_takeFrom ⟨Nat.le_of_ble_eq_true rfl, Nat.le_of_ble_eq_true rfl⟩) hK hA hX hP hD hS (ci := 8) (q0 := 17) rfl rfl rfl hl.1 rfl (Nat.le_of_ble_eq_true rfl) dX10_image_8 ⟨Nat.le_of_ble_eq_true rfl, Nat.le_of_ble_eq_true rfl⟩ (fun xa_3 H locs hR hsxa_3 hP hD hS => ?_)
  have hU := xSub.tr hU hsxa_3
  refine lv_aload_n hx hb dX10_image_11 rfl (lv_at hl 0 rfl) ?_
  refine lv_iconst (v := (1 : Int32)) hx hb dX10_image_12 (by decide) ?_
  obtain ⟨n_5, n_5f, heq⟩ := gz_h heq
  refine va_put (D := D) (ci := 10) (v := .int (1 : Int32)) (ty := .boolean) (C := RX10) (T := TX10) (N := 7) hx hb hts hin10 tyX10 tyX10_ok nmX10 hown hK hP hD hS 0 rfl rfl 3 (by decide) f262 (fun _ h9 => h9) rfl (by decide +kernel) n_5 n_5f (Nat.le_of_ble_eq_true rfl) dX10_image_13 (fun H locs hP hD hS => ?_)
  obtain ⟨xs_6, exs_6⟩ : ∃ z, z = uI xs_1 (1 : Int32) := ⟨_, rfl⟩
  have hP : va_P D vwCl (xW b T xa_3 (uI xs_1 (1 : Int32))) H := hP
  have hD : va_D A (xW b T xa_3 (uI xs_1 (1 : Int32))) := hD
  have hR : xRel b xa_3 (uI xs_1 (1 : Int32)) := hR.uI _
  rw [← exs_6] at hP hD hR
  have heq := nm_h exs_6 heq
  refine lv_aload_n hx hb dX10_image_16 rfl (lv_at hl 0 rfl) ?_
  refine va_get (D := D) (ci := 10) (v := .ref (b 3)) (C := RX10) (T := TX10) (N := 7) hx hb hts hin10 hown hK hP 0 rfl rfl 0 (by decide) f10 (fun _ h9 => h9) rfl dX10_image_17 ?_
  refine va_get (D := D) (ci := 8) (v := .int (gF (xT xs_6 0) 8)) (C := RX8) (T := TX8) (N := 10) hx hb hts hin8 hown hK hP 3 rfl rfl 8 (by decide) f93 (fun _ h9 => h9) rfl dX10_image_20 ?_
  obtain ⟨heq, heq2⟩ := ret_h heq
  subst heq
  subst heq2
  exact hret 23 H locs ls xa_3 hR hU hP hD hS rfl dX10_image_23
set_option maxRecDepth 20000 in
theorem ggX10_restore_X8_takeFrom : GoodIn wsX10_restore wsX8_takeFrom := goodIn_r _ [9, 10, 11, 12, 13, 14, 15, 16, 17, 18, 19, 27, 28, 29, 30, 31, 32, 33, 34, 35, 36] (by decide +kernel) (by decide +kernel)
set_option maxRecDepth 20000 in
theorem gX10_restore_X8_takeFrom : GoodIn wsX10_restore (wsV RX10 59 RX8 yX8_takeFrom wsX8_takeFrom) := goodIn_app (goodIn_of _ (by decide +kernel)) ggX10_restore_X8_takeFrom
theorem dX10_restore_0 : decode cX10_restore 0 = .ok (.aload_n 0, 1) := by decide +kernel
theorem dX10_restore_1 : decode cX10_restore 1 = .ok (.getfield 262, 3) := by decide +kernel
theorem dX10_restore_4 : decode cX10_restore 4 = .ok (.ifCond .ne 6, 3) := by decide +kernel
theorem dX10_restore_7 : decode cX10_restore 7 = .ok (.bipush (-3), 2) := by decide +kernel
theorem dX10_restore_9 : decode cX10_restore 9 = .ok (.ireturn, 1) := by decide +kernel
theorem dX10_restore_10 : decode cX10_restore 10 = .ok (.aload_n 0, 1) := by decide +kernel
theorem dX10_restore_11 : decode cX10_restore 11 = .ok (.getfield 10, 3) := by decide +kernel
theorem dX10_restore_14 : decode cX10_restore 14 = .ok (.aload_n 0, 1) := by decide +kernel
theorem dX10_restore_15 : decode cX10_restore 15 = .ok (.getfield 19, 3) := by decide +kernel
theorem dX10_restore_18 : decode cX10_restore 18 = .ok (.invokevirtual 59, 3) := by decide +kernel
theorem dX10_restore_21 : decode cX10_restore 21 = .ok (.aload_n 0, 1) := by decide +kernel
theorem dX10_restore_22 : decode cX10_restore 22 = .ok (.getfield 10, 3) := by decide +kernel
theorem dX10_restore_25 : decode cX10_restore 25 = .ok (.getfield 93, 3) := by decide +kernel
theorem dX10_restore_28 : decode cX10_restore 28 = .ok (.ireturn, 1) := by decide +kernel
/-! X10 restore -/
def X10_restore (xs : XS) : Option (Int32 × XS) :=
    if (xI xs) = 0 then
      (some ((-3 : Int32), xs))
    else
    bnd (X8_takeFrom_0_2 xs) fun _ xs_2 =>
    some ((gF (xT xs_2 0) 8), xs_2)
abbrev rmX10_restore : Room := { frames := 1, cells := 0, slots := 0, locals := 22 }
theorem hdX10_restore : yX10_restore.cls = RX10 ∧ yX10_restore.cls ≠ "java/lang/invoke/MethodHandle" ∧ yX10_restore.cls ≠ "java/lang/invoke/VarHandle" ∧ (parseMethodDescriptor yX10_restore.desc).map (fun d => d.parameters.length) = some 0 := by decide +kernel
set_option maxRecDepth 100000 in
set_option maxHeartbeats 8000000 in
theorem okX10_restore (z : Nat → Nat) (l : Launch) (D : va_G) (T : mT3) (b : Nat → Nat) {xa : XA} {xs : XS} {r : Int32} {xs' : XS} (hR : xRel b xa xs) (heq : X10_restore xs = some (r, xs')) : hXi xSub z l D T b yX10_restore wsX10_restore rmX10_restore [.ref (b 0)] xa xs r xs' := by
  refine xbody_i (plainFor_of_name (by decide)) rfl (Nat.le_of_ble_eq_true rfl) (fun p e s m args below meth c A Q hx hb hml hown hts hK hA hX hret ls hP hD hS hl => ?_)
  have hl : lv_has ls 1 [(0, .ref (b 0))] := hl
  have hin10 : ∀ w ∈ wsX100, w ∈ wsX10_restore := by decide +kernel
  have hin8 : ∀ w ∈ wsX80, w ∈ wsX10_restore := by decide +kernel
  have f10 : (Cond.fieldLink RX10 10 RX10 (TX10 0).2.1 (TX10 0).2.2.1).before args s = true := hts (.fieldLink RX10 10 RX10 "now" "LLaidDownTheLane$Town;") (by decide +kernel)
  have f19 : (Cond.fieldLink RX10 19 RX10 (TX10 2).2.1 (TX10 2).2.2.1).before args s = true := hts (.fieldLink RX10 19 RX10 "taken" "LLaidDownTheLane$Town;") (by decide +kernel)
  have f93 : (Cond.fieldLink RX10 93 RX8 (TX8 8).2.1 (TX8 8).2.2.1).before args s = true := hts (.fieldLink RX10 93 RX8 "minute" "I") (by decide +kernel)
  have f262 : (Cond.fieldLink RX10 262 RX10 (TX10 3).2.1 (TX10 3).2.2.1).before args s = true := hts (.fieldLink RX10 262 RX10 "imageTaken" "Z") (by decide +kernel)
  obtain ⟨xa0, hxa0⟩ : ∃ z : XA, z = xa := ⟨_, rfl⟩
  rw [← hxa0] at hret
  have hU : xSub xa0 xa := by rw [hxa0]; exact xSub.rf
  clear hxa0
  obtain ⟨H, hH⟩ : ∃ H, H = s.heap := ⟨_, rfl⟩
  obtain ⟨locs, hlocs⟩ : ∃ z : List Loc, z = [] := ⟨_, rfl⟩
  have hS : va_S A s.heap H locs := by rw [hH, hlocs]; exact hS
  have hP : va_P D vwCl (xW b T xa xs) H := by rw [hH]; exact hP
  suffices h9 : W p l e rmX10_restore s m args below meth c H locs 0 0 Q (F0 m 0 ls []) by rw [hH, hlocs] at h9; exact h9
  clear hH hlocs
  unfold X10_restore at heq
  refine lv_aload_n hx hb dX10_restore_0 rfl (lv_at hl 0 rfl) ?_
  refine va_get (D := D) (ci := 10) (v := .int (xI xs)) (C := RX10) (T := TX10) (N := 7) hx hb hts hin10 hown hK hP 0 rfl rfl 3 (by decide) f262 (fun _ h9 => h9) rfl dX10_restore_1 ?_
  refine lv_if_ne (tgt := 10) hx hb dX10_restore_4 (by decide) (fun c_1 => ?_) (fun c_1 => ?_)
  · have heq := it_f c_1 heq
    refine lv_aload_n hx hb dX10_restore_10 rfl (lv_at hl 0 rfl) ?_
    refine va_get (D := D) (ci := 10) (v := .ref (b 3)) (C := RX10) (T := TX10) (N := 7) hx hb hts hin10 hown hK hP 0 rfl rfl 0 (by decide) f10 (fun _ h9 => h9) rfl dX10_restore_11 ?_
    refine lv_aload_n hx hb dX10_restore_14 rfl (lv_at hl 0 rfl) ?_
    refine va_get (D := D) (ci := 10) (v := .ref (b 17)) (C := RX10) (T := TX10) (N := 7) hx hb hts hin10 hown hK hP 0 rfl rfl 2 (by decide) f19 (fun _ h9 => h9) rfl dX10_restore_15 ?_
    obtain ⟨⟨⟩, xs_2, h_3, heq⟩ := bnd_h heq
    refine x_vv (own := RX10) (As := [.ref (b 17)]) (rest := []) hx hb hml hown hts (okX8_takeFrom_0_2 z l D T b hR h_3) (cwV 1 hts gX10_restore_X8_takeFrom rfl rfl rfl hdX8_takeFrom ⟨Nat.le_of_ble_eq_true rfl, Nat.le_of_ble_eq_true rfl⟩) hK hA hX hP hD hS (ci := 8) (q0 := 3) rfl rfl rfl hl.1 rfl (Nat.le_of_ble_eq_true rfl) dX10_restore_18 ⟨Nat.le_of_ble_eq_true rfl, Nat.le_of_ble_eq_true rfl⟩ (fun xa_4 H locs hR hsxa_4 hP hD hS => ?_)
    have hU := xSub.tr hU hsxa_4
    refine lv_aload_n hx hb dX10_restore_21 rfl (lv_at hl 0 rfl) ?_
    refine va_get (D := D) (ci := 10) (v := .ref (b 3)) (C := RX10) (T := TX10) (N := 7) hx hb hts hin10 hown hK hP 0 rfl rfl 0 (by decide) f10 (fun _ h9 => h9) rfl dX10_restore_22 ?_
    refine va_get (D := D) (ci := 8) (v := .int (gF (xT xs_2 0) 8)) (C := RX8) (T := TX8) (N := 10) hx hb hts hin8 hown hK hP 3 rfl rfl 8 (by decide) f93 (fun _ h9 => h9) rfl dX10_restore_25 ?_
    obtain ⟨heq, heq2⟩ := ret_h heq
    subst heq
    subst heq2
    exact hret 28 H locs ls xa_4 hR hU hP hD hS rfl dX10_restore_28
  have heq := it_t c_1 heq
  refine lv_bipush (v := (-3 : Int32)) hx hb dX10_restore_7 (by decide) ?_
  obtain ⟨heq, heq2⟩ := ret_h heq
  subst heq
  subst heq2
  exact hret 9 H locs ls xa hR hU hP hD hS rfl dX10_restore_9
set_option maxRecDepth 20000 in
theorem ggX10_count_X8_isDown : GoodIn wsX10_count wsX8_isDown := goodIn_r _ [10, 11, 34, 35, 36, 37, 38, 39, 40, 41, 42, 43] (by decide +kernel) (by decide +kernel)
set_option maxRecDepth 20000 in
theorem gX10_count_X8_isDown : GoodIn wsX10_count (wsV RX10 116 RX8 yX8_isDown wsX8_isDown) := goodIn_app (goodIn_of _ (by decide +kernel)) ggX10_count_X8_isDown
set_option maxRecDepth 20000 in
theorem ggX10_count_X8_countBearing : GoodIn wsX10_count wsX8_countBearing := goodIn_r _ [15, 16, 17, 18, 9, 19, 20, 21, 34, 35, 36, 37, 38, 39, 40, 41, 42, 43] (by decide +kernel) (by decide +kernel)
set_option maxRecDepth 20000 in
theorem gX10_count_X8_countBearing : GoodIn wsX10_count (wsV RX10 253 RX8 yX8_countBearing wsX8_countBearing) := goodIn_app (goodIn_of _ (by decide +kernel)) ggX10_count_X8_countBearing
set_option maxRecDepth 20000 in
theorem ggX10_count_X8_allBears : GoodIn wsX10_count wsX8_allBears := goodIn_r _ [25, 26, 16, 17, 18, 9, 19, 20, 21, 34, 35, 36, 37, 38, 39, 40, 41, 42, 43] (by decide +kernel) (by decide +kernel)
set_option maxRecDepth 20000 in
theorem gX10_count_X8_allBears : GoodIn wsX10_count (wsV RX10 265 RX8 yX8_allBears wsX8_allBears) := goodIn_app (goodIn_of _ (by decide +kernel)) ggX10_count_X8_allBears
theorem dX10_count_0 : decode cX10_count 0 = .ok (.iload_n 1, 1) := by decide +kernel
theorem dX10_count_1 : decode cX10_count 1 = .ok (.tableswitch 139 0 7 #[47, 55, 63, 79, 95, 110, 118, 129], 47) := by decide +kernel
theorem dX10_count_48 : decode cX10_count 48 = .ok (.aload_n 0, 1) := by decide +kernel
theorem dX10_count_49 : decode cX10_count 49 = .ok (.getfield 10, 3) := by decide +kernel
theorem dX10_count_52 : decode cX10_count 52 = .ok (.getfield 126, 3) := by decide +kernel
theorem dX10_count_55 : decode cX10_count 55 = .ok (.ireturn, 1) := by decide +kernel
theorem dX10_count_56 : decode cX10_count 56 = .ok (.aload_n 0, 1) := by decide +kernel
theorem dX10_count_57 : decode cX10_count 57 = .ok (.getfield 10, 3) := by decide +kernel
theorem dX10_count_60 : decode cX10_count 60 = .ok (.getfield 93, 3) := by decide +kernel
theorem dX10_count_63 : decode cX10_count 63 = .ok (.ireturn, 1) := by decide +kernel
theorem dX10_count_64 : decode cX10_count 64 = .ok (.aload_n 0, 1) := by decide +kernel
theorem dX10_count_65 : decode cX10_count 65 = .ok (.getfield 10, 3) := by decide +kernel
theorem dX10_count_68 : decode cX10_count 68 = .ok (.getfield 216, 3) := by decide +kernel
theorem dX10_count_71 : decode cX10_count 71 = .ok (.ifCond .eq 7, 3) := by decide +kernel
theorem dX10_count_74 : decode cX10_count 74 = .ok (.iconst 1, 1) := by decide +kernel
theorem dX10_count_75 : decode cX10_count 75 = .ok (.goto 4, 3) := by decide +kernel
theorem dX10_count_78 : decode cX10_count 78 = .ok (.iconst 0, 1) := by decide +kernel
theorem dX10_count_79 : decode cX10_count 79 = .ok (.ireturn, 1) := by decide +kernel
theorem dX10_count_80 : decode cX10_count 80 = .ok (.aload_n 0, 1) := by decide +kernel
theorem dX10_count_81 : decode cX10_count 81 = .ok (.getfield 10, 3) := by decide +kernel
theorem dX10_count_84 : decode cX10_count 84 = .ok (.invokevirtual 116, 3) := by decide +kernel
theorem dX10_count_87 : decode cX10_count 87 = .ok (.ifCond .eq 7, 3) := by decide +kernel
theorem dX10_count_90 : decode cX10_count 90 = .ok (.iconst 1, 1) := by decide +kernel
theorem dX10_count_91 : decode cX10_count 91 = .ok (.goto 4, 3) := by decide +kernel
theorem dX10_count_94 : decode cX10_count 94 = .ok (.iconst 0, 1) := by decide +kernel
theorem dX10_count_95 : decode cX10_count 95 = .ok (.ireturn, 1) := by decide +kernel
theorem dX10_count_96 : decode cX10_count 96 = .ok (.aload_n 0, 1) := by decide +kernel
theorem dX10_count_97 : decode cX10_count 97 = .ok (.getfield 10, 3) := by decide +kernel
theorem dX10_count_100 : decode cX10_count 100 = .ok (.aload_n 0, 1) := by decide +kernel
theorem dX10_count_101 : decode cX10_count 101 = .ok (.getfield 10, 3) := by decide +kernel
theorem dX10_count_104 : decode cX10_count 104 = .ok (.getfield 93, 3) := by decide +kernel
theorem dX10_count_107 : decode cX10_count 107 = .ok (.invokevirtual 253, 3) := by decide +kernel
theorem dX10_count_110 : decode cX10_count 110 = .ok (.ireturn, 1) := by decide +kernel
theorem dX10_count_111 : decode cX10_count 111 = .ok (.aload_n 0, 1) := by decide +kernel
theorem dX10_count_112 : decode cX10_count 112 = .ok (.getfield 10, 3) := by decide +kernel
theorem dX10_count_115 : decode cX10_count 115 = .ok (.invokevirtual 265, 3) := by decide +kernel
theorem dX10_count_118 : decode cX10_count 118 = .ok (.ireturn, 1) := by decide +kernel
theorem dX10_count_119 : decode cX10_count 119 = .ok (.aload_n 0, 1) := by decide +kernel
theorem dX10_count_120 : decode cX10_count 120 = .ok (.getfield 10, 3) := by decide +kernel
theorem dX10_count_123 : decode cX10_count 123 = .ok (.getfield 120, 3) := by decide +kernel
theorem dX10_count_126 : decode cX10_count 126 = .ok (.bipush 6, 2) := by decide +kernel
theorem dX10_count_128 : decode cX10_count 128 = .ok (.iaload, 1) := by decide +kernel
theorem dX10_count_129 : decode cX10_count 129 = .ok (.ireturn, 1) := by decide +kernel
theorem dX10_count_130 : decode cX10_count 130 = .ok (.aload_n 0, 1) := by decide +kernel
theorem dX10_count_131 : decode cX10_count 131 = .ok (.getfield 10, 3) := by decide +kernel
theorem dX10_count_134 : decode cX10_count 134 = .ok (.getfield 120, 3) := by decide +kernel
theorem dX10_count_137 : decode cX10_count 137 = .ok (.iconst 5, 1) := by decide +kernel
theorem dX10_count_138 : decode cX10_count 138 = .ok (.iaload, 1) := by decide +kernel
theorem dX10_count_139 : decode cX10_count 139 = .ok (.ireturn, 1) := by decide +kernel
theorem dX10_count_140 : decode cX10_count 140 = .ok (.iconst (-1), 1) := by decide +kernel
theorem dX10_count_141 : decode cX10_count 141 = .ok (.ireturn, 1) := by decide +kernel
/-! X10 count -/
def X10_count_p79 (xs : XS) (t0 : Int32) : Option (Int32 × XS) :=
    some (t0, xs)
def X10_count_p95 (xs : XS) (t0 : Int32) : Option (Int32 × XS) :=
    some (t0, xs)
def X10_count (xs : XS) (v1 : Int32) : Option (Int32 × XS) :=
    if v1 = (0 : Int32) then
      (some ((gF (xT xs 0) 6), xs))
    else
    if v1 = (1 : Int32) then
      (some ((gF (xT xs 0) 8), xs))
    else
    if v1 = (2 : Int32) then
      (if (gF (xT xs 0) 7) = 0 then
        (X10_count_p79 xs (0 : Int32))
      else
      X10_count_p79 xs (1 : Int32))
    else
    if v1 = (3 : Int32) then
      (bnd (X8_isDown (xT xs 0)) fun y_6 st_7 =>
      nm (uT xs 0 st_7) fun xs_9 =>
      if y_6 = 0 then
        (X10_count_p95 xs_9 (0 : Int32))
      else
      X10_count_p95 xs_9 (1 : Int32))
    else
    if v1 = (4 : Int32) then
      (bnd (X8_countBearing (xT xs 0) (gF (xT xs 0) 8)) fun y_12 st_13 =>
      nm (uT xs 0 st_13) fun xs_15 =>
      some (y_12, xs_15))
    else
    if v1 = (5 : Int32) then
      (bnd (X8_allBears (xT xs 0)) fun y_17 st_18 =>
      nm (uT xs 0 st_18) fun xs_20 =>
      some (y_17, xs_20))
    else
    if v1 = (6 : Int32) then
      (inr (6 : Int32) 7 <|
      some ((gA (xT xs 0) 3 (6 : Int32).toNatClampNeg), xs))
    else
    if v1 = (7 : Int32) then
      (inr (5 : Int32) 7 <|
      some ((gA (xT xs 0) 3 (5 : Int32).toNatClampNeg), xs))
    else
    some ((-1 : Int32), xs)
abbrev rmX10_count : Room := { frames := 2, cells := 0, slots := 0, locals := 45 }
theorem hdX10_count : yX10_count.cls = RX10 ∧ yX10_count.cls ≠ "java/lang/invoke/MethodHandle" ∧ yX10_count.cls ≠ "java/lang/invoke/VarHandle" ∧ (parseMethodDescriptor yX10_count.desc).map (fun d => d.parameters.length) = some 1 := by decide +kernel
set_option maxRecDepth 100000 in
set_option maxHeartbeats 8000000 in
theorem okX10_count (z : Nat → Nat) (l : Launch) (D : va_G) (T : mT3) (b : Nat → Nat) {xa : XA} {xs : XS} {v1 : Int32} {r : Int32} {xs' : XS} (hR : xRel b xa xs) (heq : X10_count xs v1 = some (r, xs')) : hXi xSub z l D T b yX10_count wsX10_count rmX10_count [.ref (b 0), .int v1] xa xs r xs' := by
  refine xbody_i (plainFor_of_name (by decide)) rfl (Nat.le_of_ble_eq_true rfl) (fun p e s m args below meth c A Q hx hb hml hown hts hK hA hX hret ls hP hD hS hl => ?_)
  have hl : lv_has ls 2 [(0, .ref (b 0)), (1, .int v1)] := hl
  have hin10 : ∀ w ∈ wsX100, w ∈ wsX10_count := by decide +kernel
  have hin8 : ∀ w ∈ wsX80, w ∈ wsX10_count := by decide +kernel
  have f10 : (Cond.fieldLink RX10 10 RX10 (TX10 0).2.1 (TX10 0).2.2.1).before args s = true := hts (.fieldLink RX10 10 RX10 "now" "LLaidDownTheLane$Town;") (by decide +kernel)
  have f93 : (Cond.fieldLink RX10 93 RX8 (TX8 8).2.1 (TX8 8).2.2.1).before args s = true := hts (.fieldLink RX10 93 RX8 "minute" "I") (by decide +kernel)
  have f120 : (Cond.fieldLink RX10 120 RX8 (TX8 3).2.1 (TX8 3).2.2.1).before args s = true := hts (.fieldLink RX10 120 RX8 "told" "[I") (by decide +kernel)
  have f126 : (Cond.fieldLink RX10 126 RX8 (TX8 6).2.1 (TX8 6).2.2.1).before args s = true := hts (.fieldLink RX10 126 RX8 "houses" "I") (by decide +kernel)
  have f216 : (Cond.fieldLink RX10 216 RX8 (TX8 7).2.1 (TX8 7).2.2.1).before args s = true := hts (.fieldLink RX10 216 RX8 "lit" "Z") (by decide +kernel)
  obtain ⟨xa0, hxa0⟩ : ∃ z : XA, z = xa := ⟨_, rfl⟩
  rw [← hxa0] at hret
  have hU : xSub xa0 xa := by rw [hxa0]; exact xSub.rf
  clear hxa0
  have b79 : ∀ (xs : XS) (t0 : Int32) (xa : XA) (H : Heap) (locs : List Loc) (ls : Array Slot), xRel b xa xs → xSub xa0 xa → va_P D vwCl (xW b T xa xs) H → va_D A (xW b T xa xs) → va_S A s.heap H locs → lv_has ls 2 [] → X10_count_p79 xs t0 = some (r, xs') → W p l e rmX10_count s m args below meth c H locs 0 0 Q (F0 m 79 ls [.int t0]) := by
    intro xs t0 xa H locs ls hR hU hP hD hS hl heq
    unfold X10_count_p79 at heq
    obtain ⟨heq, heq2⟩ := ret_h heq
    subst heq
    subst heq2
    exact hret 79 H locs ls xa hR hU hP hD hS rfl dX10_count_79
  have b95 : ∀ (xs : XS) (t0 : Int32) (xa : XA) (H : Heap) (locs : List Loc) (ls : Array Slot), xRel b xa xs → xSub xa0 xa → va_P D vwCl (xW b T xa xs) H → va_D A (xW b T xa xs) → va_S A s.heap H locs → lv_has ls 2 [] → X10_count_p95 xs t0 = some (r, xs') → W p l e rmX10_count s m args below meth c H locs 0 0 Q (F0 m 95 ls [.int t0]) := by
    intro xs t0 xa H locs ls hR hU hP hD hS hl heq
    unfold X10_count_p95 at heq
    obtain ⟨heq, heq2⟩ := ret_h heq
    subst heq
    subst heq2
    exact hret 95 H locs ls xa hR hU hP hD hS rfl dX10_count_95
  obtain ⟨H, hH⟩ : ∃ H, H = s.heap := ⟨_, rfl⟩
  obtain ⟨locs, hlocs⟩ : ∃ z : List Loc, z = [] := ⟨_, rfl⟩
  have hS : va_S A s.heap H locs := by rw [hH, hlocs]; exact hS
  have hP : va_P D vwCl (xW b T xa xs) H := by rw [hH]; exact hP
  suffices h9 : W p l e rmX10_count s m args below meth c H locs 0 0 Q (F0 m 0 ls []) by rw [hH, hlocs] at h9; exact h9
  clear hH hlocs
  unfold X10_count at heq
  refine lv_iload_n hx hb dX10_count_0 rfl (lv_at hl 1 rfl) ?_
  by_cases c_1 : v1 = (0 : Int32)
  · have heq := it_t c_1 heq
    refine lv_tableIn (tgt := 48) hx hb dX10_count_1 (by rw [c_1]; decide) (by rw [c_1]; decide) (by rw [c_1]; rfl) (by decide) ?_
    refine lv_aload_n hx hb dX10_count_48 rfl (lv_at hl 0 rfl) ?_
    refine va_get (D := D) (ci := 10) (v := .ref (b 3)) (C := RX10) (T := TX10) (N := 7) hx hb hts hin10 hown hK hP 0 rfl rfl 0 (by decide) f10 (fun _ h9 => h9) rfl dX10_count_49 ?_
    refine va_get (D := D) (ci := 8) (v := .int (gF (xT xs 0) 6)) (C := RX8) (T := TX8) (N := 10) hx hb hts hin8 hown hK hP 3 rfl rfl 6 (by decide) f126 (fun _ h9 => h9) rfl dX10_count_52 ?_
    obtain ⟨heq, heq2⟩ := ret_h heq
    subst heq
    subst heq2
    exact hret 55 H locs ls xa hR hU hP hD hS rfl dX10_count_55
  have heq := it_f c_1 heq
  by_cases c_2 : v1 = (1 : Int32)
  · have heq := it_t c_2 heq
    refine lv_tableIn (tgt := 56) hx hb dX10_count_1 (by rw [c_2]; decide) (by rw [c_2]; decide) (by rw [c_2]; rfl) (by decide) ?_
    refine lv_aload_n hx hb dX10_count_56 rfl (lv_at hl 0 rfl) ?_
    refine va_get (D := D) (ci := 10) (v := .ref (b 3)) (C := RX10) (T := TX10) (N := 7) hx hb hts hin10 hown hK hP 0 rfl rfl 0 (by decide) f10 (fun _ h9 => h9) rfl dX10_count_57 ?_
    refine va_get (D := D) (ci := 8) (v := .int (gF (xT xs 0) 8)) (C := RX8) (T := TX8) (N := 10) hx hb hts hin8 hown hK hP 3 rfl rfl 8 (by decide) f93 (fun _ h9 => h9) rfl dX10_count_60 ?_
    obtain ⟨heq, heq2⟩ := ret_h heq
    subst heq
    subst heq2
    exact hret 63 H locs ls xa hR hU hP hD hS rfl dX10_count_63
  have heq := it_f c_2 heq
  by_cases c_3 : v1 = (2 : Int32)
  · have heq := it_t c_3 heq
    refine lv_tableIn (tgt := 64) hx hb dX10_count_1 (by rw [c_3]; decide) (by rw [c_3]; decide) (by rw [c_3]; rfl) (by decide) ?_
    refine lv_aload_n hx hb dX10_count_64 rfl (lv_at hl 0 rfl) ?_
    refine va_get (D := D) (ci := 10) (v := .ref (b 3)) (C := RX10) (T := TX10) (N := 7) hx hb hts hin10 hown hK hP 0 rfl rfl 0 (by decide) f10 (fun _ h9 => h9) rfl dX10_count_65 ?_
    refine va_get (D := D) (ci := 8) (v := .int (gF (xT xs 0) 7)) (C := RX8) (T := TX8) (N := 10) hx hb hts hin8 hown hK hP 3 rfl rfl 7 (by decide) f216 (fun _ h9 => h9) rfl dX10_count_68 ?_
    refine lv_if_eq (tgt := 78) hx hb dX10_count_71 (by decide) (fun c_4 => ?_) (fun c_4 => ?_)
    · have heq := it_t c_4 heq
      refine lv_iconst (v := (0 : Int32)) hx hb dX10_count_78 (by decide) ?_
      exact b79 xs (0 : Int32) xa H locs ls hR hU hP hD hS (lv_sub hl [] rfl) heq
    have heq := it_f c_4 heq
    refine lv_iconst (v := (1 : Int32)) hx hb dX10_count_74 (by decide) ?_
    refine lv_goto (tgt := 79) hx hb dX10_count_75 (by decide) ?_
    exact b79 xs (1 : Int32) xa H locs ls hR hU hP hD hS (lv_sub hl [] rfl) heq
  have heq := it_f c_3 heq
  by_cases c_5 : v1 = (3 : Int32)
  · have heq := it_t c_5 heq
    refine lv_tableIn (tgt := 80) hx hb dX10_count_1 (by rw [c_5]; decide) (by rw [c_5]; decide) (by rw [c_5]; rfl) (by decide) ?_
    refine lv_aload_n hx hb dX10_count_80 rfl (lv_at hl 0 rfl) ?_
    refine va_get (D := D) (ci := 10) (v := .ref (b 3)) (C := RX10) (T := TX10) (N := 7) hx hb hts hin10 hown hK hP 0 rfl rfl 0 (by decide) f10 (fun _ h9 => h9) rfl dX10_count_81 ?_
    obtain ⟨y_6, st_7, h_8, heq⟩ := bnd_h heq
    refine h_vi (own := RX10) (As := []) (rest := []) (wr := xWr0 b T xa xs) hx hb hml hown hts (okX8_isDown z l D (fun j => b (3 + j)) T (fun j => some (xFo xa 0 j)) h_8) (cwV 0 hts gX10_count_X8_isDown rfl rfl rfl hdX8_isDown ⟨Nat.le_of_ble_eq_true rfl, Nat.le_of_ble_eq_true rfl⟩) hK hA hX hP hD hS (xp0 b T xa xs) (xq0 b T xa xs _) (ci := 8) (q0 := 0) rfl rfl rfl hl.1 rfl (Nat.le_of_ble_eq_true rfl) dX10_count_84 ⟨Nat.le_of_ble_eq_true rfl, Nat.le_of_ble_eq_true rfl⟩ (fun H locs hP hD hS => ?_)
    obtain ⟨xs_9, exs_9⟩ : ∃ z, z = uT xs 0 st_7 := ⟨_, rfl⟩
    have hR : xRel b xa (uT xs 0 st_7) := hR.uT _ _
    rw [← exs_9] at hP hD hR
    have heq := nm_h exs_9 heq
    refine lv_if_eq (tgt := 94) hx hb dX10_count_87 (by decide) (fun c_10 => ?_) (fun c_10 => ?_)
    · have heq := it_t c_10 heq
      refine lv_iconst (v := (0 : Int32)) hx hb dX10_count_94 (by decide) ?_
      exact b95 xs_9 (0 : Int32) xa H locs ls hR hU hP hD hS (lv_sub hl [] rfl) heq
    have heq := it_f c_10 heq
    refine lv_iconst (v := (1 : Int32)) hx hb dX10_count_90 (by decide) ?_
    refine lv_goto (tgt := 95) hx hb dX10_count_91 (by decide) ?_
    exact b95 xs_9 (1 : Int32) xa H locs ls hR hU hP hD hS (lv_sub hl [] rfl) heq
  have heq := it_f c_5 heq
  by_cases c_11 : v1 = (4 : Int32)
  · have heq := it_t c_11 heq
    refine lv_tableIn (tgt := 96) hx hb dX10_count_1 (by rw [c_11]; decide) (by rw [c_11]; decide) (by rw [c_11]; rfl) (by decide) ?_
    refine lv_aload_n hx hb dX10_count_96 rfl (lv_at hl 0 rfl) ?_
    refine va_get (D := D) (ci := 10) (v := .ref (b 3)) (C := RX10) (T := TX10) (N := 7) hx hb hts hin10 hown hK hP 0 rfl rfl 0 (by decide) f10 (fun _ h9 => h9) rfl dX10_count_97 ?_
    refine lv_aload_n hx hb dX10_count_100 rfl (lv_at hl 0 rfl) ?_
    refine va_get (D := D) (ci := 10) (v := .ref (b 3)) (C := RX10) (T := TX10) (N := 7) hx hb hts hin10 hown hK hP 0 rfl rfl 0 (by decide) f10 (fun _ h9 => h9) rfl dX10_count_101 ?_
    refine va_get (D := D) (ci := 8) (v := .int (gF (xT xs 0) 8)) (C := RX8) (T := TX8) (N := 10) hx hb hts hin8 hown hK hP 3 rfl rfl 8 (by decide) f93 (fun _ h9 => h9) rfl dX10_count_104 ?_
    obtain ⟨y_12, st_13, h_14, heq⟩ := bnd_h heq
    refine h_vi (own := RX10) (As := [.int (gF (xT xs 0) 8)]) (rest := []) (wr := xWr0 b T xa xs) hx hb hml hown hts (okX8_countBearing z l D (fun j => b (3 + j)) T (fun j => some (xFo xa 0 j)) h_14) (cwV 1 hts gX10_count_X8_countBearing rfl rfl rfl hdX8_countBearing ⟨Nat.le_of_ble_eq_true rfl, Nat.le_of_ble_eq_true rfl⟩) hK hA hX hP hD hS (xp0 b T xa xs) (xq0 b T xa xs _) (ci := 8) (q0 := 0) rfl rfl rfl hl.1 rfl (Nat.le_of_ble_eq_true rfl) dX10_count_107 ⟨Nat.le_of_ble_eq_true rfl, Nat.le_of_ble_eq_true rfl⟩ (fun H locs hP hD hS => ?_)
    obtain ⟨xs_15, exs_15⟩ : ∃ z, z = uT xs 0 st_13 := ⟨_, rfl⟩
    have hR : xRel b xa (uT xs 0 st_13) := hR.uT _ _
    rw [← exs_15] at hP hD hR
    have heq := nm_h exs_15 heq
    obtain ⟨heq, heq2⟩ := ret_h heq
    subst heq
    subst heq2
    exact hret 110 H locs ls xa hR hU hP hD hS rfl dX10_count_110
  have heq := it_f c_11 heq
  by_cases c_16 : v1 = (5 : Int32)
  · have heq := it_t c_16 heq
    refine lv_tableIn (tgt := 111) hx hb dX10_count_1 (by rw [c_16]; decide) (by rw [c_16]; decide) (by rw [c_16]; rfl) (by decide) ?_
    refine lv_aload_n hx hb dX10_count_111 rfl (lv_at hl 0 rfl) ?_
    refine va_get (D := D) (ci := 10) (v := .ref (b 3)) (C := RX10) (T := TX10) (N := 7) hx hb hts hin10 hown hK hP 0 rfl rfl 0 (by decide) f10 (fun _ h9 => h9) rfl dX10_count_112 ?_
    obtain ⟨y_17, st_18, h_19, heq⟩ := bnd_h heq
    refine h_vi (own := RX10) (As := []) (rest := []) (wr := xWr0 b T xa xs) hx hb hml hown hts (okX8_allBears z l D (fun j => b (3 + j)) T (fun j => some (xFo xa 0 j)) h_19) (cwV 0 hts gX10_count_X8_allBears rfl rfl rfl hdX8_allBears ⟨Nat.le_of_ble_eq_true rfl, Nat.le_of_ble_eq_true rfl⟩) hK hA hX hP hD hS (xp0 b T xa xs) (xq0 b T xa xs _) (ci := 8) (q0 := 0) rfl rfl rfl hl.1 rfl (Nat.le_of_ble_eq_true rfl) dX10_count_115 ⟨Nat.le_of_ble_eq_true rfl, Nat.le_of_ble_eq_true rfl⟩ (fun H locs hP hD hS => ?_)
    obtain ⟨xs_20, exs_20⟩ : ∃ z, z = uT xs 0 st_18 := ⟨_, rfl⟩
    have hR : xRel b xa (uT xs 0 st_18) := hR.uT _ _
    rw [← exs_20] at hP hD hR
    have heq := nm_h exs_20 heq
    obtain ⟨heq, heq2⟩ := ret_h heq
    subst heq
    subst heq2
    exact hret 118 H locs ls xa hR hU hP hD hS rfl dX10_count_118
  have heq := it_f c_16 heq
  by_cases c_21 : v1 = (6 : Int32)
  · have heq := it_t c_21 heq
    refine lv_tableIn (tgt := 119) hx hb dX10_count_1 (by rw [c_21]; decide) (by rw [c_21]; decide) (by rw [c_21]; rfl) (by decide) ?_
    refine lv_aload_n hx hb dX10_count_119 rfl (lv_at hl 0 rfl) ?_
    refine va_get (D := D) (ci := 10) (v := .ref (b 3)) (C := RX10) (T := TX10) (N := 7) hx hb hts hin10 hown hK hP 0 rfl rfl 0 (by decide) f10 (fun _ h9 => h9) rfl dX10_count_120 ?_
    refine va_get (D := D) (ci := 8) (v := .ref (b 7)) (C := RX8) (T := TX8) (N := 10) hx hb hts hin8 hown hK hP 3 rfl rfl 3 (by decide) f120 (fun _ h9 => h9) rfl dX10_count_123 ?_
    refine lv_bipush (v := (6 : Int32)) hx hb dX10_count_126 (by decide) ?_
    obtain ⟨n_22, heq⟩ := inr_h heq
    refine va_iald (f := gA (xT xs 0) 3) (n := 7) hx hb hK hP 7 0 rfl rfl n_22 dX10_count_128 ?_
    obtain ⟨heq, heq2⟩ := ret_h heq
    subst heq
    subst heq2
    exact hret 129 H locs ls xa hR hU hP hD hS rfl dX10_count_129
  have heq := it_f c_21 heq
  by_cases c_23 : v1 = (7 : Int32)
  · have heq := it_t c_23 heq
    refine lv_tableIn (tgt := 130) hx hb dX10_count_1 (by rw [c_23]; decide) (by rw [c_23]; decide) (by rw [c_23]; rfl) (by decide) ?_
    refine lv_aload_n hx hb dX10_count_130 rfl (lv_at hl 0 rfl) ?_
    refine va_get (D := D) (ci := 10) (v := .ref (b 3)) (C := RX10) (T := TX10) (N := 7) hx hb hts hin10 hown hK hP 0 rfl rfl 0 (by decide) f10 (fun _ h9 => h9) rfl dX10_count_131 ?_
    refine va_get (D := D) (ci := 8) (v := .ref (b 7)) (C := RX8) (T := TX8) (N := 10) hx hb hts hin8 hown hK hP 3 rfl rfl 3 (by decide) f120 (fun _ h9 => h9) rfl dX10_count_134 ?_
    refine lv_iconst (v := (5 : Int32)) hx hb dX10_count_137 (by decide) ?_
    obtain ⟨n_24, heq⟩ := inr_h heq
    refine va_iald (f := gA (xT xs 0) 3) (n := 7) hx hb hK hP 7 0 rfl rfl n_24 dX10_count_138 ?_
    obtain ⟨heq, heq2⟩ := ret_h heq
    subst heq
    subst heq2
    exact hret 139 H locs ls xa hR hU hP hD hS rfl dX10_count_139
  have heq := it_f c_23 heq
  refine lv_tableOut (tgt := 140) hx hb dX10_count_1 (sw_out fun k h1 h2 => ?_) (by decide) ?_
  · rcases (show k = 0 ∨ k = 1 ∨ k = 2 ∨ k = 3 ∨ k = 4 ∨ k = 5 ∨ k = 6 ∨ k = 7 by omega) with rfl | rfl | rfl | rfl | rfl | rfl | rfl | rfl
    · exact c_1
    · exact c_2
    · exact c_3
    · exact c_5
    · exact c_11
    · exact c_16
    · exact c_21
    · exact c_23
  refine lv_iconst (v := (-1 : Int32)) hx hb dX10_count_140 (by decide) ?_
  obtain ⟨heq, heq2⟩ := ret_h heq
  subst heq
  subst heq2
  exact hret 141 H locs ls xa hR hU hP hD hS rfl dX10_count_141
set_option maxRecDepth 20000 in
theorem ggX10_put_X10_rowOn : GoodIn wsX10_put wsX10_rowOn := goodIn_r _ [5, 6, 7, 8, 4, 9, 30, 31, 32, 33, 34, 35, 36] (by decide +kernel) (by decide +kernel)
set_option maxRecDepth 20000 in
theorem gX10_put_X10_rowOn : GoodIn wsX10_put (wsV RX10 43 RX10 yX10_rowOn wsX10_rowOn) := goodIn_app (goodIn_of _ (by decide +kernel)) ggX10_put_X10_rowOn
set_option maxRecDepth 20000 in
theorem ggX10_put_X10_refusal : GoodIn wsX10_put wsX10_refusal := goodIn_r _ [13, 7, 8, 4, 9, 14, 15, 16, 17, 18, 6, 30, 31, 32, 33, 34, 35, 36] (by decide +kernel) (by decide +kernel)
set_option maxRecDepth 20000 in
theorem gX10_put_X10_refusal : GoodIn wsX10_put (wsV RX10 47 RX10 yX10_refusal wsX10_refusal) := goodIn_app (goodIn_of _ (by decide +kernel)) ggX10_put_X10_refusal
set_option maxRecDepth 20000 in
theorem ggX10_put_X7_gets : GoodIn wsX10_put wsX7_gets := goodIn_r _ [23, 24, 25, 26, 27, 28, 22, 29, 37, 38] (by decide +kernel) (by decide +kernel)
set_option maxRecDepth 20000 in
theorem gX10_put_X7_gets : GoodIn wsX10_put (wsV RX10 278 RX7 yX7_gets wsX7_gets) := goodIn_app (goodIn_of _ (by decide +kernel)) ggX10_put_X7_gets
theorem dX10_put_0 : decode cX10_put 0 = .ok (.aload_n 0, 1) := by decide +kernel
theorem dX10_put_1 : decode cX10_put 1 = .ok (.iload_n 1, 1) := by decide +kernel
theorem dX10_put_2 : decode cX10_put 2 = .ok (.invokevirtual 43, 3) := by decide +kernel
theorem dX10_put_5 : decode cX10_put 5 = .ok (.astore 4, 2) := by decide +kernel
theorem dX10_put_7 : decode cX10_put 7 = .ok (.aload 4, 2) := by decide +kernel
theorem dX10_put_9 : decode cX10_put 9 = .ok (.ifnonnull 9, 3) := by decide +kernel
theorem dX10_put_12 : decode cX10_put 12 = .ok (.aload_n 0, 1) := by decide +kernel
theorem dX10_put_13 : decode cX10_put 13 = .ok (.iload_n 1, 1) := by decide +kernel
theorem dX10_put_14 : decode cX10_put 14 = .ok (.invokevirtual 47, 3) := by decide +kernel
theorem dX10_put_17 : decode cX10_put 17 = .ok (.ireturn, 1) := by decide +kernel
theorem dX10_put_18 : decode cX10_put 18 = .ok (.aload 4, 2) := by decide +kernel
theorem dX10_put_20 : decode cX10_put 20 = .ok (.iload_n 2, 1) := by decide +kernel
theorem dX10_put_21 : decode cX10_put 21 = .ok (.iload_n 3, 1) := by decide +kernel
theorem dX10_put_22 : decode cX10_put 22 = .ok (.invokevirtual 278, 3) := by decide +kernel
theorem dX10_put_25 : decode cX10_put 25 = .ok (.ifCond .eq 7, 3) := by decide +kernel
theorem dX10_put_28 : decode cX10_put 28 = .ok (.iconst 0, 1) := by decide +kernel
theorem dX10_put_29 : decode cX10_put 29 = .ok (.goto 5, 3) := by decide +kernel
theorem dX10_put_32 : decode cX10_put 32 = .ok (.bipush (-13), 2) := by decide +kernel
theorem dX10_put_34 : decode cX10_put 34 = .ok (.ireturn, 1) := by decide +kernel
/-! X10 put -/
def X10_put_p34 (xs : XS) (t0 : Int32) : Option (Int32 × XS) :=
    some (t0, xs)
def X10_put (xs : XS) (v1 : Int32) (v2 : Int32) (v3 : Int32) : Option (Int32 × XS) :=
    bnd (X10_rowOn xs v1) fun y_1 xs_2 =>
    ob y_1
      (bnd (X10_refusal xs_2 v1) fun y_10 xs_11 =>
      some (y_10, xs_11))
    fun k_6 =>
    bd1 (xR xs_2 k_6) fun rz_15 =>
    bnd (X7_gets rz_15.1 rz_15.2 v2 v3) fun y_17 st_18 =>
    nm (uR xs_2 k_6 (some (rz_15.1, st_18))) fun xs_20 =>
    if y_17 = 0 then
      (X10_put_p34 xs_20 (-13 : Int32))
    else
    X10_put_p34 xs_20 (0 : Int32)
abbrev rmX10_put : Room := { frames := 3, cells := 0, slots := 0, locals := 62 }
theorem hdX10_put : yX10_put.cls = RX10 ∧ yX10_put.cls ≠ "java/lang/invoke/MethodHandle" ∧ yX10_put.cls ≠ "java/lang/invoke/VarHandle" ∧ (parseMethodDescriptor yX10_put.desc).map (fun d => d.parameters.length) = some 3 := by decide +kernel
set_option maxRecDepth 100000 in
set_option maxHeartbeats 8000000 in
theorem okX10_put (z : Nat → Nat) (l : Launch) (D : va_G) (T : mT3) (b : Nat → Nat) {xa : XA} {xs : XS} {v1 : Int32} {v2 : Int32} {v3 : Int32} {r : Int32} {xs' : XS} (hR : xRel b xa xs) (heq : X10_put xs v1 v2 v3 = some (r, xs')) : hXi xSub z l D T b yX10_put wsX10_put rmX10_put [.ref (b 0), .int v1, .int v2, .int v3] xa xs r xs' := by
  refine xbody_i (plainFor_of_name (by decide)) rfl (Nat.le_of_ble_eq_true rfl) (fun p e s m args below meth c A Q hx hb hml hown hts hK hA hX hret ls hP hD hS hl => ?_)
  have hl : lv_has ls 5 [(0, .ref (b 0)), (1, .int v1), (2, .int v2), (3, .int v3)] := hl
  obtain ⟨xa0, hxa0⟩ : ∃ z : XA, z = xa := ⟨_, rfl⟩
  rw [← hxa0] at hret
  have hU : xSub xa0 xa := by rw [hxa0]; exact xSub.rf
  clear hxa0
  have b34 : ∀ (xs : XS) (t0 : Int32) (xa : XA) (H : Heap) (locs : List Loc) (ls : Array Slot), xRel b xa xs → xSub xa0 xa → va_P D vwCl (xW b T xa xs) H → va_D A (xW b T xa xs) → va_S A s.heap H locs → lv_has ls 5 [] → X10_put_p34 xs t0 = some (r, xs') → W p l e rmX10_put s m args below meth c H locs 0 0 Q (F0 m 34 ls [.int t0]) := by
    intro xs t0 xa H locs ls hR hU hP hD hS hl heq
    unfold X10_put_p34 at heq
    obtain ⟨heq, heq2⟩ := ret_h heq
    subst heq
    subst heq2
    exact hret 34 H locs ls xa hR hU hP hD hS rfl dX10_put_34
  obtain ⟨H, hH⟩ : ∃ H, H = s.heap := ⟨_, rfl⟩
  obtain ⟨locs, hlocs⟩ : ∃ z : List Loc, z = [] := ⟨_, rfl⟩
  have hS : va_S A s.heap H locs := by rw [hH, hlocs]; exact hS
  have hP : va_P D vwCl (xW b T xa xs) H := by rw [hH]; exact hP
  suffices h9 : W p l e rmX10_put s m args below meth c H locs 0 0 Q (F0 m 0 ls []) by rw [hH, hlocs] at h9; exact h9
  clear hH hlocs
  unfold X10_put at heq
  refine lv_aload_n hx hb dX10_put_0 rfl (lv_at hl 0 rfl) ?_
  refine lv_iload_n hx hb dX10_put_1 rfl (lv_at hl 1 rfl) ?_
  obtain ⟨y_1, xs_2, h_3, heq⟩ := bnd_h heq
  refine x_vr (own := RX10) (As := [.int v1]) (rest := []) hx hb hml hown hts (okX10_rowOn z l D T b hR h_3) (cwV 1 hts gX10_put_X10_rowOn rfl rfl rfl hdX10_rowOn ⟨Nat.le_of_ble_eq_true rfl, Nat.le_of_ble_eq_true rfl⟩) hK hA hX hP hD hS (ci := 10) (q0 := 0) rfl rfl rfl hl.1 rfl (Nat.le_of_ble_eq_true rfl) dX10_put_2 ⟨Nat.le_of_ble_eq_true rfl, Nat.le_of_ble_eq_true rfl⟩ (fun xa_4 H locs o_5 hR hsxa_4 ho_5 hP hD hS => ?_)
  have hU := xSub.tr hU hsxa_4
  refine lv_astoreQ (lv' := [(4, va_rf o_5), (0, .ref (b 0)), (1, .int v1), (2, .int v2), (3, .int v3)]) hx hb dX10_put_5 hl (by decide) rfl (fun ls hl => ?_)
  refine lv_aloadQ (r := o_5) hx hb dX10_put_7 (lv_at hl 0 rfl) ?_
  rcases obR_h ho_5 heq with ⟨h_7, heq⟩ | ⟨k_6, ⟨h_7, h_9⟩, heq⟩
  · rw [h_7] at hl ⊢
    have hl : lv_has ls 5 [(4, .null), (0, .ref (b 0)), (1, .int v1), (2, .int v2), (3, .int v3)] := hl
    refine lv_ifnonnullN hx hb dX10_put_9 ?_
    refine lv_aload_n hx hb dX10_put_12 rfl (lv_at hl 1 rfl) ?_
    refine lv_iload_n hx hb dX10_put_13 rfl (lv_at hl 2 rfl) ?_
    obtain ⟨y_10, xs_11, h_12, heq⟩ := bnd_h heq
    refine x_vi (own := RX10) (As := [.int v1]) (rest := []) hx hb hml hown hts (okX10_refusal z l D T b hR h_12) (cwV 1 hts gX10_put_X10_refusal rfl rfl rfl hdX10_refusal ⟨Nat.le_of_ble_eq_true rfl, Nat.le_of_ble_eq_true rfl⟩) hK hA hX hP hD hS (ci := 10) (q0 := 0) rfl rfl rfl hl.1 rfl (Nat.le_of_ble_eq_true rfl) dX10_put_14 ⟨Nat.le_of_ble_eq_true rfl, Nat.le_of_ble_eq_true rfl⟩ (fun xa_13 H locs hR hsxa_13 hP hD hS => ?_)
    have hU := xSub.tr hU hsxa_13
    obtain ⟨heq, heq2⟩ := ret_h heq
    subst heq
    subst heq2
    exact hret 17 H locs ls xa_13 hR hU hP hD hS rfl dX10_put_17
  rw [h_7] at hl ⊢
  have hl : lv_has ls 5 [(4, .ref (xRa xa_4 k_6 0)), (0, .ref (b 0)), (1, .int v1), (2, .int v2), (3, .int v3)] := hl
  refine lv_ifnonnull (tgt := 18) hx hb dX10_put_9 (by decide) ?_
  refine lv_aload hx hb dX10_put_18 (lv_at hl 0 rfl) ?_
  refine lv_iload_n hx hb dX10_put_20 rfl (lv_at hl 3 rfl) ?_
  refine lv_iload_n hx hb dX10_put_21 rfl (lv_at hl 4 rfl) ?_
  obtain ⟨rz_15, hz_16, heq⟩ := bd1_h heq
  obtain ⟨y_17, st_18, h_19, heq⟩ := bnd_h heq
  refine h_vi (own := RX10) (As := [.int v2, .int v3]) (rest := []) (wr := xWrR b T xa_4 xs_2 k_6) hx hb hml hown hts (okX7_gets z l D (xRa xa_4 k_6) T h_19) (cwV 2 hts gX10_put_X7_gets rfl rfl rfl hdX7_gets ⟨Nat.le_of_ble_eq_true rfl, Nat.le_of_ble_eq_true rfl⟩) hK hA hX hP hD hS (xpR b T xa_4 xs_2 h_9 hz_16) (xqR b T xa_4 xs_2 h_9 _ _) (ci := 7) (q0 := 0) rfl rfl rfl hl.1 rfl (Nat.le_of_ble_eq_true rfl) dX10_put_22 ⟨Nat.le_of_ble_eq_true rfl, Nat.le_of_ble_eq_true rfl⟩ (fun H locs hP hD hS => ?_)
  obtain ⟨xs_20, exs_20⟩ : ∃ z, z = uR xs_2 k_6 (some (rz_15.1, st_18)) := ⟨_, rfl⟩
  have hR : xRel b xa_4 (uR xs_2 k_6 (some (rz_15.1, st_18))) := hR.uR hz_16
  rw [← exs_20] at hP hD hR
  have heq := nm_h exs_20 heq
  refine lv_if_eq (tgt := 32) hx hb dX10_put_25 (by decide) (fun c_21 => ?_) (fun c_21 => ?_)
  · have heq := it_t c_21 heq
    refine lv_bipush (v := (-13 : Int32)) hx hb dX10_put_32 (by decide) ?_
    exact b34 xs_20 (-13 : Int32) xa_4 H locs ls hR hU hP hD hS (lv_sub hl [] rfl) heq
  have heq := it_f c_21 heq
  refine lv_iconst (v := (0 : Int32)) hx hb dX10_put_28 (by decide) ?_
  refine lv_goto (tgt := 34) hx hb dX10_put_29 (by decide) ?_
  exact b34 xs_20 (0 : Int32) xa_4 H locs ls hR hU hP hD hS (lv_sub hl [] rfl) heq
set_option maxRecDepth 20000 in
theorem ggX10_cost_X10_kindOn : GoodIn wsX10_cost wsX10_kindOn := goodIn_r _ [5, 6, 7, 8, 4, 9, 74, 75, 76, 77, 78, 79, 80] (by decide +kernel) (by decide +kernel)
set_option maxRecDepth 20000 in
theorem gX10_cost_X10_kindOn : GoodIn wsX10_cost (wsV RX10 108 RX10 yX10_kindOn wsX10_kindOn) := goodIn_app (goodIn_of _ (by decide +kernel)) ggX10_cost_X10_kindOn
set_option maxRecDepth 20000 in
theorem ggX10_cost_X10_refusal : GoodIn wsX10_cost wsX10_refusal := goodIn_r _ [13, 7, 8, 4, 9, 14, 15, 16, 17, 6, 18, 74, 75, 76, 77, 78, 79, 80] (by decide +kernel) (by decide +kernel)
set_option maxRecDepth 20000 in
theorem gX10_cost_X10_refusal : GoodIn wsX10_cost (wsV RX10 47 RX10 yX10_refusal wsX10_refusal) := goodIn_app (goodIn_of _ (by decide +kernel)) ggX10_cost_X10_refusal
set_option maxRecDepth 20000 in
theorem ggX10_cost_X0_price : GoodIn wsX10_cost wsX0_price := goodIn_r _ [23] (by decide +kernel) (by decide +kernel)
set_option maxRecDepth 20000 in
theorem gX10_cost_X0_price : GoodIn wsX10_cost (wsV RX10 308 RX0 yX0_price wsX0_price) := goodIn_app (goodIn_of _ (by decide +kernel)) ggX10_cost_X0_price
set_option maxRecDepth 20000 in
theorem ggX10_cost_X1_price : GoodIn wsX10_cost wsX1_price := goodIn_r _ [30, 31, 25, 32, 20, 22, 23] (by decide +kernel) (by decide +kernel)
set_option maxRecDepth 20000 in
theorem gX10_cost_X1_price_u308X1 : GoodIn wsX10_cost (va_wsO RX10 308 RX1 "LaidDownTheLane$Brick" ⟨"LaidDownTheLane$Brick", "price", "()I"⟩ yX1_price wsX1_price) := goodIn_app (goodIn_of _ (by decide +kernel)) ggX10_cost_X1_price
set_option maxRecDepth 20000 in
theorem ggX10_cost_X2_price : GoodIn wsX10_cost wsX2_price := goodIn_r _ [36, 37, 25, 38, 20, 22, 23] (by decide +kernel) (by decide +kernel)
set_option maxRecDepth 20000 in
theorem gX10_cost_X2_price_u308X2 : GoodIn wsX10_cost (va_wsO RX10 308 RX2 "LaidDownTheLane$Brick" ⟨"LaidDownTheLane$Brick", "price", "()I"⟩ yX2_price wsX2_price) := goodIn_app (goodIn_of _ (by decide +kernel)) ggX10_cost_X2_price
set_option maxRecDepth 20000 in
theorem ggX10_cost_X3_price : GoodIn wsX10_cost wsX3_price := goodIn_r _ [42, 43, 25, 44, 20, 22, 23] (by decide +kernel) (by decide +kernel)
set_option maxRecDepth 20000 in
theorem gX10_cost_X3_price_u308X3 : GoodIn wsX10_cost (va_wsO RX10 308 RX3 "LaidDownTheLane$Brick" ⟨"LaidDownTheLane$Brick", "price", "()I"⟩ yX3_price wsX3_price) := goodIn_app (goodIn_of _ (by decide +kernel)) ggX10_cost_X3_price
set_option maxRecDepth 20000 in
theorem ggX10_cost_X4_price : GoodIn wsX10_cost wsX4_price := goodIn_r _ [48, 49, 50, 51, 52, 53, 54, 55, 56, 57, 25, 58, 20, 22, 23, 81, 82, 83, 84, 85, 86, 87, 88] (by decide +kernel) (by decide +kernel)
set_option maxRecDepth 20000 in
theorem gX10_cost_X4_price_u308X4 : GoodIn wsX10_cost (va_wsO RX10 308 RX4 "LaidDownTheLane$Brick" ⟨"LaidDownTheLane$Brick", "price", "()I"⟩ yX4_price wsX4_price) := goodIn_app (goodIn_of _ (by decide +kernel)) ggX10_cost_X4_price
set_option maxRecDepth 20000 in
theorem ggX10_cost_X5_price : GoodIn wsX10_cost wsX5_price := goodIn_r _ [62, 63, 50, 64, 52, 53, 54, 55, 56, 57, 25, 58, 20, 22, 23, 81, 82, 83, 84, 85, 86, 87, 88] (by decide +kernel) (by decide +kernel)
set_option maxRecDepth 20000 in
theorem gX10_cost_X5_price_u308X5 : GoodIn wsX10_cost (va_wsO RX10 308 RX5 "LaidDownTheLane$Brick" ⟨"LaidDownTheLane$Brick", "price", "()I"⟩ yX5_price wsX5_price) := goodIn_app (goodIn_of _ (by decide +kernel)) ggX10_cost_X5_price
set_option maxRecDepth 20000 in
theorem ggX10_cost_X6_price : GoodIn wsX10_cost wsX6_price := goodIn_r _ [54, 55, 56, 57, 25, 58, 20, 22, 23, 81, 82, 83, 84, 85, 86, 87, 88] (by decide +kernel) (by decide +kernel)
set_option maxRecDepth 20000 in
theorem gX10_cost_X6_price_u308X6 : GoodIn wsX10_cost (va_wsO RX10 308 RX6 "LaidDownTheLane$Brick" ⟨"LaidDownTheLane$Brick", "price", "()I"⟩ yX6_price wsX6_price) := goodIn_app (goodIn_of _ (by decide +kernel)) ggX10_cost_X6_price
set_option maxRecDepth 20000 in
theorem ggX10_cost_X9_price : GoodIn wsX10_cost wsX9_price := goodIn_r _ [69, 70, 71, 72, 25, 73, 20, 22, 23, 81, 82, 83, 84, 85, 86, 87, 88] (by decide +kernel) (by decide +kernel)
set_option maxRecDepth 20000 in
theorem gX10_cost_X9_price_u308X9 : GoodIn wsX10_cost (va_wsO RX10 308 RX9 "LaidDownTheLane$Brick" ⟨"LaidDownTheLane$Brick", "price", "()I"⟩ yX9_price wsX9_price) := goodIn_app (goodIn_of _ (by decide +kernel)) ggX10_cost_X9_price
theorem dX10_cost_0 : decode cX10_cost 0 = .ok (.aload_n 0, 1) := by decide +kernel
theorem dX10_cost_1 : decode cX10_cost 1 = .ok (.iload_n 1, 1) := by decide +kernel
theorem dX10_cost_2 : decode cX10_cost 2 = .ok (.invokevirtual 108, 3) := by decide +kernel
theorem dX10_cost_5 : decode cX10_cost 5 = .ok (.astore_n 2, 1) := by decide +kernel
theorem dX10_cost_6 : decode cX10_cost 6 = .ok (.aload_n 2, 1) := by decide +kernel
theorem dX10_cost_7 : decode cX10_cost 7 = .ok (.ifnonnull 11, 3) := by decide +kernel
theorem dX10_cost_10 : decode cX10_cost 10 = .ok (.aload_n 0, 1) := by decide +kernel
theorem dX10_cost_11 : decode cX10_cost 11 = .ok (.iload_n 1, 1) := by decide +kernel
theorem dX10_cost_12 : decode cX10_cost 12 = .ok (.invokevirtual 47, 3) := by decide +kernel
theorem dX10_cost_15 : decode cX10_cost 15 = .ok (.goto 7, 3) := by decide +kernel
theorem dX10_cost_18 : decode cX10_cost 18 = .ok (.aload_n 2, 1) := by decide +kernel
theorem dX10_cost_19 : decode cX10_cost 19 = .ok (.invokevirtual 308, 3) := by decide +kernel
theorem dX10_cost_22 : decode cX10_cost 22 = .ok (.ireturn, 1) := by decide +kernel
/-! X10 cost -/
def X10_cost_p22 (xs : XS) (t0 : Int32) : Option (Int32 × XS) :=
    some (t0, xs)
def X10_cost (xs : XS) (v1 : Int32) : Option (Int32 × XS) :=
    bnd (X10_kindOn xs v1) fun y_1 xs_2 =>
    ob y_1
      (bnd (X10_refusal xs_2 v1) fun y_10 xs_11 =>
      X10_cost_p22 xs_11 y_10)
    fun k_6 =>
    X10_cost_p22 xs_2 (prB k_6)
abbrev rmX10_cost : Room := { frames := 3, cells := 0, slots := 0, locals := 62 }
theorem hdX10_cost : yX10_cost.cls = RX10 ∧ yX10_cost.cls ≠ "java/lang/invoke/MethodHandle" ∧ yX10_cost.cls ≠ "java/lang/invoke/VarHandle" ∧ (parseMethodDescriptor yX10_cost.desc).map (fun d => d.parameters.length) = some 1 := by decide +kernel
set_option maxRecDepth 100000 in
set_option maxHeartbeats 8000000 in
theorem okX10_cost (z : Nat → Nat) (l : Launch) (D : va_G) (T : mT3) (b : Nat → Nat) {xa : XA} {xs : XS} {v1 : Int32} {r : Int32} {xs' : XS} (hR : xRel b xa xs) (heq : X10_cost xs v1 = some (r, xs')) : hXi xSub z l D T b yX10_cost wsX10_cost rmX10_cost [.ref (b 0), .int v1] xa xs r xs' := by
  refine xbody_i (plainFor_of_name (by decide)) rfl (Nat.le_of_ble_eq_true rfl) (fun p e s m args below meth c A Q hx hb hml hown hts hK hA hX hret ls hP hD hS hl => ?_)
  have hl : lv_has ls 3 [(0, .ref (b 0)), (1, .int v1)] := hl
  obtain ⟨xa0, hxa0⟩ : ∃ z : XA, z = xa := ⟨_, rfl⟩
  rw [← hxa0] at hret
  have hU : xSub xa0 xa := by rw [hxa0]; exact xSub.rf
  clear hxa0
  have b22 : ∀ (xs : XS) (t0 : Int32) (xa : XA) (H : Heap) (locs : List Loc) (ls : Array Slot), xRel b xa xs → xSub xa0 xa → va_P D vwCl (xW b T xa xs) H → va_D A (xW b T xa xs) → va_S A s.heap H locs → lv_has ls 3 [] → X10_cost_p22 xs t0 = some (r, xs') → W p l e rmX10_cost s m args below meth c H locs 0 0 Q (F0 m 22 ls [.int t0]) := by
    intro xs t0 xa H locs ls hR hU hP hD hS hl heq
    unfold X10_cost_p22 at heq
    obtain ⟨heq, heq2⟩ := ret_h heq
    subst heq
    subst heq2
    exact hret 22 H locs ls xa hR hU hP hD hS rfl dX10_cost_22
  obtain ⟨H, hH⟩ : ∃ H, H = s.heap := ⟨_, rfl⟩
  obtain ⟨locs, hlocs⟩ : ∃ z : List Loc, z = [] := ⟨_, rfl⟩
  have hS : va_S A s.heap H locs := by rw [hH, hlocs]; exact hS
  have hP : va_P D vwCl (xW b T xa xs) H := by rw [hH]; exact hP
  suffices h9 : W p l e rmX10_cost s m args below meth c H locs 0 0 Q (F0 m 0 ls []) by rw [hH, hlocs] at h9; exact h9
  clear hH hlocs
  unfold X10_cost at heq
  refine lv_aload_n hx hb dX10_cost_0 rfl (lv_at hl 0 rfl) ?_
  refine lv_iload_n hx hb dX10_cost_1 rfl (lv_at hl 1 rfl) ?_
  obtain ⟨y_1, xs_2, h_3, heq⟩ := bnd_h heq
  refine x_vb (own := RX10) (As := [.int v1]) (rest := []) hx hb hml hown hts (okX10_kindOn z l D T b hR h_3) (cwV 1 hts gX10_cost_X10_kindOn rfl rfl rfl hdX10_kindOn ⟨Nat.le_of_ble_eq_true rfl, Nat.le_of_ble_eq_true rfl⟩) hK hA hX hP hD hS (ci := 10) (q0 := 0) rfl rfl rfl hl.1 rfl (Nat.le_of_ble_eq_true rfl) dX10_cost_2 ⟨Nat.le_of_ble_eq_true rfl, Nat.le_of_ble_eq_true rfl⟩ (fun xa_4 H locs o_5 hR hsxa_4 ho_5 hP hD hS => ?_)
  have hU := xSub.tr hU hsxa_4
  refine lv_astoreQ_n (lv' := [(2, va_rf o_5), (0, .ref (b 0)), (1, .int v1)]) hx hb dX10_cost_5 rfl hl (by decide) rfl (fun ls hl => ?_)
  refine lv_aloadQ_n (r := o_5) hx hb dX10_cost_6 rfl (lv_at hl 0 rfl) ?_
  rcases obB_h ho_5 heq with ⟨h_7, heq⟩ | ⟨k_6, ⟨q_8, h_7, h_9⟩, heq⟩
  · rw [h_7] at hl ⊢
    have hl : lv_has ls 3 [(2, .null), (0, .ref (b 0)), (1, .int v1)] := hl
    refine lv_ifnonnullN hx hb dX10_cost_7 ?_
    refine lv_aload_n hx hb dX10_cost_10 rfl (lv_at hl 1 rfl) ?_
    refine lv_iload_n hx hb dX10_cost_11 rfl (lv_at hl 2 rfl) ?_
    obtain ⟨y_10, xs_11, h_12, heq⟩ := bnd_h heq
    refine x_vi (own := RX10) (As := [.int v1]) (rest := []) hx hb hml hown hts (okX10_refusal z l D T b hR h_12) (cwV 1 hts gX10_cost_X10_refusal rfl rfl rfl hdX10_refusal ⟨Nat.le_of_ble_eq_true rfl, Nat.le_of_ble_eq_true rfl⟩) hK hA hX hP hD hS (ci := 10) (q0 := 0) rfl rfl rfl hl.1 rfl (Nat.le_of_ble_eq_true rfl) dX10_cost_12 ⟨Nat.le_of_ble_eq_true rfl, Nat.le_of_ble_eq_true rfl⟩ (fun xa_13 H locs hR hsxa_13 hP hD hS => ?_)
    have hU := xSub.tr hU hsxa_13
    refine lv_goto (tgt := 22) hx hb dX10_cost_15 (by decide) ?_
    exact b22 xs_11 y_10 xa_13 H locs ls hR hU hP hD hS (lv_sub hl [] rfl) heq
  rw [h_7] at hl ⊢
  have hl : lv_has ls 3 [(2, .ref q_8), (0, .ref (b 0)), (1, .int v1)] := hl
  refine lv_ifnonnull (tgt := 18) hx hb dX10_cost_7 (by decide) ?_
  refine lv_aload_n hx hb dX10_cost_18 rfl (lv_at hl 0 rfl) ?_
  suffices hcont : ∀ (H : Heap) (locs : List Loc), va_P D vwCl (xW b T xa_4 xs_2) H → va_S A s.heap H locs → W p l e rmX10_cost s m args below meth c H locs 0 0 Q (F0 m 22 ls [.int (prB k_6)]) by
    have hm := xMem b T xs_2 h_9
    have h8 := hR.2.2.2.2 _ h_9
    obtain ⟨kk, ekk⟩ : ∃ z, z = k_6 := ⟨_, rfl⟩
    rw [← ekk] at hm h8 hcont
    obtain ⟨kd, fg⟩ := kk
    rcases (show kd = 0 ∨ kd = 1 ∨ kd = 2 ∨ kd = 3 ∨ kd = 4 ∨ kd = 5 ∨ kd = 6 ∨ kd = 7 from by have := h8; simp only at this; omega) with rfl | rfl | rfl | rfl | rfl | rfl | rfl | rfl
    · exact x_brick (own := RX10) (rest := []) hx hb hml hown hts (okX0_price_0 z l D T _ fg) (Or.inl (cwV 0 hts gX10_cost_X0_price rfl rfl rfl hdX0_price ⟨Nat.le_of_ble_eq_true rfl, Nat.le_of_ble_eq_true rfl⟩)) hK hA hX hP hD hS hm rfl hl.1 (Nat.le_of_ble_eq_true rfl) dX10_cost_19 ⟨Nat.le_of_ble_eq_true rfl, Nat.le_of_ble_eq_true rfl⟩ hcont
    · exact x_brick (own := RX10) (rest := []) hx hb hml hown hts (okX2_price_2 z l D T _ fg) (Or.inr ⟨_, _, va_cwO 0 hts gX10_cost_X2_price_u308X2 rfl rfl rfl (b0 := cX0_price) (m0 := 1) (r0 := some .int) (by decide +kernel) (by decide +kernel) ⟨Nat.le_of_ble_eq_true rfl, Nat.le_of_ble_eq_true rfl⟩⟩) hK hA hX hP hD hS hm rfl hl.1 (Nat.le_of_ble_eq_true rfl) dX10_cost_19 ⟨Nat.le_of_ble_eq_true rfl, Nat.le_of_ble_eq_true rfl⟩ hcont
    · exact x_brick (own := RX10) (rest := []) hx hb hml hown hts (okX6_price_6 z l D T _ fg) (Or.inr ⟨_, _, va_cwO 0 hts gX10_cost_X6_price_u308X6 rfl rfl rfl (b0 := cX0_price) (m0 := 1) (r0 := some .int) (by decide +kernel) (by decide +kernel) ⟨Nat.le_of_ble_eq_true rfl, Nat.le_of_ble_eq_true rfl⟩⟩) hK hA hX hP hD hS hm rfl hl.1 (Nat.le_of_ble_eq_true rfl) dX10_cost_19 ⟨Nat.le_of_ble_eq_true rfl, Nat.le_of_ble_eq_true rfl⟩ hcont
    · exact x_brick (own := RX10) (rest := []) hx hb hml hown hts (okX4_price_4 z l D T _ fg) (Or.inr ⟨_, _, va_cwO 0 hts gX10_cost_X4_price_u308X4 rfl rfl rfl (b0 := cX0_price) (m0 := 1) (r0 := some .int) (by decide +kernel) (by decide +kernel) ⟨Nat.le_of_ble_eq_true rfl, Nat.le_of_ble_eq_true rfl⟩⟩) hK hA hX hP hD hS hm rfl hl.1 (Nat.le_of_ble_eq_true rfl) dX10_cost_19 ⟨Nat.le_of_ble_eq_true rfl, Nat.le_of_ble_eq_true rfl⟩ hcont
    · exact x_brick (own := RX10) (rest := []) hx hb hml hown hts (okX1_price_1 z l D T _ fg) (Or.inr ⟨_, _, va_cwO 0 hts gX10_cost_X1_price_u308X1 rfl rfl rfl (b0 := cX0_price) (m0 := 1) (r0 := some .int) (by decide +kernel) (by decide +kernel) ⟨Nat.le_of_ble_eq_true rfl, Nat.le_of_ble_eq_true rfl⟩⟩) hK hA hX hP hD hS hm rfl hl.1 (Nat.le_of_ble_eq_true rfl) dX10_cost_19 ⟨Nat.le_of_ble_eq_true rfl, Nat.le_of_ble_eq_true rfl⟩ hcont
    · exact x_brick (own := RX10) (rest := []) hx hb hml hown hts (okX3_price_3 z l D T _ fg) (Or.inr ⟨_, _, va_cwO 0 hts gX10_cost_X3_price_u308X3 rfl rfl rfl (b0 := cX0_price) (m0 := 1) (r0 := some .int) (by decide +kernel) (by decide +kernel) ⟨Nat.le_of_ble_eq_true rfl, Nat.le_of_ble_eq_true rfl⟩⟩) hK hA hX hP hD hS hm rfl hl.1 (Nat.le_of_ble_eq_true rfl) dX10_cost_19 ⟨Nat.le_of_ble_eq_true rfl, Nat.le_of_ble_eq_true rfl⟩ hcont
    · exact x_brick (own := RX10) (rest := []) hx hb hml hown hts (okX5_price_5 z l D T _ fg) (Or.inr ⟨_, _, va_cwO 0 hts gX10_cost_X5_price_u308X5 rfl rfl rfl (b0 := cX0_price) (m0 := 1) (r0 := some .int) (by decide +kernel) (by decide +kernel) ⟨Nat.le_of_ble_eq_true rfl, Nat.le_of_ble_eq_true rfl⟩⟩) hK hA hX hP hD hS hm rfl hl.1 (Nat.le_of_ble_eq_true rfl) dX10_cost_19 ⟨Nat.le_of_ble_eq_true rfl, Nat.le_of_ble_eq_true rfl⟩ hcont
    · exact x_brick (own := RX10) (rest := []) hx hb hml hown hts (okX9_price_9 z l D T _ fg) (Or.inr ⟨_, _, va_cwO 0 hts gX10_cost_X9_price_u308X9 rfl rfl rfl (b0 := cX0_price) (m0 := 1) (r0 := some .int) (by decide +kernel) (by decide +kernel) ⟨Nat.le_of_ble_eq_true rfl, Nat.le_of_ble_eq_true rfl⟩⟩) hK hA hX hP hD hS hm rfl hl.1 (Nat.le_of_ble_eq_true rfl) dX10_cost_19 ⟨Nat.le_of_ble_eq_true rfl, Nat.le_of_ble_eq_true rfl⟩ hcont
  intro H locs hP hS
  exact b22 xs_2 (prB k_6) xa_4 H locs ls hR hU hP hD hS (lv_sub hl [] rfl) heq
