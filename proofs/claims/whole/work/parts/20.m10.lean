theorem dX11_costOf_0 : decode cX11_costOf 0 = .ok (.iload_n 0, 1) := by decide +kernel
theorem dX11_costOf_1 : decode cX11_costOf 1 = .ok (.tableswitch 66 0 6 #[43, 45, 47, 51, 55, 57, 60], 43) := by decide +kernel
theorem dX11_costOf_44 : decode cX11_costOf 44 = .ok (.iconst 1, 1) := by decide +kernel
theorem dX11_costOf_45 : decode cX11_costOf 45 = .ok (.ireturn, 1) := by decide +kernel
theorem dX11_costOf_46 : decode cX11_costOf 46 = .ok (.iconst 5, 1) := by decide +kernel
theorem dX11_costOf_47 : decode cX11_costOf 47 = .ok (.ireturn, 1) := by decide +kernel
theorem dX11_costOf_48 : decode cX11_costOf 48 = .ok (.iconst 2, 1) := by decide +kernel
theorem dX11_costOf_49 : decode cX11_costOf 49 = .ok (.iload_n 1, 1) := by decide +kernel
theorem dX11_costOf_50 : decode cX11_costOf 50 = .ok (.iadd, 1) := by decide +kernel
theorem dX11_costOf_51 : decode cX11_costOf 51 = .ok (.ireturn, 1) := by decide +kernel
theorem dX11_costOf_52 : decode cX11_costOf 52 = .ok (.iconst 1, 1) := by decide +kernel
theorem dX11_costOf_53 : decode cX11_costOf 53 = .ok (.iload_n 1, 1) := by decide +kernel
theorem dX11_costOf_54 : decode cX11_costOf 54 = .ok (.iadd, 1) := by decide +kernel
theorem dX11_costOf_55 : decode cX11_costOf 55 = .ok (.ireturn, 1) := by decide +kernel
theorem dX11_costOf_56 : decode cX11_costOf 56 = .ok (.iconst 2, 1) := by decide +kernel
theorem dX11_costOf_57 : decode cX11_costOf 57 = .ok (.ireturn, 1) := by decide +kernel
theorem dX11_costOf_58 : decode cX11_costOf 58 = .ok (.bipush 6, 2) := by decide +kernel
theorem dX11_costOf_60 : decode cX11_costOf 60 = .ok (.ireturn, 1) := by decide +kernel
theorem dX11_costOf_61 : decode cX11_costOf 61 = .ok (.iconst 2, 1) := by decide +kernel
theorem dX11_costOf_62 : decode cX11_costOf 62 = .ok (.iconst 2, 1) := by decide +kernel
theorem dX11_costOf_63 : decode cX11_costOf 63 = .ok (.iload_n 1, 1) := by decide +kernel
theorem dX11_costOf_64 : decode cX11_costOf 64 = .ok (.iadd, 1) := by decide +kernel
theorem dX11_costOf_65 : decode cX11_costOf 65 = .ok (.imul, 1) := by decide +kernel
theorem dX11_costOf_66 : decode cX11_costOf 66 = .ok (.ireturn, 1) := by decide +kernel
theorem dX11_costOf_67 : decode cX11_costOf 67 = .ok (.bipush 9, 2) := by decide +kernel
theorem dX11_costOf_69 : decode cX11_costOf 69 = .ok (.iload_n 1, 1) := by decide +kernel
theorem dX11_costOf_70 : decode cX11_costOf 70 = .ok (.iadd, 1) := by decide +kernel
theorem dX11_costOf_71 : decode cX11_costOf 71 = .ok (.ireturn, 1) := by decide +kernel
/-! costOf -/
def X11_costOf (v0 : Int32) (v1 : Int32) : Option Int32 :=
    if v0 = (0 : Int32) then
      (some (1 : Int32))
    else
    if v0 = (1 : Int32) then
      (some (5 : Int32))
    else
    if v0 = (2 : Int32) then
      (some ((2 : Int32) + v1))
    else
    if v0 = (3 : Int32) then
      (some ((1 : Int32) + v1))
    else
    if v0 = (4 : Int32) then
      (some (2 : Int32))
    else
    if v0 = (5 : Int32) then
      (some (6 : Int32))
    else
    if v0 = (6 : Int32) then
      (some ((2 : Int32) * ((2 : Int32) + v1)))
    else
    some ((9 : Int32) + v1)
abbrev rmX11_costOf : Room := { frames := 0, cells := 0, slots := 0, locals := 0 }
theorem hdX11_costOf : yX11_costOf.cls = RX11 ∧ yX11_costOf.cls ≠ "java/lang/invoke/MethodHandle" ∧ yX11_costOf.cls ≠ "java/lang/invoke/VarHandle" ∧ (parseMethodDescriptor yX11_costOf.desc).map (fun d => d.parameters.length) = some 2 := by decide +kernel
set_option maxRecDepth 100000 in
set_option maxHeartbeats 4000000 in
theorem okX11_costOf (l : Launch) (D : va_G) {v0 : Int32} {v1 : Int32} {r : Int32} (heq : X11_costOf v0 v1 = some r) : gCi l D [] yX11_costOf wsX11_costOf rmX11_costOf [.int v0, .int v1] [] r [] := by
  refine g_body_i (by decide) rfl (Nat.le_of_ble_eq_true rfl) (fun p e s m args below meth c A Q hx hb hml hown hts hK hA hret ls hP hD hS hl => ?_)
  have hl : lv_has ls 2 [(0, .int v0), (1, .int v1)] := hl
  obtain ⟨H, hH⟩ : ∃ H, H = s.heap := ⟨_, rfl⟩
  obtain ⟨locs, hlocs⟩ : ∃ z : List Loc, z = [] := ⟨_, rfl⟩
  have hS : va_S A s.heap H locs := by rw [hH, hlocs]; exact hS
  have hP : va_P D vwCl [] H := by rw [hH]; exact hP
  suffices h9 : W p l e rmX11_costOf s m args below meth c H locs 0 0 Q (F0 m 0 ls []) by rw [hH, hlocs] at h9; exact h9
  clear hH hlocs
  unfold X11_costOf at heq
  refine lv_iload_n hx hb dX11_costOf_0 rfl (lv_at hl 0 rfl) ?_
  by_cases c_1 : v0 = (0 : Int32)
  · have heq := it_t c_1 heq
    refine lv_tableIn (tgt := 44) hx hb dX11_costOf_1 (by rw [c_1]; decide) (by rw [c_1]; decide) (by rw [c_1]; rfl) (by decide) ?_
    refine lv_iconst (v := (1 : Int32)) hx hb dX11_costOf_44 (by decide) ?_
    have heq := Option.some.inj heq
    subst heq
    exact hret 45 H locs ls hP hD hS rfl dX11_costOf_45
  have heq := it_f c_1 heq
  by_cases c_2 : v0 = (1 : Int32)
  · have heq := it_t c_2 heq
    refine lv_tableIn (tgt := 46) hx hb dX11_costOf_1 (by rw [c_2]; decide) (by rw [c_2]; decide) (by rw [c_2]; rfl) (by decide) ?_
    refine lv_iconst (v := (5 : Int32)) hx hb dX11_costOf_46 (by decide) ?_
    have heq := Option.some.inj heq
    subst heq
    exact hret 47 H locs ls hP hD hS rfl dX11_costOf_47
  have heq := it_f c_2 heq
  by_cases c_3 : v0 = (2 : Int32)
  · have heq := it_t c_3 heq
    refine lv_tableIn (tgt := 48) hx hb dX11_costOf_1 (by rw [c_3]; decide) (by rw [c_3]; decide) (by rw [c_3]; rfl) (by decide) ?_
    refine lv_iconst (v := (2 : Int32)) hx hb dX11_costOf_48 (by decide) ?_
    refine lv_iload_n hx hb dX11_costOf_49 rfl (lv_at hl 1 rfl) ?_
    refine lv_iadd hx hb dX11_costOf_50 ?_
    have heq := Option.some.inj heq
    subst heq
    exact hret 51 H locs ls hP hD hS rfl dX11_costOf_51
  have heq := it_f c_3 heq
  by_cases c_4 : v0 = (3 : Int32)
  · have heq := it_t c_4 heq
    refine lv_tableIn (tgt := 52) hx hb dX11_costOf_1 (by rw [c_4]; decide) (by rw [c_4]; decide) (by rw [c_4]; rfl) (by decide) ?_
    refine lv_iconst (v := (1 : Int32)) hx hb dX11_costOf_52 (by decide) ?_
    refine lv_iload_n hx hb dX11_costOf_53 rfl (lv_at hl 1 rfl) ?_
    refine lv_iadd hx hb dX11_costOf_54 ?_
    have heq := Option.some.inj heq
    subst heq
    exact hret 55 H locs ls hP hD hS rfl dX11_costOf_55
  have heq := it_f c_4 heq
  by_cases c_5 : v0 = (4 : Int32)
  · have heq := it_t c_5 heq
    refine lv_tableIn (tgt := 56) hx hb dX11_costOf_1 (by rw [c_5]; decide) (by rw [c_5]; decide) (by rw [c_5]; rfl) (by decide) ?_
    refine lv_iconst (v := (2 : Int32)) hx hb dX11_costOf_56 (by decide) ?_
    have heq := Option.some.inj heq
    subst heq
    exact hret 57 H locs ls hP hD hS rfl dX11_costOf_57
  have heq := it_f c_5 heq
  by_cases c_6 : v0 = (5 : Int32)
  · have heq := it_t c_6 heq
    refine lv_tableIn (tgt := 58) hx hb dX11_costOf_1 (by rw [c_6]; decide) (by rw [c_6]; decide) (by rw [c_6]; rfl) (by decide) ?_
    refine lv_bipush (v := (6 : Int32)) hx hb dX11_costOf_58 (by decide) ?_
    have heq := Option.some.inj heq
    subst heq
    exact hret 60 H locs ls hP hD hS rfl dX11_costOf_60
  have heq := it_f c_6 heq
  by_cases c_7 : v0 = (6 : Int32)
  · have heq := it_t c_7 heq
    refine lv_tableIn (tgt := 61) hx hb dX11_costOf_1 (by rw [c_7]; decide) (by rw [c_7]; decide) (by rw [c_7]; rfl) (by decide) ?_
    refine lv_iconst (v := (2 : Int32)) hx hb dX11_costOf_61 (by decide) ?_
    refine lv_iconst (v := (2 : Int32)) hx hb dX11_costOf_62 (by decide) ?_
    refine lv_iload_n hx hb dX11_costOf_63 rfl (lv_at hl 1 rfl) ?_
    refine lv_iadd hx hb dX11_costOf_64 ?_
    refine lv_imul hx hb dX11_costOf_65 ?_
    have heq := Option.some.inj heq
    subst heq
    exact hret 66 H locs ls hP hD hS rfl dX11_costOf_66
  have heq := it_f c_7 heq
  refine lv_tableOut (tgt := 67) hx hb dX11_costOf_1 (sw_out fun k h1 h2 => ?_) (by decide) ?_
  · rcases (show k = 0 ∨ k = 1 ∨ k = 2 ∨ k = 3 ∨ k = 4 ∨ k = 5 ∨ k = 6 by omega) with rfl | rfl | rfl | rfl | rfl | rfl | rfl
    · exact c_1
    · exact c_2
    · exact c_3
    · exact c_4
    · exact c_5
    · exact c_6
    · exact c_7
  refine lv_bipush (v := (9 : Int32)) hx hb dX11_costOf_67 (by decide) ?_
  refine lv_iload_n hx hb dX11_costOf_69 rfl (lv_at hl 1 rfl) ?_
  refine lv_iadd hx hb dX11_costOf_70 ?_
  have heq := Option.some.inj heq
  subst heq
  exact hret 71 H locs ls hP hD hS rfl dX11_costOf_71
set_option maxRecDepth 20000 in
theorem ggX11_cost_X11_wrongKept : GoodIn wsX11_cost wsX11_wrongKept := goodIn_r _ [8, 9, 10, 11, 12, 7, 13, 17, 18, 19, 20, 21, 22, 23, 24, 25, 26, 27, 28, 29, 30, 31, 32, 33, 34, 35, 36, 37, 38, 39, 40, 41, 42, 43, 44, 45, 46, 47, 48, 49, 50, 51, 52, 53] (by decide +kernel) (by decide +kernel)
set_option maxRecDepth 20000 in
theorem gX11_cost_X11_wrongKept : GoodIn wsX11_cost (wsV RX11 230 RX11 yX11_wrongKept wsX11_wrongKept) := goodIn_app (goodIn_of _ (by decide +kernel)) ggX11_cost_X11_wrongKept
set_option maxRecDepth 20000 in
theorem ggX11_cost_X11_costOf : GoodIn wsX11_cost wsX11_costOf := goodIn_r _ [16] (by decide +kernel) (by decide +kernel)
set_option maxRecDepth 20000 in
theorem gX11_cost_X11_costOf : GoodIn wsX11_cost (va_wsS RX11 342 yX11_costOf wsX11_costOf) := goodIn_app (goodIn_of _ (by decide +kernel)) ggX11_cost_X11_costOf
theorem dX11_cost_0 : decode cX11_cost 0 = .ok (.aload_n 0, 1) := by decide +kernel
theorem dX11_cost_1 : decode cX11_cost 1 = .ok (.iconst 0, 1) := by decide +kernel
theorem dX11_cost_2 : decode cX11_cost 2 = .ok (.putfield 75, 3) := by decide +kernel
theorem dX11_cost_5 : decode cX11_cost 5 = .ok (.aload_n 0, 1) := by decide +kernel
theorem dX11_cost_6 : decode cX11_cost 6 = .ok (.iload_n 1, 1) := by decide +kernel
theorem dX11_cost_7 : decode cX11_cost 7 = .ok (.invokevirtual 230, 3) := by decide +kernel
theorem dX11_cost_10 : decode cX11_cost 10 = .ok (.ifCond .ge 11, 3) := by decide +kernel
theorem dX11_cost_13 : decode cX11_cost 13 = .ok (.aload_n 0, 1) := by decide +kernel
theorem dX11_cost_14 : decode cX11_cost 14 = .ok (.iload_n 1, 1) := by decide +kernel
theorem dX11_cost_15 : decode cX11_cost 15 = .ok (.invokevirtual 230, 3) := by decide +kernel
theorem dX11_cost_18 : decode cX11_cost 18 = .ok (.goto 18, 3) := by decide +kernel
theorem dX11_cost_21 : decode cX11_cost 21 = .ok (.aload_n 0, 1) := by decide +kernel
theorem dX11_cost_22 : decode cX11_cost 22 = .ok (.getfield 34, 3) := by decide +kernel
theorem dX11_cost_25 : decode cX11_cost 25 = .ok (.iload_n 1, 1) := by decide +kernel
theorem dX11_cost_26 : decode cX11_cost 26 = .ok (.iaload, 1) := by decide +kernel
theorem dX11_cost_27 : decode cX11_cost 27 = .ok (.aload_n 0, 1) := by decide +kernel
theorem dX11_cost_28 : decode cX11_cost 28 = .ok (.getfield 37, 3) := by decide +kernel
theorem dX11_cost_31 : decode cX11_cost 31 = .ok (.iload_n 1, 1) := by decide +kernel
theorem dX11_cost_32 : decode cX11_cost 32 = .ok (.iaload, 1) := by decide +kernel
theorem dX11_cost_33 : decode cX11_cost 33 = .ok (.invokestatic 342, 3) := by decide +kernel
theorem dX11_cost_36 : decode cX11_cost 36 = .ok (.ireturn, 1) := by decide +kernel
/-! cost -/
def X11_cost_p36 (st : MS) (t0 : Int32) : Option (Int32 × MS) :=
    some (t0, st)
def X11_cost (st : MS) (v1 : Int32) : Option (Int32 × MS) :=
    nm (sF st 17 (0 : Int32)) fun st_1 =>
    bnd (X11_wrongKept st_1 v1) fun y_3 st_2 =>
    if 0 ≤ y_3 then
      (inr v1 8 <|
      inr v1 8 <|
      bd1 (X11_costOf (gA st_2 12 v1.toNatClampNeg) (gA st_2 13 v1.toNatClampNeg)) fun y_8 =>
      X11_cost_p36 st_2 y_8)
    else
    bnd (X11_wrongKept st_2 v1) fun y_11 st_10 =>
    X11_cost_p36 st_10 y_11
abbrev rmX11_cost : Room := { frames := 2, cells := 0, slots := 0, locals := 46 }
theorem hdX11_cost : yX11_cost.cls = RX11 ∧ yX11_cost.cls ≠ "java/lang/invoke/MethodHandle" ∧ yX11_cost.cls ≠ "java/lang/invoke/VarHandle" ∧ (parseMethodDescriptor yX11_cost.desc).map (fun d => d.parameters.length) = some 1 := by decide +kernel
set_option maxRecDepth 100000 in
set_option maxHeartbeats 4000000 in
theorem okX11_cost (l : Launch) (D : va_G) (a : Nat → Nat) (T : mT3) {st : MS} {v1 : Int32} {r : Int32} {st' : MS} (heq : X11_cost st v1 = some (r, st')) : gCi l D (mT T) yX11_cost wsX11_cost rmX11_cost [.ref (a 0), .int v1] (mW a T st) r (mW a T st') := by
  refine g_body_i (by decide) rfl (Nat.le_of_ble_eq_true rfl) (fun p e s m args below meth c A Q hx hb hml hown hts hK hA hret ls hP hD hS hl => ?_)
  have hl : lv_has ls 2 [(0, .ref (a 0)), (1, .int v1)] := hl
  have hin : ∀ w ∈ wsX110, w ∈ wsX11_cost := fun w h => List.mem_cons_of_mem _ (List.mem_append_right _ h)
  have f34 : (Cond.fieldLink RX11 34 RX11 (TX11 12).2.1 (TX11 12).2.2.1).before args s = true := hts (.fieldLink RX11 34 "LaidDownTheLaneModel" "keptKind" "[I") (by decide +kernel)
  have f37 : (Cond.fieldLink RX11 37 RX11 (TX11 13).2.1 (TX11 13).2.2.1).before args s = true := hts (.fieldLink RX11 37 "LaidDownTheLaneModel" "keptFigure" "[I") (by decide +kernel)
  have f75 : (Cond.fieldLink RX11 75 RX11 (TX11 17).2.1 (TX11 17).2.2.1).before args s = true := hts (.fieldLink RX11 75 "LaidDownTheLaneModel" "thrown" "I") (by decide +kernel)
  have b36 : ∀ (st : MS) (t0 : Int32) (H : Heap) (locs : List Loc) (ls : Array Slot), va_P D vwCl (mW a T st) H → va_D A (mW a T st) → va_S A s.heap H locs → lv_has ls 2 [] → X11_cost_p36  st t0 = some (r, st') → W p l e rmX11_cost s m args below meth c H locs 0 0 Q (F0 m 36 ls [.int t0]) := by
    intro st t0 H locs ls hP hD hS hl heq
    unfold X11_cost_p36 at heq
    obtain ⟨heq, heq2⟩ := ret_h heq
    subst heq
    subst heq2
    exact hret 36 H locs ls hP hD hS rfl dX11_cost_36
  obtain ⟨H, hH⟩ : ∃ H, H = s.heap := ⟨_, rfl⟩
  obtain ⟨locs, hlocs⟩ : ∃ z : List Loc, z = [] := ⟨_, rfl⟩
  have hS : va_S A s.heap H locs := by rw [hH, hlocs]; exact hS
  have hP : va_P D vwCl (mW a T st) H := by rw [hH]; exact hP
  suffices h9 : W p l e rmX11_cost s m args below meth c H locs 0 0 Q (F0 m 0 ls []) by rw [hH, hlocs] at h9; exact h9
  clear hH hlocs
  unfold X11_cost at heq
  refine lv_aload_n hx hb dX11_cost_0 rfl (lv_at hl 0 rfl) ?_
  refine lv_iconst (v := (0 : Int32)) hx hb dX11_cost_1 (by decide) ?_
  refine mp (k := 17) hx hb hts hin hown hK hP hD hS (by decide) f75 dX11_cost_2 rfl rfl rfl rfl (mset_17 ..) (fun H locs hP hD hS => ?_)
  obtain ⟨st_1, est_1⟩ : ∃ z, z = sF st 17 (0 : Int32) := ⟨_, rfl⟩
  rw [← est_1] at hP hD
  have heq := nm_h est_1 heq
  refine lv_aload_n hx hb dX11_cost_5 rfl (lv_at hl 0 rfl) ?_
  refine lv_iload_n hx hb dX11_cost_6 rfl (lv_at hl 1 rfl) ?_
  obtain ⟨y_3, st_2, h_4, heq⟩ := bnd_h heq
  refine g_vi (own := RX11) (As := [.int v1]) (rest := []) hx hb hml hown hts (okX11_wrongKept l D a T h_4) (cwV 1 hts gX11_cost_X11_wrongKept rfl rfl rfl hdX11_wrongKept ⟨Nat.le_of_ble_eq_true rfl, Nat.le_of_ble_eq_true rfl⟩) hK hA hP hD hS (ci := 11) (q0 := 0) rfl rfl rfl hl.1 rfl (Nat.le_of_ble_eq_true rfl) dX11_cost_7 ⟨Nat.le_of_ble_eq_true rfl, Nat.le_of_ble_eq_true rfl⟩ (fun H locs hP hD hS => ?_)
  refine lv_if_ge (tgt := 21) hx hb dX11_cost_10 (by decide) (fun c_5 => ?_) (fun c_5 => ?_)
  · have heq := it_t c_5 heq
    refine lv_aload_n hx hb dX11_cost_21 rfl (lv_at hl 0 rfl) ?_
    refine mg (k := 12) (v := .ref (a 9)) hx hb hts hin hown hK hP (by decide) f34 rfl dX11_cost_22 rfl ?_
    refine lv_iload_n hx hb dX11_cost_25 rfl (lv_at hl 1 rfl) ?_
    obtain ⟨n_6, heq⟩ := inr_h heq
    refine mal (k := 12) (q := 9) (n := 8) hx hb hK hP rfl n_6 dX11_cost_26 ?_
    refine lv_aload_n hx hb dX11_cost_27 rfl (lv_at hl 0 rfl) ?_
    refine mg (k := 13) (v := .ref (a 10)) hx hb hts hin hown hK hP (by decide) f37 rfl dX11_cost_28 rfl ?_
    refine lv_iload_n hx hb dX11_cost_31 rfl (lv_at hl 1 rfl) ?_
    obtain ⟨n_7, heq⟩ := inr_h heq
    refine mal (k := 13) (q := 10) (n := 8) hx hb hK hP rfl n_7 dX11_cost_32 ?_
    obtain ⟨y_8, h_9, heq⟩ := bd1_h heq
    refine g_si (own := RX11) (D := D) (As := [.int (gA st_2 12 v1.toNatClampNeg), .int (gA st_2 13 v1.toNatClampNeg)]) (rest := []) hx hb hml hown hts (okX11_costOf l D h_9) (cwS 2 hts gX11_cost_X11_costOf rfl rfl rfl hdX11_costOf ⟨Nat.le_of_ble_eq_true rfl, Nat.le_of_ble_eq_true rfl⟩) hK hA hP hS rfl hl.1 rfl (Nat.le_of_ble_eq_true rfl) dX11_cost_33 ⟨Nat.le_of_ble_eq_true rfl, Nat.le_of_ble_eq_true rfl⟩ (fun H locs hP hS => ?_)
    exact b36 st_2 y_8 H locs ls hP hD hS (lv_sub hl [] rfl) heq
  have heq := it_f c_5 heq
  refine lv_aload_n hx hb dX11_cost_13 rfl (lv_at hl 0 rfl) ?_
  refine lv_iload_n hx hb dX11_cost_14 rfl (lv_at hl 1 rfl) ?_
  obtain ⟨y_11, st_10, h_12, heq⟩ := bnd_h heq
  refine g_vi (own := RX11) (As := [.int v1]) (rest := []) hx hb hml hown hts (okX11_wrongKept l D a T h_12) (cwV 1 hts gX11_cost_X11_wrongKept rfl rfl rfl hdX11_wrongKept ⟨Nat.le_of_ble_eq_true rfl, Nat.le_of_ble_eq_true rfl⟩) hK hA hP hD hS (ci := 11) (q0 := 0) rfl rfl rfl hl.1 rfl (Nat.le_of_ble_eq_true rfl) dX11_cost_15 ⟨Nat.le_of_ble_eq_true rfl, Nat.le_of_ble_eq_true rfl⟩ (fun H locs hP hD hS => ?_)
  refine lv_goto (tgt := 36) hx hb dX11_cost_18 (by decide) ?_
  exact b36 st_10 y_11 H locs ls hP hD hS (lv_sub hl [] rfl) heq
set_option maxRecDepth 20000 in
theorem ggX11_toss_X11_wrongKept : GoodIn wsX11_toss wsX11_wrongKept := goodIn_r _ [8, 9, 10, 11, 12, 7, 13, 17, 18, 19, 20, 21, 22, 23, 24, 25, 26, 27, 28, 29, 30, 31, 32, 33, 34, 35, 36, 37, 38, 39, 40, 41, 42, 43, 44, 45, 46, 47, 48, 49, 50, 51, 52, 53] (by decide +kernel) (by decide +kernel)
set_option maxRecDepth 20000 in
theorem gX11_toss_X11_wrongKept : GoodIn wsX11_toss (wsV RX11 230 RX11 yX11_wrongKept wsX11_wrongKept) := goodIn_app (goodIn_of _ (by decide +kernel)) ggX11_toss_X11_wrongKept
set_option maxRecDepth 20000 in
theorem ggX11_toss_X11_costOf : GoodIn wsX11_toss wsX11_costOf := goodIn_r _ [16] (by decide +kernel) (by decide +kernel)
set_option maxRecDepth 20000 in
theorem gX11_toss_X11_costOf : GoodIn wsX11_toss (va_wsS RX11 342 yX11_costOf wsX11_costOf) := goodIn_app (goodIn_of _ (by decide +kernel)) ggX11_toss_X11_costOf
theorem dX11_toss_0 : decode cX11_toss 0 = .ok (.aload_n 0, 1) := by decide +kernel
theorem dX11_toss_1 : decode cX11_toss 1 = .ok (.iconst 0, 1) := by decide +kernel
theorem dX11_toss_2 : decode cX11_toss 2 = .ok (.putfield 75, 3) := by decide +kernel
theorem dX11_toss_5 : decode cX11_toss 5 = .ok (.aload_n 0, 1) := by decide +kernel
theorem dX11_toss_6 : decode cX11_toss 6 = .ok (.iload_n 1, 1) := by decide +kernel
theorem dX11_toss_7 : decode cX11_toss 7 = .ok (.invokevirtual 230, 3) := by decide +kernel
theorem dX11_toss_10 : decode cX11_toss 10 = .ok (.ifCond .ge 9, 3) := by decide +kernel
theorem dX11_toss_13 : decode cX11_toss 13 = .ok (.aload_n 0, 1) := by decide +kernel
theorem dX11_toss_14 : decode cX11_toss 14 = .ok (.iload_n 1, 1) := by decide +kernel
theorem dX11_toss_15 : decode cX11_toss 15 = .ok (.invokevirtual 230, 3) := by decide +kernel
theorem dX11_toss_18 : decode cX11_toss 18 = .ok (.ireturn, 1) := by decide +kernel
theorem dX11_toss_19 : decode cX11_toss 19 = .ok (.aload_n 0, 1) := by decide +kernel
theorem dX11_toss_20 : decode cX11_toss 20 = .ok (.getfield 34, 3) := by decide +kernel
theorem dX11_toss_23 : decode cX11_toss 23 = .ok (.iload_n 1, 1) := by decide +kernel
theorem dX11_toss_24 : decode cX11_toss 24 = .ok (.iaload, 1) := by decide +kernel
theorem dX11_toss_25 : decode cX11_toss 25 = .ok (.istore_n 2, 1) := by decide +kernel
theorem dX11_toss_26 : decode cX11_toss 26 = .ok (.aload_n 0, 1) := by decide +kernel
theorem dX11_toss_27 : decode cX11_toss 27 = .ok (.getfield 37, 3) := by decide +kernel
theorem dX11_toss_30 : decode cX11_toss 30 = .ok (.iload_n 1, 1) := by decide +kernel
theorem dX11_toss_31 : decode cX11_toss 31 = .ok (.iaload, 1) := by decide +kernel
theorem dX11_toss_32 : decode cX11_toss 32 = .ok (.istore_n 3, 1) := by decide +kernel
theorem dX11_toss_33 : decode cX11_toss 33 = .ok (.iload_n 2, 1) := by decide +kernel
theorem dX11_toss_34 : decode cX11_toss 34 = .ok (.iconst 1, 1) := by decide +kernel
theorem dX11_toss_35 : decode cX11_toss 35 = .ok (.if_icmp .eq 7, 3) := by decide +kernel
theorem dX11_toss_38 : decode cX11_toss 38 = .ok (.iload_n 3, 1) := by decide +kernel
theorem dX11_toss_39 : decode cX11_toss 39 = .ok (.ifCond .ne 6, 3) := by decide +kernel
theorem dX11_toss_42 : decode cX11_toss 42 = .ok (.bipush (-15), 2) := by decide +kernel
theorem dX11_toss_44 : decode cX11_toss 44 = .ok (.ireturn, 1) := by decide +kernel
theorem dX11_toss_45 : decode cX11_toss 45 = .ok (.iload_n 2, 1) := by decide +kernel
theorem dX11_toss_46 : decode cX11_toss 46 = .ok (.iconst 2, 1) := by decide +kernel
theorem dX11_toss_47 : decode cX11_toss 47 = .ok (.if_icmp .eq 8, 3) := by decide +kernel
theorem dX11_toss_50 : decode cX11_toss 50 = .ok (.iload_n 2, 1) := by decide +kernel
theorem dX11_toss_51 : decode cX11_toss 51 = .ok (.iconst 3, 1) := by decide +kernel
theorem dX11_toss_52 : decode cX11_toss 52 = .ok (.if_icmp .ne 10, 3) := by decide +kernel
theorem dX11_toss_55 : decode cX11_toss 55 = .ok (.bipush 100, 2) := by decide +kernel
theorem dX11_toss_57 : decode cX11_toss 57 = .ok (.iload_n 3, 1) := by decide +kernel
theorem dX11_toss_58 : decode cX11_toss 58 = .ok (.iadd, 1) := by decide +kernel
theorem dX11_toss_59 : decode cX11_toss 59 = .ok (.goto 22, 3) := by decide +kernel
theorem dX11_toss_62 : decode cX11_toss 62 = .ok (.iload_n 2, 1) := by decide +kernel
theorem dX11_toss_63 : decode cX11_toss 63 = .ok (.bipush 6, 2) := by decide +kernel
theorem dX11_toss_65 : decode cX11_toss 65 = .ok (.if_icmp .ne 15, 3) := by decide +kernel
theorem dX11_toss_68 : decode cX11_toss 68 = .ok (.sipush 200, 3) := by decide +kernel
theorem dX11_toss_71 : decode cX11_toss 71 = .ok (.iload_n 2, 1) := by decide +kernel
theorem dX11_toss_72 : decode cX11_toss 72 = .ok (.iload_n 3, 1) := by decide +kernel
theorem dX11_toss_73 : decode cX11_toss 73 = .ok (.invokestatic 342, 3) := by decide +kernel
theorem dX11_toss_76 : decode cX11_toss 76 = .ok (.iadd, 1) := by decide +kernel
theorem dX11_toss_77 : decode cX11_toss 77 = .ok (.goto 4, 3) := by decide +kernel
theorem dX11_toss_80 : decode cX11_toss 80 = .ok (.iload_n 3, 1) := by decide +kernel
theorem dX11_toss_81 : decode cX11_toss 81 = .ok (.ireturn, 1) := by decide +kernel
/-! toss -/
def X11_toss_p81 (st : MS) (t0 : Int32) : Option (Int32 × MS) :=
    some (t0, st)
def X11_toss_p55 (st : MS) (v3 : Int32) : Option (Int32 × MS) :=
    X11_toss_p81 st ((100 : Int32) + v3)
def X11_toss (st : MS) (v1 : Int32) : Option (Int32 × MS) :=
    nm (sF st 17 (0 : Int32)) fun st_1 =>
    bnd (X11_wrongKept st_1 v1) fun y_3 st_2 =>
    if 0 ≤ y_3 then
      (inr v1 8 <|
      nm ((gA st_2 12 v1.toNatClampNeg)) fun x_7 =>
      inr v1 8 <|
      nm ((gA st_2 13 v1.toNatClampNeg)) fun x_9 =>
      if x_7 = (1 : Int32) then
        (some ((-15 : Int32), st_2))
      else
      if x_9 = 0 then
        (some ((-15 : Int32), st_2))
      else
      if x_7 = (2 : Int32) then
        (X11_toss_p55 st_2 x_9)
      else
      if x_7 = (3 : Int32) then
        (X11_toss_p55 st_2 x_9)
      else
      if x_7 = (6 : Int32) then
        (bd1 (X11_costOf x_7 x_9) fun y_15 =>
        X11_toss_p81 st_2 ((200 : Int32) + y_15))
      else
      X11_toss_p81 st_2 x_9)
    else
    bnd (X11_wrongKept st_2 v1) fun y_18 st_17 =>
    some (y_18, st_17)
abbrev rmX11_toss : Room := { frames := 2, cells := 0, slots := 0, locals := 46 }
theorem hdX11_toss : yX11_toss.cls = RX11 ∧ yX11_toss.cls ≠ "java/lang/invoke/MethodHandle" ∧ yX11_toss.cls ≠ "java/lang/invoke/VarHandle" ∧ (parseMethodDescriptor yX11_toss.desc).map (fun d => d.parameters.length) = some 1 := by decide +kernel
set_option maxRecDepth 100000 in
set_option maxHeartbeats 4000000 in
theorem okX11_toss (l : Launch) (D : va_G) (a : Nat → Nat) (T : mT3) {st : MS} {v1 : Int32} {r : Int32} {st' : MS} (heq : X11_toss st v1 = some (r, st')) : gCi l D (mT T) yX11_toss wsX11_toss rmX11_toss [.ref (a 0), .int v1] (mW a T st) r (mW a T st') := by
  refine g_body_i (by decide) rfl (Nat.le_of_ble_eq_true rfl) (fun p e s m args below meth c A Q hx hb hml hown hts hK hA hret ls hP hD hS hl => ?_)
  have hl : lv_has ls 4 [(0, .ref (a 0)), (1, .int v1)] := hl
  have hin : ∀ w ∈ wsX110, w ∈ wsX11_toss := fun w h => List.mem_cons_of_mem _ (List.mem_append_right _ h)
  have f34 : (Cond.fieldLink RX11 34 RX11 (TX11 12).2.1 (TX11 12).2.2.1).before args s = true := hts (.fieldLink RX11 34 "LaidDownTheLaneModel" "keptKind" "[I") (by decide +kernel)
  have f37 : (Cond.fieldLink RX11 37 RX11 (TX11 13).2.1 (TX11 13).2.2.1).before args s = true := hts (.fieldLink RX11 37 "LaidDownTheLaneModel" "keptFigure" "[I") (by decide +kernel)
  have f75 : (Cond.fieldLink RX11 75 RX11 (TX11 17).2.1 (TX11 17).2.2.1).before args s = true := hts (.fieldLink RX11 75 "LaidDownTheLaneModel" "thrown" "I") (by decide +kernel)
  have b81 : ∀ (st : MS) (t0 : Int32) (H : Heap) (locs : List Loc) (ls : Array Slot), va_P D vwCl (mW a T st) H → va_D A (mW a T st) → va_S A s.heap H locs → lv_has ls 4 [] → X11_toss_p81  st t0 = some (r, st') → W p l e rmX11_toss s m args below meth c H locs 0 0 Q (F0 m 81 ls [.int t0]) := by
    intro st t0 H locs ls hP hD hS hl heq
    unfold X11_toss_p81 at heq
    obtain ⟨heq, heq2⟩ := ret_h heq
    subst heq
    subst heq2
    exact hret 81 H locs ls hP hD hS rfl dX11_toss_81
  have b55 : ∀ (st : MS) (v3 : Int32) (H : Heap) (locs : List Loc) (ls : Array Slot), va_P D vwCl (mW a T st) H → va_D A (mW a T st) → va_S A s.heap H locs → lv_has ls 4 [(3, .int v3)] → X11_toss_p55  st v3 = some (r, st') → W p l e rmX11_toss s m args below meth c H locs 0 0 Q (F0 m 55 ls []) := by
    intro st v3 H locs ls hP hD hS hl heq
    unfold X11_toss_p55 at heq
    refine lv_bipush (v := (100 : Int32)) hx hb dX11_toss_55 (by decide) ?_
    refine lv_iload_n hx hb dX11_toss_57 rfl (lv_at hl 0 rfl) ?_
    refine lv_iadd hx hb dX11_toss_58 ?_
    refine lv_goto (tgt := 81) hx hb dX11_toss_59 (by decide) ?_
    exact b81 st ((100 : Int32) + v3) H locs ls hP hD hS (lv_sub hl [] rfl) heq
  obtain ⟨H, hH⟩ : ∃ H, H = s.heap := ⟨_, rfl⟩
  obtain ⟨locs, hlocs⟩ : ∃ z : List Loc, z = [] := ⟨_, rfl⟩
  have hS : va_S A s.heap H locs := by rw [hH, hlocs]; exact hS
  have hP : va_P D vwCl (mW a T st) H := by rw [hH]; exact hP
  suffices h9 : W p l e rmX11_toss s m args below meth c H locs 0 0 Q (F0 m 0 ls []) by rw [hH, hlocs] at h9; exact h9
  clear hH hlocs
  unfold X11_toss at heq
  refine lv_aload_n hx hb dX11_toss_0 rfl (lv_at hl 0 rfl) ?_
  refine lv_iconst (v := (0 : Int32)) hx hb dX11_toss_1 (by decide) ?_
  refine mp (k := 17) hx hb hts hin hown hK hP hD hS (by decide) f75 dX11_toss_2 rfl rfl rfl rfl (mset_17 ..) (fun H locs hP hD hS => ?_)
  obtain ⟨st_1, est_1⟩ : ∃ z, z = sF st 17 (0 : Int32) := ⟨_, rfl⟩
  rw [← est_1] at hP hD
  have heq := nm_h est_1 heq
  refine lv_aload_n hx hb dX11_toss_5 rfl (lv_at hl 0 rfl) ?_
  refine lv_iload_n hx hb dX11_toss_6 rfl (lv_at hl 1 rfl) ?_
  obtain ⟨y_3, st_2, h_4, heq⟩ := bnd_h heq
  refine g_vi (own := RX11) (As := [.int v1]) (rest := []) hx hb hml hown hts (okX11_wrongKept l D a T h_4) (cwV 1 hts gX11_toss_X11_wrongKept rfl rfl rfl hdX11_wrongKept ⟨Nat.le_of_ble_eq_true rfl, Nat.le_of_ble_eq_true rfl⟩) hK hA hP hD hS (ci := 11) (q0 := 0) rfl rfl rfl hl.1 rfl (Nat.le_of_ble_eq_true rfl) dX11_toss_7 ⟨Nat.le_of_ble_eq_true rfl, Nat.le_of_ble_eq_true rfl⟩ (fun H locs hP hD hS => ?_)
  refine lv_if_ge (tgt := 19) hx hb dX11_toss_10 (by decide) (fun c_5 => ?_) (fun c_5 => ?_)
  · have heq := it_t c_5 heq
    refine lv_aload_n hx hb dX11_toss_19 rfl (lv_at hl 0 rfl) ?_
    refine mg (k := 12) (v := .ref (a 9)) hx hb hts hin hown hK hP (by decide) f34 rfl dX11_toss_20 rfl ?_
    refine lv_iload_n hx hb dX11_toss_23 rfl (lv_at hl 1 rfl) ?_
    obtain ⟨n_6, heq⟩ := inr_h heq
    refine mal (k := 12) (q := 9) (n := 8) hx hb hK hP rfl n_6 dX11_toss_24 ?_
    refine lv_topi (fun x_7 ex_7 => ?_)
    have heq := nm_h ex_7 heq
    refine lv_istore_n (lv' := [(2, .int x_7), (0, .ref (a 0)), (1, .int v1)]) hx hb dX11_toss_25 rfl hl (by decide) rfl (fun ls hl => ?_)
    refine lv_aload_n hx hb dX11_toss_26 rfl (lv_at hl 1 rfl) ?_
    refine mg (k := 13) (v := .ref (a 10)) hx hb hts hin hown hK hP (by decide) f37 rfl dX11_toss_27 rfl ?_
    refine lv_iload_n hx hb dX11_toss_30 rfl (lv_at hl 2 rfl) ?_
    obtain ⟨n_8, heq⟩ := inr_h heq
    refine mal (k := 13) (q := 10) (n := 8) hx hb hK hP rfl n_8 dX11_toss_31 ?_
    refine lv_topi (fun x_9 ex_9 => ?_)
    have heq := nm_h ex_9 heq
    refine lv_istore_n (lv' := [(3, .int x_9), (2, .int x_7), (0, .ref (a 0)), (1, .int v1)]) hx hb dX11_toss_32 rfl hl (by decide) rfl (fun ls hl => ?_)
    refine lv_iload_n hx hb dX11_toss_33 rfl (lv_at hl 1 rfl) ?_
    refine lv_iconst (v := (1 : Int32)) hx hb dX11_toss_34 (by decide) ?_
    refine lv_icmp_eq (tgt := 42) hx hb dX11_toss_35 (by decide) (fun c_10 => ?_) (fun c_10 => ?_)
    · have heq := it_t c_10 heq
      refine lv_bipush (v := (-15 : Int32)) hx hb dX11_toss_42 (by decide) ?_
      obtain ⟨heq, heq2⟩ := ret_h heq
      subst heq
      subst heq2
      exact hret 44 H locs ls hP hD hS rfl dX11_toss_44
    have heq := it_f c_10 heq
    refine lv_iload_n hx hb dX11_toss_38 rfl (lv_at hl 0 rfl) ?_
    refine lv_if_ne (tgt := 45) hx hb dX11_toss_39 (by decide) (fun c_11 => ?_) (fun c_11 => ?_)
    · have heq := it_f c_11 heq
      refine lv_iload_n hx hb dX11_toss_45 rfl (lv_at hl 1 rfl) ?_
      refine lv_iconst (v := (2 : Int32)) hx hb dX11_toss_46 (by decide) ?_
      refine lv_icmp_eq (tgt := 55) hx hb dX11_toss_47 (by decide) (fun c_12 => ?_) (fun c_12 => ?_)
      · have heq := it_t c_12 heq
        exact b55 st_2 x_9 H locs ls hP hD hS (lv_sub hl [0] rfl) heq
      have heq := it_f c_12 heq
      refine lv_iload_n hx hb dX11_toss_50 rfl (lv_at hl 1 rfl) ?_
      refine lv_iconst (v := (3 : Int32)) hx hb dX11_toss_51 (by decide) ?_
      refine lv_icmp_ne (tgt := 62) hx hb dX11_toss_52 (by decide) (fun c_13 => ?_) (fun c_13 => ?_)
      · have heq := it_f c_13 heq
        refine lv_iload_n hx hb dX11_toss_62 rfl (lv_at hl 1 rfl) ?_
        refine lv_bipush (v := (6 : Int32)) hx hb dX11_toss_63 (by decide) ?_
        refine lv_icmp_ne (tgt := 80) hx hb dX11_toss_65 (by decide) (fun c_14 => ?_) (fun c_14 => ?_)
        · have heq := it_f c_14 heq
          refine lv_iload_n hx hb dX11_toss_80 rfl (lv_at hl 0 rfl) ?_
          exact b81 st_2 x_9 H locs ls hP hD hS (lv_sub hl [] rfl) heq
        have heq := it_t c_14 heq
        refine lv_sipush (v := (200 : Int32)) hx hb dX11_toss_68 (by decide) ?_
        refine lv_iload_n hx hb dX11_toss_71 rfl (lv_at hl 1 rfl) ?_
        refine lv_iload_n hx hb dX11_toss_72 rfl (lv_at hl 0 rfl) ?_
        obtain ⟨y_15, h_16, heq⟩ := bd1_h heq
        refine g_si (own := RX11) (D := D) (As := [.int x_7, .int x_9]) (rest := [.int (200 : Int32)]) hx hb hml hown hts (okX11_costOf l D h_16) (cwS 2 hts gX11_toss_X11_costOf rfl rfl rfl hdX11_costOf ⟨Nat.le_of_ble_eq_true rfl, Nat.le_of_ble_eq_true rfl⟩) hK hA hP hS rfl hl.1 rfl (Nat.le_of_ble_eq_true rfl) dX11_toss_73 ⟨Nat.le_of_ble_eq_true rfl, Nat.le_of_ble_eq_true rfl⟩ (fun H locs hP hS => ?_)
        refine lv_iadd hx hb dX11_toss_76 ?_
        refine lv_goto (tgt := 81) hx hb dX11_toss_77 (by decide) ?_
        exact b81 st_2 ((200 : Int32) + y_15) H locs ls hP hD hS (lv_sub hl [] rfl) heq
      have heq := it_t c_13 heq
      exact b55 st_2 x_9 H locs ls hP hD hS (lv_sub hl [0] rfl) heq
    have heq := it_t c_11 heq
    refine lv_bipush (v := (-15 : Int32)) hx hb dX11_toss_42 (by decide) ?_
    obtain ⟨heq, heq2⟩ := ret_h heq
    subst heq
    subst heq2
    exact hret 44 H locs ls hP hD hS rfl dX11_toss_44
  have heq := it_f c_5 heq
  refine lv_aload_n hx hb dX11_toss_13 rfl (lv_at hl 0 rfl) ?_
  refine lv_iload_n hx hb dX11_toss_14 rfl (lv_at hl 1 rfl) ?_
  obtain ⟨y_18, st_17, h_19, heq⟩ := bnd_h heq
  refine g_vi (own := RX11) (As := [.int v1]) (rest := []) hx hb hml hown hts (okX11_wrongKept l D a T h_19) (cwV 1 hts gX11_toss_X11_wrongKept rfl rfl rfl hdX11_wrongKept ⟨Nat.le_of_ble_eq_true rfl, Nat.le_of_ble_eq_true rfl⟩) hK hA hP hD hS (ci := 11) (q0 := 0) rfl rfl rfl hl.1 rfl (Nat.le_of_ble_eq_true rfl) dX11_toss_15 ⟨Nat.le_of_ble_eq_true rfl, Nat.le_of_ble_eq_true rfl⟩ (fun H locs hP hD hS => ?_)
  obtain ⟨heq, heq2⟩ := ret_h heq
  subst heq
  subst heq2
  exact hret 18 H locs ls hP hD hS rfl dX11_toss_18
