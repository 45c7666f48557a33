theorem cA_eqO {D : va_G} {cl : List vw_C} {tys : List (ClassId × FieldType)} {U : State} {C : String} (h : va_K D cl tys U) {i j : Nat} {c1 c2 : ClassId} (h1 : tys[i]? = some (c1, .object C)) (h2 : tys[j]? = some (c2, .object C)) : c1 = c2 := by
  have q1 : va_RA U c1 (.object C) := (h.2 i _ h1).2
  have q2 : va_RA U c2 (.object C) := (h.2 j _ h2).2
  obtain ⟨_, _, _, _, _, a1⟩ := q1
  obtain ⟨_, _, _, _, _, a2⟩ := q2
  exact Option.some.inj (a1.symm.trans a2)
/-- a Town in its making: i cells are done -/
def tFo (k i : Nat) : Nat → Option Nat := fun j => if j < i then some k else none
def tS (i : Nat) : MS := (fun _ => 0, fun x j => if x = 1 then (if j < i then 9 else 0) else if x = 2 then (if j < i then (-4) else 0) else 0, fun _ _ => 0, none)
def tS0 : MS := sF (sA (sA (tS 12) 3 4 150) 3 5 140) 9 (-4)
theorem tFo_up (k i : Nat) : va_up (tFo k i) i (some k) = tFo k (i + 1) := by
  funext j
  unfold va_up tFo
  by_cases h : j = i
  · rw [if_pos h, if_pos (by omega)]
  · rw [if_neg h]
    by_cases h2 : j < i
    · rw [if_pos h2, if_pos (by omega)]
    · rw [if_neg h2, if_neg (by omega)]
theorem up_lt (v : Int32) (i j : Nat) : upd (fun j => if j < i then v else 0) i v j = if j < i + 1 then v else 0 := by
  show (if j = i then v else (if j < i then v else 0)) = _
  by_cases h : j = i
  · rw [if_pos h, if_pos (by omega)]
  · rw [if_neg h]
    by_cases h2 : j < i
    · rw [if_pos h2, if_pos (by omega)]
    · rw [if_neg h2, if_neg (by omega)]
theorem tS_up (i : Nat) : sA (sA (tS i) 1 i 9) 2 i (-4) = tS (i + 1) := by
  have e : (fun (x j : Nat) => (sA (sA (tS i) 1 i 9) 2 i (-4)).2.1 x j) = fun x j => (tS (i + 1)).2.1 x j := by
    funext x j
    by_cases h1 : x = 1
    · subst h1
      exact up_lt 9 i j
    · by_cases h3 : x = 2
      · subst h3
        exact up_lt (-4) i j
      · have q1 : (sA (sA (tS i) 1 i 9) 2 i (-4)).2.1 x = (tS i).2.1 x := by
          show (if x = 2 then _ else (if x = 1 then _ else _)) = _
          rw [if_neg h3, if_neg h1]
        rw [q1]
        show (if x = 1 then _ else (if x = 2 then _ else (0 : Int32))) = (if x = 1 then _ else (if x = 2 then _ else (0 : Int32)))
        rw [if_neg h1, if_neg h3, if_neg h1, if_neg h3]
  show ((tS i).1, (fun (x j : Nat) => (sA (sA (tS i) 1 i 9) 2 i (-4)).2.1 x j), (tS i).2.2) = ((tS (i + 1)).1, (fun x j => (tS (i + 1)).2.1 x j), (tS (i + 1)).2.2)
  rw [e]
  rfl

theorem dX8_init_0 : decode cX8_init 0 = .ok (.aload_n 0, 1) := by decide +kernel
theorem dX8_init_1 : decode cX8_init 1 = .ok (.invokespecial 3, 3) := by decide +kernel
theorem dX8_init_4 : decode cX8_init 4 = .ok (.aload_n 0, 1) := by decide +kernel
theorem dX8_init_5 : decode cX8_init 5 = .ok (.bipush 12, 2) := by decide +kernel
theorem dX8_init_7 : decode cX8_init 7 = .ok (.anewarray 9, 3) := by decide +kernel
theorem dX8_init_10 : decode cX8_init 10 = .ok (.putfield 11, 3) := by decide +kernel
theorem dX8_init_13 : decode cX8_init 13 = .ok (.aload_n 0, 1) := by decide +kernel
theorem dX8_init_14 : decode cX8_init 14 = .ok (.bipush 12, 2) := by decide +kernel
theorem dX8_init_16 : decode cX8_init 16 = .ok (.newarray .int, 2) := by decide +kernel
theorem dX8_init_18 : decode cX8_init 18 = .ok (.putfield 17, 3) := by decide +kernel
theorem dX8_init_21 : decode cX8_init 21 = .ok (.aload_n 0, 1) := by decide +kernel
theorem dX8_init_22 : decode cX8_init 22 = .ok (.bipush 12, 2) := by decide +kernel
theorem dX8_init_24 : decode cX8_init 24 = .ok (.newarray .int, 2) := by decide +kernel
theorem dX8_init_26 : decode cX8_init 26 = .ok (.putfield 21, 3) := by decide +kernel
theorem dX8_init_29 : decode cX8_init 29 = .ok (.aload_n 0, 1) := by decide +kernel
theorem dX8_init_30 : decode cX8_init 30 = .ok (.bipush 7, 2) := by decide +kernel
theorem dX8_init_32 : decode cX8_init 32 = .ok (.newarray .int, 2) := by decide +kernel
theorem dX8_init_34 : decode cX8_init 34 = .ok (.putfield 24, 3) := by decide +kernel
theorem dX8_init_37 : decode cX8_init 37 = .ok (.aload_n 0, 1) := by decide +kernel
theorem dX8_init_38 : decode cX8_init 38 = .ok (.bipush 6, 2) := by decide +kernel
theorem dX8_init_40 : decode cX8_init 40 = .ok (.newarray .int, 2) := by decide +kernel
theorem dX8_init_42 : decode cX8_init 42 = .ok (.putfield 27, 3) := by decide +kernel
theorem dX8_init_45 : decode cX8_init 45 = .ok (.aload_n 0, 1) := by decide +kernel
theorem dX8_init_46 : decode cX8_init 46 = .ok (.bipush 6, 2) := by decide +kernel
theorem dX8_init_48 : decode cX8_init 48 = .ok (.newarray .int, 2) := by decide +kernel
theorem dX8_init_50 : decode cX8_init 50 = .ok (.putfield 30, 3) := by decide +kernel
theorem dX8_init_53 : decode cX8_init 53 = .ok (.new 9, 3) := by decide +kernel
theorem dX8_init_56 : decode cX8_init 56 = .ok (.dup, 1) := by decide +kernel
theorem dX8_init_57 : decode cX8_init 57 = .ok (.iconst 0, 1) := by decide +kernel
theorem dX8_init_58 : decode cX8_init 58 = .ok (.invokespecial 33, 3) := by decide +kernel
theorem dX8_init_61 : decode cX8_init 61 = .ok (.astore_n 1, 1) := by decide +kernel
theorem dX8_init_62 : decode cX8_init 62 = .ok (.iconst 0, 1) := by decide +kernel
theorem dX8_init_63 : decode cX8_init 63 = .ok (.istore_n 2, 1) := by decide +kernel
theorem dX8_init_64 : decode cX8_init 64 = .ok (.iload_n 2, 1) := by decide +kernel
theorem dX8_init_65 : decode cX8_init 65 = .ok (.bipush 12, 2) := by decide +kernel
theorem dX8_init_67 : decode cX8_init 67 = .ok (.if_icmp .ge 32, 3) := by decide +kernel
theorem dX8_init_70 : decode cX8_init 70 = .ok (.aload_n 0, 1) := by decide +kernel
theorem dX8_init_71 : decode cX8_init 71 = .ok (.getfield 11, 3) := by decide +kernel
theorem dX8_init_74 : decode cX8_init 74 = .ok (.iload_n 2, 1) := by decide +kernel
theorem dX8_init_75 : decode cX8_init 75 = .ok (.aload_n 1, 1) := by decide +kernel
theorem dX8_init_76 : decode cX8_init 76 = .ok (.aastore, 1) := by decide +kernel
theorem dX8_init_77 : decode cX8_init 77 = .ok (.aload_n 0, 1) := by decide +kernel
theorem dX8_init_78 : decode cX8_init 78 = .ok (.getfield 17, 3) := by decide +kernel
theorem dX8_init_81 : decode cX8_init 81 = .ok (.iload_n 2, 1) := by decide +kernel
theorem dX8_init_82 : decode cX8_init 82 = .ok (.bipush 9, 2) := by decide +kernel
theorem dX8_init_84 : decode cX8_init 84 = .ok (.iastore, 1) := by decide +kernel
theorem dX8_init_85 : decode cX8_init 85 = .ok (.aload_n 0, 1) := by decide +kernel
theorem dX8_init_86 : decode cX8_init 86 = .ok (.getfield 21, 3) := by decide +kernel
theorem dX8_init_89 : decode cX8_init 89 = .ok (.iload_n 2, 1) := by decide +kernel
theorem dX8_init_90 : decode cX8_init 90 = .ok (.bipush (-4), 2) := by decide +kernel
theorem dX8_init_92 : decode cX8_init 92 = .ok (.iastore, 1) := by decide +kernel
theorem dX8_init_93 : decode cX8_init 93 = .ok (.iinc 2 1, 3) := by decide +kernel
theorem dX8_init_96 : decode cX8_init 96 = .ok (.goto (-32), 3) := by decide +kernel
theorem dX8_init_99 : decode cX8_init 99 = .ok (.aload_n 0, 1) := by decide +kernel
theorem dX8_init_100 : decode cX8_init 100 = .ok (.getfield 24, 3) := by decide +kernel
theorem dX8_init_103 : decode cX8_init 103 = .ok (.iconst 4, 1) := by decide +kernel
theorem dX8_init_104 : decode cX8_init 104 = .ok (.sipush 150, 3) := by decide +kernel
theorem dX8_init_107 : decode cX8_init 107 = .ok (.iastore, 1) := by decide +kernel
theorem dX8_init_108 : decode cX8_init 108 = .ok (.aload_n 0, 1) := by decide +kernel
theorem dX8_init_109 : decode cX8_init 109 = .ok (.getfield 24, 3) := by decide +kernel
theorem dX8_init_112 : decode cX8_init 112 = .ok (.iconst 5, 1) := by decide +kernel
theorem dX8_init_113 : decode cX8_init 113 = .ok (.sipush 140, 3) := by decide +kernel
theorem dX8_init_116 : decode cX8_init 116 = .ok (.iastore, 1) := by decide +kernel
theorem dX8_init_117 : decode cX8_init 117 = .ok (.aload_n 0, 1) := by decide +kernel
theorem dX8_init_118 : decode cX8_init 118 = .ok (.bipush (-4), 2) := by decide +kernel
theorem dX8_init_120 : decode cX8_init 120 = .ok (.putfield 36, 3) := by decide +kernel
theorem dX8_init_123 : decode cX8_init 123 = .ok (.return_, 1) := by decide +kernel
set_option maxRecDepth 20000 in
theorem ggX8_init_X0_init : GoodIn wsX8_init wsX0_init := goodIn_r _ [17, 18, 2, 3, 19, 30, 31, 32, 33, 34, 35, 36, 37] (by decide +kernel) (by decide +kernel)
set_option maxRecDepth 20000 in
theorem gX8_init_X0_init : GoodIn wsX8_init (wsX0_init) := ggX8_init_X0_init
abbrev rmX8_init : Room := { frames := 2, cells := 7, slots := 56, locals := 40 }
def iTown (z : Nat → Nat) (l : Launch) (D : va_G) (T : mT3) (q : Nat) : Prop :=
    ∀ sz : Nat, Met l yX8_init wsX8_init rmX8_init (va_Pc [.ref q] (fun U => U.heap.size = sz ∧ va_P D vwCl [(q, .inr (8, [.null, .null, .null, .null, .null, .null, .int 0, .int 0, .int 0, .int 0]))] U.heap ∧ va_K D vwCl (cT T) U ∧ va_D (fun _ => True) [(q, (.inr (8, [.null, .null, .null, .null, .null, .null, .int 0, .int 0, .int 0, .int 0]) : va_E))] ∧ xS z (va_A [(q, .inr (8, [.null, .null, .null, .null, .null, .null, .int 0, .int 0, .int 0, .int 0]))] sz) U U.heap ∧ va_AO RX0 U))
      (va_Qv (fun (z : (Nat → Nat) × Nat) => z.1 0 = q) (fun z t => va_P D vwCl (tW z.1 T (tFo z.2 12) tS0 ++ [(z.2, .inr (0, [.int 0]))]) t.heap ∧ va_K D vwCl (cT T) t ∧ va_D (va_A [(q, .inr (8, [.null, .null, .null, .null, .null, .null, .int 0, .int 0, .int 0, .int 0]))] sz) (tW z.1 T (tFo z.2 12) tS0 ++ [(z.2, (.inr (0, [.int 0]) : va_E))])) (va_A [(q, .inr (8, [.null, .null, .null, .null, .null, .null, .int 0, .int 0, .int 0, .int 0]))] sz)) rmX8_init.cells rmX8_init.slots (va_A [(q, .inr (8, [.null, .null, .null, .null, .null, .null, .int 0, .int 0, .int 0, .int 0]))] sz)
set_option maxRecDepth 100000 in
set_option maxHeartbeats 16000000 in
theorem okX8_init (z : Nat → Nat) (l : Launch) (D : va_G) (T : mT3) (q : Nat) : iTown z l D T q := by
  intro sz
  refine Met_ofWF (cc := cX8_init) (maxL := 3) (ret := none) (plainFor_of_name (by decide)) rfl ?_
  intro p e s m args below meth c s₁ B hml hv
  obtain ⟨eargs, hsz, hP, hK, hD0, hX, hAO⟩ := hv
  have hr := B.returns
  have hlocks := B.notSynchronized
  have hin : meth.name = "<init>" := (name_of_methodNamed B.named B.method).1
  subst hsz
  have hle := lv_entry [.ref q] (n := 3) (Nat.le_of_ble_eq_true rfl)
  rw [eargs, lg_entry_eq, ← eargs]
  have hx := B.exec
  have hb := B.bytes
  have hown : s.vm.findClass RX8 = some m.cls := findClass_of_methodNamed B.named
  have hts : ∀ w ∈ wsX8_init, w.before args s = true := atoms_spec (ws := wsX8_init) B.pre
  have hin8 : ∀ w ∈ wsX80, w ∈ wsX8_init := by decide +kernel
  have hin0 : ∀ w ∈ wsX00, w ∈ wsX8_init := by decide +kernel
  have hw0 := hts (.classLink RX8 9 RX0) (by decide +kernel)
  have hw1 := hts (.instantiable RX0 1) (by decide +kernel)
  have hw2 := hts (.initialized RX0) (by decide +kernel)
  have hw3 := hts (.methodLink RX8 33 yX0_init) (by decide +kernel)
  have hw4 := hts (.instanceMethod yX0_init) (by decide +kernel)
  obtain ⟨A, eA⟩ : ∃ A, A = va_A [(q, .inr (8, [.null, .null, .null, .null, .null, .null, .int 0, .int 0, .int 0, .int 0]))] s.heap.size := ⟨_, rfl⟩
  have hA : ∀ q : Nat, s.heap.size ≤ q → A q := fun q h => by rw [eA]; exact Or.inr h
  have hD : va_D A [(q, (.inr (8, [.null, .null, .null, .null, .null, .null, .int 0, .int 0, .int 0, .int 0]) : va_E))] := by rw [eA]; exact hD0.self
  rw [← eA] at hX ⊢
  obtain ⟨Q, eQ⟩ : ∃ Q, Q = MQ below (va_Qv (fun (z : (Nat → Nat) × Nat) => z.1 0 = q) (fun z t => va_P D vwCl (tW z.1 T (tFo z.2 12) tS0 ++ [(z.2, .inr (0, [.int 0]))]) t.heap ∧ va_K D vwCl (cT T) t ∧ va_D A (tW z.1 T (tFo z.2 12) tS0 ++ [(z.2, (.inr (0, [.int 0]) : va_E))])) A) args s rmX8_init.cells rmX8_init.slots A := ⟨_, rfl⟩
  have hret : ∀ (pc : Nat) (H : Heap) (locs : List Loc) (ls : Array Slot) (a : Nat → Nat) (k : Nat), a 0 = q → va_P D vwCl (tW a T (tFo k 12) tS0 ++ [(k, .inr (0, [.int 0]))]) H → va_D A (tW a T (tFo k 12) tS0 ++ [(k, (.inr (0, [.int 0]) : va_E))]) → va_S A s.heap H locs → decode cX8_init pc = .ok (.return_, 1) →
      W p l e rmX8_init s m args below meth c H locs 7 56 Q (F0 m pc ls []) := fun pc H locs ls a k ha hP1 hD1 hS hdg => by
    rw [eQ]
    exact W.vret B.exec B.bytes hr (fun t ht hW => ⟨⟨(a, k), rfl, ha, by rw [ht]; exact hP1, va_K.moved hW.alike hK, hD1⟩, hS.F ht⟩) hS.2.2 hdg
  obtain ⟨ls, els⟩ : ∃ ls, ls = (lg_sl [.ref q] ++ List.replicate (3 - (lg_sl [.ref q]).length) Slot.unset).toArray := ⟨_, rfl⟩
  have hl : lv_has ls 3 [(0, .ref q)] := by rw [els]; exact hle
  rw [← els]
  have hS : va_S A s.heap s.heap [] := va_S.rf
  obtain ⟨H, hH⟩ : ∃ H, H = s.heap := ⟨_, rfl⟩
  obtain ⟨locs, hlocs⟩ : ∃ z : List Loc, z = [] := ⟨_, rfl⟩
  have hS : va_S A s.heap H locs := by rw [hH, hlocs]; exact hS
  have hP : va_P D vwCl [(q, .inr (8, [.null, .null, .null, .null, .null, .null, .int 0, .int 0, .int 0, .int 0]))] H := by rw [hH]; exact hP
  suffices h9 : W p l e rmX8_init s m args below meth c H locs 0 0 Q (F0 m 0 ls []) by rw [hH, hlocs, eQ] at h9; exact h9
  clear hH hlocs eQ
  refine lv_aload_n hx hb dX8_init_0 rfl (lv_at hl 0 rfl) ?_
  refine W.objInit hx hb hown (hts (.methodLink RX8 3 objectInit) (by decide +kernel)) (hts (.instanceMethod objectInit) (by decide +kernel)) (hts (.code objectInit ⟨#[0xb1]⟩ 1 none) (by decide +kernel)) rfl (by rw [hml]; exact hl.1) rfl dX8_init_1 (Nat.le_of_ble_eq_true rfl) (Nat.le_of_ble_eq_true rfl) ?_
  refine W.eq (g2 := F0 m 4 ls []) rfl ?_
  refine lv_aload_n hx hb dX8_init_4 rfl (lv_at hl 0 rfl) ?_
  refine lv_bipush (v := (12 : Int32)) hx hb dX8_init_5 (by decide) ?_
  refine va_newq (C := RX0) (N' := 12) hx hb hown (hts (.classLink RX8 9 RX0) (by decide +kernel)) hAO hK hP hD hS hA (by decide) (by decide) (by decide) (Nat.le_of_ble_eq_true rfl) (Nat.le_of_ble_eq_true rfl) dX8_init_7 (fun a1 cA H hK2 hP hD hS => ?_)
  have hcA : cA = T.2.1 := cA_eqO hK2 (i := 3) (j := 1) rfl rfl
  subst hcA
  clear hK2
  have hP : va_P D vwCl [(q, .inr (8, [.null, .null, .null, .null, .null, .null, .int 0, .int 0, .int 0, .int 0])), (a1, .inl (T.2.1, 12, .inr (.inr (.inr (.inr (fun _ => none))))))] H := hP
  have hD : va_D A [(q, .inr (8, [.null, .null, .null, .null, .null, .null, .int 0, .int 0, .int 0, .int 0])), (a1, .inl (T.2.1, 12, .inr (.inr (.inr (.inr (fun _ => none))))))] := hD
  refine va_putF (D := D) (ci := 8) (v := .ref a1) (ty := .array (.object RX0)) (C := RX8) (T := TX8) (N := 10) hx hb hts hin8 tyX8 tyX8_ok nmX8 hown hK hP hD hS 0 rfl rfl 0 (by decide) (hts (.fieldLink RX8 11 RX8 "foot" "[LLaidDownTheLane$Brick;") (by decide +kernel)) (fun _ h9 => h9) rfl hin (by decide +kernel) (by decide +kernel) rfl rfl (Nat.le_of_ble_eq_true rfl) dX8_init_10 (fun H locs hP hD hS => ?_)
  have hP : va_P D vwCl [(q, .inr (8, [.ref a1, .null, .null, .null, .null, .null, .int 0, .int 0, .int 0, .int 0])), (a1, .inl (T.2.1, 12, .inr (.inr (.inr (.inr (fun _ => none))))))] H := hP
  have hD : va_D A [(q, .inr (8, [.ref a1, .null, .null, .null, .null, .null, .int 0, .int 0, .int 0, .int 0])), (a1, .inl (T.2.1, 12, .inr (.inr (.inr (.inr (fun _ => none))))))] := hD
  refine lv_aload_n hx hb dX8_init_13 rfl (lv_at hl 0 rfl) ?_
  refine lv_bipush (v := (12 : Int32)) hx hb dX8_init_14 (by decide) ?_
  refine va_newa (atype := .int) (N' := 12) (a0 := (12, .inl (fun _ => 0))) hx hb (hts (.arrayClass .int) (by decide +kernel)) rfl hK hP hD hS hA (fun cA => rfl) (by decide) (by decide) (by decide) (Nat.le_of_ble_eq_true rfl) (Nat.le_of_ble_eq_true rfl) dX8_init_16 (fun a2 cA H hK2 hP hD hS => ?_)
  have hcA : cA = T.1 := cA_eq hK2 (i := 3) (j := 0) rfl rfl
  subst hcA
  clear hK2
  have hP : va_P D vwCl [(q, .inr (8, [.ref a1, .null, .null, .null, .null, .null, .int 0, .int 0, .int 0, .int 0])), (a1, .inl (T.2.1, 12, .inr (.inr (.inr (.inr (fun _ => none)))))), (a2, .inl (T.1, 12, .inl (fun _ => 0)))] H := hP
  have hD : va_D A [(q, .inr (8, [.ref a1, .null, .null, .null, .null, .null, .int 0, .int 0, .int 0, .int 0])), (a1, .inl (T.2.1, 12, .inr (.inr (.inr (.inr (fun _ => none)))))), (a2, .inl (T.1, 12, .inl (fun _ => 0)))] := hD
  refine va_putF (D := D) (ci := 8) (v := .ref a2) (ty := .array .int) (C := RX8) (T := TX8) (N := 10) hx hb hts hin8 tyX8 tyX8_ok nmX8 hown hK hP hD hS 0 rfl rfl 1 (by decide) (hts (.fieldLink RX8 17 RX8 "bears" "[I") (by decide +kernel)) (fun _ h9 => h9) rfl hin (by decide +kernel) (by decide +kernel) rfl rfl (Nat.le_of_ble_eq_true rfl) dX8_init_18 (fun H locs hP hD hS => ?_)
  have hP : va_P D vwCl [(q, .inr (8, [.ref a1, .ref a2, .null, .null, .null, .null, .int 0, .int 0, .int 0, .int 0])), (a1, .inl (T.2.1, 12, .inr (.inr (.inr (.inr (fun _ => none)))))), (a2, .inl (T.1, 12, .inl (fun _ => 0)))] H := hP
  have hD : va_D A [(q, .inr (8, [.ref a1, .ref a2, .null, .null, .null, .null, .int 0, .int 0, .int 0, .int 0])), (a1, .inl (T.2.1, 12, .inr (.inr (.inr (.inr (fun _ => none)))))), (a2, .inl (T.1, 12, .inl (fun _ => 0)))] := hD
  refine lv_aload_n hx hb dX8_init_21 rfl (lv_at hl 0 rfl) ?_
  refine lv_bipush (v := (12 : Int32)) hx hb dX8_init_22 (by decide) ?_
  refine va_newa (atype := .int) (N' := 12) (a0 := (12, .inl (fun _ => 0))) hx hb (hts (.arrayClass .int) (by decide +kernel)) rfl hK hP hD hS hA (fun cA => rfl) (by decide) (by decide) (by decide) (Nat.le_of_ble_eq_true rfl) (Nat.le_of_ble_eq_true rfl) dX8_init_24 (fun a3 cA H hK2 hP hD hS => ?_)
  have hcA : cA = T.1 := cA_eq hK2 (i := 3) (j := 0) rfl rfl
  subst hcA
  clear hK2
  have hP : va_P D vwCl [(q, .inr (8, [.ref a1, .ref a2, .null, .null, .null, .null, .int 0, .int 0, .int 0, .int 0])), (a1, .inl (T.2.1, 12, .inr (.inr (.inr (.inr (fun _ => none)))))), (a2, .inl (T.1, 12, .inl (fun _ => 0))), (a3, .inl (T.1, 12, .inl (fun _ => 0)))] H := hP
  have hD : va_D A [(q, .inr (8, [.ref a1, .ref a2, .null, .null, .null, .null, .int 0, .int 0, .int 0, .int 0])), (a1, .inl (T.2.1, 12, .inr (.inr (.inr (.inr (fun _ => none)))))), (a2, .inl (T.1, 12, .inl (fun _ => 0))), (a3, .inl (T.1, 12, .inl (fun _ => 0)))] := hD
  refine va_putF (D := D) (ci := 8) (v := .ref a3) (ty := .array .int) (C := RX8) (T := TX8) (N := 10) hx hb hts hin8 tyX8 tyX8_ok nmX8 hown hK hP hD hS 0 rfl rfl 2 (by decide) (hts (.fieldLink RX8 21 RX8 "burns" "[I") (by decide +kernel)) (fun _ h9 => h9) rfl hin (by decide +kernel) (by decide +kernel) rfl rfl (Nat.le_of_ble_eq_true rfl) dX8_init_26 (fun H locs hP hD hS => ?_)
  have hP : va_P D vwCl [(q, .inr (8, [.ref a1, .ref a2, .ref a3, .null, .null, .null, .int 0, .int 0, .int 0, .int 0])), (a1, .inl (T.2.1, 12, .inr (.inr (.inr (.inr (fun _ => none)))))), (a2, .inl (T.1, 12, .inl (fun _ => 0))), (a3, .inl (T.1, 12, .inl (fun _ => 0)))] H := hP
  have hD : va_D A [(q, .inr (8, [.ref a1, .ref a2, .ref a3, .null, .null, .null, .int 0, .int 0, .int 0, .int 0])), (a1, .inl (T.2.1, 12, .inr (.inr (.inr (.inr (fun _ => none)))))), (a2, .inl (T.1, 12, .inl (fun _ => 0))), (a3, .inl (T.1, 12, .inl (fun _ => 0)))] := hD
  refine lv_aload_n hx hb dX8_init_29 rfl (lv_at hl 0 rfl) ?_
  refine lv_bipush (v := (7 : Int32)) hx hb dX8_init_30 (by decide) ?_
  refine va_newa (atype := .int) (N' := 7) (a0 := (7, .inl (fun _ => 0))) hx hb (hts (.arrayClass .int) (by decide +kernel)) rfl hK hP hD hS hA (fun cA => rfl) (by decide) (by decide) (by decide) (Nat.le_of_ble_eq_true rfl) (Nat.le_of_ble_eq_true rfl) dX8_init_32 (fun a4 cA H hK2 hP hD hS => ?_)
  have hcA : cA = T.1 := cA_eq hK2 (i := 3) (j := 0) rfl rfl
  subst hcA
  clear hK2
  have hP : va_P D vwCl [(q, .inr (8, [.ref a1, .ref a2, .ref a3, .null, .null, .null, .int 0, .int 0, .int 0, .int 0])), (a1, .inl (T.2.1, 12, .inr (.inr (.inr (.inr (fun _ => none)))))), (a2, .inl (T.1, 12, .inl (fun _ => 0))), (a3, .inl (T.1, 12, .inl (fun _ => 0))), (a4, .inl (T.1, 7, .inl (fun _ => 0)))] H := hP
  have hD : va_D A [(q, .inr (8, [.ref a1, .ref a2, .ref a3, .null, .null, .null, .int 0, .int 0, .int 0, .int 0])), (a1, .inl (T.2.1, 12, .inr (.inr (.inr (.inr (fun _ => none)))))), (a2, .inl (T.1, 12, .inl (fun _ => 0))), (a3, .inl (T.1, 12, .inl (fun _ => 0))), (a4, .inl (T.1, 7, .inl (fun _ => 0)))] := hD
  refine va_putF (D := D) (ci := 8) (v := .ref a4) (ty := .array .int) (C := RX8) (T := TX8) (N := 10) hx hb hts hin8 tyX8 tyX8_ok nmX8 hown hK hP hD hS 0 rfl rfl 3 (by decide) (hts (.fieldLink RX8 24 RX8 "told" "[I") (by decide +kernel)) (fun _ h9 => h9) rfl hin (by decide +kernel) (by decide +kernel) rfl rfl (Nat.le_of_ble_eq_true rfl) dX8_init_34 (fun H locs hP hD hS => ?_)
  have hP : va_P D vwCl [(q, .inr (8, [.ref a1, .ref a2, .ref a3, .ref a4, .null, .null, .int 0, .int 0, .int 0, .int 0])), (a1, .inl (T.2.1, 12, .inr (.inr (.inr (.inr (fun _ => none)))))), (a2, .inl (T.1, 12, .inl (fun _ => 0))), (a3, .inl (T.1, 12, .inl (fun _ => 0))), (a4, .inl (T.1, 7, .inl (fun _ => 0)))] H := hP
  have hD : va_D A [(q, .inr (8, [.ref a1, .ref a2, .ref a3, .ref a4, .null, .null, .int 0, .int 0, .int 0, .int 0])), (a1, .inl (T.2.1, 12, .inr (.inr (.inr (.inr (fun _ => none)))))), (a2, .inl (T.1, 12, .inl (fun _ => 0))), (a3, .inl (T.1, 12, .inl (fun _ => 0))), (a4, .inl (T.1, 7, .inl (fun _ => 0)))] := hD
  refine lv_aload_n hx hb dX8_init_37 rfl (lv_at hl 0 rfl) ?_
  refine lv_bipush (v := (6 : Int32)) hx hb dX8_init_38 (by decide) ?_
  refine va_newa (atype := .int) (N' := 6) (a0 := (6, .inl (fun _ => 0))) hx hb (hts (.arrayClass .int) (by decide +kernel)) rfl hK hP hD hS hA (fun cA => rfl) (by decide) (by decide) (by decide) (Nat.le_of_ble_eq_true rfl) (Nat.le_of_ble_eq_true rfl) dX8_init_40 (fun a5 cA H hK2 hP hD hS => ?_)
  have hcA : cA = T.1 := cA_eq hK2 (i := 3) (j := 0) rfl rfl
  subst hcA
  clear hK2
  have hP : va_P D vwCl [(q, .inr (8, [.ref a1, .ref a2, .ref a3, .ref a4, .null, .null, .int 0, .int 0, .int 0, .int 0])), (a1, .inl (T.2.1, 12, .inr (.inr (.inr (.inr (fun _ => none)))))), (a2, .inl (T.1, 12, .inl (fun _ => 0))), (a3, .inl (T.1, 12, .inl (fun _ => 0))), (a4, .inl (T.1, 7, .inl (fun _ => 0))), (a5, .inl (T.1, 6, .inl (fun _ => 0)))] H := hP
  have hD : va_D A [(q, .inr (8, [.ref a1, .ref a2, .ref a3, .ref a4, .null, .null, .int 0, .int 0, .int 0, .int 0])), (a1, .inl (T.2.1, 12, .inr (.inr (.inr (.inr (fun _ => none)))))), (a2, .inl (T.1, 12, .inl (fun _ => 0))), (a3, .inl (T.1, 12, .inl (fun _ => 0))), (a4, .inl (T.1, 7, .inl (fun _ => 0))), (a5, .inl (T.1, 6, .inl (fun _ => 0)))] := hD
  refine va_putF (D := D) (ci := 8) (v := .ref a5) (ty := .array .int) (C := RX8) (T := TX8) (N := 10) hx hb hts hin8 tyX8 tyX8_ok nmX8 hown hK hP hD hS 0 rfl rfl 4 (by decide) (hts (.fieldLink RX8 27 RX8 "houseSide" "[I") (by decide +kernel)) (fun _ h9 => h9) rfl hin (by decide +kernel) (by decide +kernel) rfl rfl (Nat.le_of_ble_eq_true rfl) dX8_init_42 (fun H locs hP hD hS => ?_)
  have hP : va_P D vwCl [(q, .inr (8, [.ref a1, .ref a2, .ref a3, .ref a4, .ref a5, .null, .int 0, .int 0, .int 0, .int 0])), (a1, .inl (T.2.1, 12, .inr (.inr (.inr (.inr (fun _ => none)))))), (a2, .inl (T.1, 12, .inl (fun _ => 0))), (a3, .inl (T.1, 12, .inl (fun _ => 0))), (a4, .inl (T.1, 7, .inl (fun _ => 0))), (a5, .inl (T.1, 6, .inl (fun _ => 0)))] H := hP
  have hD : va_D A [(q, .inr (8, [.ref a1, .ref a2, .ref a3, .ref a4, .ref a5, .null, .int 0, .int 0, .int 0, .int 0])), (a1, .inl (T.2.1, 12, .inr (.inr (.inr (.inr (fun _ => none)))))), (a2, .inl (T.1, 12, .inl (fun _ => 0))), (a3, .inl (T.1, 12, .inl (fun _ => 0))), (a4, .inl (T.1, 7, .inl (fun _ => 0))), (a5, .inl (T.1, 6, .inl (fun _ => 0)))] := hD
  refine lv_aload_n hx hb dX8_init_45 rfl (lv_at hl 0 rfl) ?_
  refine lv_bipush (v := (6 : Int32)) hx hb dX8_init_46 (by decide) ?_
  refine va_newa (atype := .int) (N' := 6) (a0 := (6, .inl (fun _ => 0))) hx hb (hts (.arrayClass .int) (by decide +kernel)) rfl hK hP hD hS hA (fun cA => rfl) (by decide) (by decide) (by decide) (Nat.le_of_ble_eq_true rfl) (Nat.le_of_ble_eq_true rfl) dX8_init_48 (fun a6 cA H hK2 hP hD hS => ?_)
  have hcA : cA = T.1 := cA_eq hK2 (i := 3) (j := 0) rfl rfl
  subst hcA
  clear hK2
  have hP : va_P D vwCl [(q, .inr (8, [.ref a1, .ref a2, .ref a3, .ref a4, .ref a5, .null, .int 0, .int 0, .int 0, .int 0])), (a1, .inl (T.2.1, 12, .inr (.inr (.inr (.inr (fun _ => none)))))), (a2, .inl (T.1, 12, .inl (fun _ => 0))), (a3, .inl (T.1, 12, .inl (fun _ => 0))), (a4, .inl (T.1, 7, .inl (fun _ => 0))), (a5, .inl (T.1, 6, .inl (fun _ => 0))), (a6, .inl (T.1, 6, .inl (fun _ => 0)))] H := hP
  have hD : va_D A [(q, .inr (8, [.ref a1, .ref a2, .ref a3, .ref a4, .ref a5, .null, .int 0, .int 0, .int 0, .int 0])), (a1, .inl (T.2.1, 12, .inr (.inr (.inr (.inr (fun _ => none)))))), (a2, .inl (T.1, 12, .inl (fun _ => 0))), (a3, .inl (T.1, 12, .inl (fun _ => 0))), (a4, .inl (T.1, 7, .inl (fun _ => 0))), (a5, .inl (T.1, 6, .inl (fun _ => 0))), (a6, .inl (T.1, 6, .inl (fun _ => 0)))] := hD
  refine va_putF (D := D) (ci := 8) (v := .ref a6) (ty := .array .int) (C := RX8) (T := TX8) (N := 10) hx hb hts hin8 tyX8 tyX8_ok nmX8 hown hK hP hD hS 0 rfl rfl 5 (by decide) (hts (.fieldLink RX8 30 RX8 "houseFar" "[I") (by decide +kernel)) (fun _ h9 => h9) rfl hin (by decide +kernel) (by decide +kernel) rfl rfl (Nat.le_of_ble_eq_true rfl) dX8_init_50 (fun H locs hP hD hS => ?_)
  have hP : va_P D vwCl [(q, .inr (8, [.ref a1, .ref a2, .ref a3, .ref a4, .ref a5, .ref a6, .int 0, .int 0, .int 0, .int 0])), (a1, .inl (T.2.1, 12, .inr (.inr (.inr (.inr (fun _ => none)))))), (a2, .inl (T.1, 12, .inl (fun _ => 0))), (a3, .inl (T.1, 12, .inl (fun _ => 0))), (a4, .inl (T.1, 7, .inl (fun _ => 0))), (a5, .inl (T.1, 6, .inl (fun _ => 0))), (a6, .inl (T.1, 6, .inl (fun _ => 0)))] H := hP
  have hD : va_D A [(q, .inr (8, [.ref a1, .ref a2, .ref a3, .ref a4, .ref a5, .ref a6, .int 0, .int 0, .int 0, .int 0])), (a1, .inl (T.2.1, 12, .inr (.inr (.inr (.inr (fun _ => none)))))), (a2, .inl (T.1, 12, .inl (fun _ => 0))), (a3, .inl (T.1, 12, .inl (fun _ => 0))), (a4, .inl (T.1, 7, .inl (fun _ => 0))), (a5, .inl (T.1, 6, .inl (fun _ => 0))), (a6, .inl (T.1, 6, .inl (fun _ => 0)))] := hD
  obtain ⟨a, ea⟩ : ∃ a : Nat → Nat, a = fun j => ([q, a1, a2, a3, a4, a5, a6] : List Nat).getD j 0 := ⟨_, rfl⟩
  have ha0 : a 0 = q := by rw [ea]; rfl
  have hP : va_P D vwCl (tW a T (tFo 0 0) (tS 0)) H := by rw [ea]; exact hP
  have hD : va_D A (tW a T (tFo 0 0) (tS 0)) := by rw [ea]; exact hD
  rw [← ha0] at hl
  clear ea
  refine va_new (ci := 0) (fs := [.int 0]) (C := RX0) (T := TX0) (N := 1) hx hb hts hin0 tyX0 tyX0_ok hown hw0 hw1 hw2 hK hP hD hS hA rfl (fun j hj => by rcases (show j = 0 by omega) with rfl <;> rfl) (Nat.le_of_ble_eq_true rfl) (Nat.le_of_ble_eq_true rfl) dX8_init_53 (fun k H hP hD hS => ?_)
  refine lv_dup hx hb dX8_init_56 rfl ?_
  refine lv_iconst (v := (0 : Int32)) hx hb dX8_init_57 (by decide) ?_
  refine h_in (own := RX8) (As := [.int 0]) (rest := [.ref k]) (w0 := [(k, .inr (0, [.int 0]))]) (w1 := [(k, .inr (0, [.int 0]))]) (wr := tW a T (tFo 0 0) (tS 0)) (wd' := tW a T (tFo k 0) (tS 0) ++ [(k, .inr (0, [.int 0]))]) hx hb hml hown hts (okX0_init_0 z l D T k 0 (0 : Int32)) (cwI 1 hts gX8_init_X0_init rfl rfl rfl hw2 hw3 hw4 rfl (by decide +kernel) ⟨Nat.le_of_ble_eq_true rfl, Nat.le_of_ble_eq_true rfl⟩) hK hA hX hP hD hS List.perm_append_comm List.perm_append_comm rfl hl.1 rfl (Nat.le_of_ble_eq_true rfl) dX8_init_58 ⟨Nat.le_of_ble_eq_true rfl, Nat.le_of_ble_eq_true rfl⟩ (fun H locs hP hD hS => ?_)
  refine lv_astore_n (lv' := [(1, .ref k), (0, .ref (a 0))]) hx hb dX8_init_61 rfl hl (by decide) rfl (fun ls hl => ?_)
  refine lv_iconst (v := (0 : Int32)) hx hb dX8_init_62 (by decide) ?_
  refine lv_istore_n (lv' := [(2, .int (nI 0)), (1, .ref k), (0, .ref (a 0))]) hx hb dX8_init_63 rfl hl (by decide) rfl (fun ls hl => ?_)
  have loop : ∀ (fuel i : Nat), i + fuel = 12 → ∀ (H : Heap) (locs : List Loc) (ls : Array Slot), va_P D vwCl (tW a T (tFo k i) (tS i) ++ [(k, .inr (0, [.int 0]))]) H → va_D A (tW a T (tFo k i) (tS i) ++ [(k, (.inr (0, [.int 0]) : va_E))]) → va_S A s.heap H locs → lv_has ls 3 [(2, .int (nI i)), (1, .ref k), (0, .ref (a 0))] →
      W p l e rmX8_init s m args below meth c H locs 7 56 Q (F0 m 64 ls []) := by
    intro fuel
    induction fuel with
    | zero =>
      intro i hi H locs ls hP hD hS hl
      have hi : i = 12 := by omega
      subst hi
      refine lv_iload_n hx hb dX8_init_64 rfl (lv_at hl 0 rfl) ?_
      refine lv_bipush (v := (12 : Int32)) hx hb dX8_init_65 (by decide) ?_
      refine lv_icmp_ge (tgt := 99) hx hb dX8_init_67 (by decide) (fun c1 => ?_) (fun c1 => absurd (by decide) c1)
      refine lv_aload_n hx hb dX8_init_99 rfl (lv_at hl 2 rfl) ?_
      refine va_get (D := D) (ci := 8) (v := .ref (a 4)) (C := RX8) (T := TX8) (N := 10) hx hb hts hin8 hown hK hP 0 rfl rfl 3 (by decide) (hts (.fieldLink RX8 24 RX8 "told" "[I") (by decide +kernel)) (fun _ h9 => h9) rfl dX8_init_100 ?_
      refine lv_iconst (v := (4 : Int32)) hx hb dX8_init_103 (by decide) ?_
      refine lv_sipush (v := (150 : Int32)) hx hb dX8_init_104 (by decide) ?_
      refine va_iast hx hb hK hP hD hS 4 0 rfl rfl (i := 4) (show ¬ ((4 : Int32) < 0 ∨ 7 ≤ (4 : Int32).toNatClampNeg) by decide) dX8_init_107 (fun H locs hP hD hS => ?_)
      have hP : va_P D vwCl (tW a T (tFo k 12) (sA (tS 12) 3 4 150) ++ [(k, .inr (0, [.int 0]))]) H := hP
      have hD : va_D A (tW a T (tFo k 12) (sA (tS 12) 3 4 150) ++ [(k, (.inr (0, [.int 0]) : va_E))]) := hD
      refine lv_aload_n hx hb dX8_init_108 rfl (lv_at hl 2 rfl) ?_
      refine va_get (D := D) (ci := 8) (v := .ref (a 4)) (C := RX8) (T := TX8) (N := 10) hx hb hts hin8 hown hK hP 0 rfl rfl 3 (by decide) (hts (.fieldLink RX8 24 RX8 "told" "[I") (by decide +kernel)) (fun _ h9 => h9) rfl dX8_init_109 ?_
      refine lv_iconst (v := (5 : Int32)) hx hb dX8_init_112 (by decide) ?_
      refine lv_sipush (v := (140 : Int32)) hx hb dX8_init_113 (by decide) ?_
      refine va_iast hx hb hK hP hD hS 4 0 rfl rfl (i := 5) (show ¬ ((5 : Int32) < 0 ∨ 7 ≤ (5 : Int32).toNatClampNeg) by decide) dX8_init_116 (fun H locs hP hD hS => ?_)
      have hP : va_P D vwCl (tW a T (tFo k 12) (sA (sA (tS 12) 3 4 150) 3 5 140) ++ [(k, .inr (0, [.int 0]))]) H := hP
      have hD : va_D A (tW a T (tFo k 12) (sA (sA (tS 12) 3 4 150) 3 5 140) ++ [(k, (.inr (0, [.int 0]) : va_E))]) := hD
      refine lv_aload_n hx hb dX8_init_117 rfl (lv_at hl 2 rfl) ?_
      refine lv_bipush (v := (-4 : Int32)) hx hb dX8_init_118 (by decide) ?_
      refine va_put (ci := 8) (v := .int (-4)) (C := RX8) (T := TX8) (N := 10) hx hb hts hin8 tyX8 tyX8_ok nmX8 hown hK hP hD hS 0 rfl rfl 9 (by decide) (hts (.fieldLink RX8 36 RX8 "fallenTo" "I") (by decide +kernel)) (fun _ h9 => h9) rfl (tyX8_ok 9 (by decide)) rfl rfl (Nat.le_of_ble_eq_true rfl) dX8_init_120 (fun H locs hP hD hS => ?_)
      exact hret 123 H locs ls a k ha0 hP hD hS dX8_init_123
    | succ fuel ih =>
      intro i hi H locs ls hP hD hS hl
      have hi9 : i < 12 := by omega
      have hin9 : vp_in (nI i) 12 := by
        rcases (show i = 0 ∨ i = 1 ∨ i = 2 ∨ i = 3 ∨ i = 4 ∨ i = 5 ∨ i = 6 ∨ i = 7 ∨ i = 8 ∨ i = 9 ∨ i = 10 ∨ i = 11 by omega) with h | h | h | h | h | h | h | h | h | h | h | h <;> subst h <;> exact (show ¬ (_ ∨ _) by decide)
      have hto : (nI i).toNatClampNeg = i := by
        rcases (show i = 0 ∨ i = 1 ∨ i = 2 ∨ i = 3 ∨ i = 4 ∨ i = 5 ∨ i = 6 ∨ i = 7 ∨ i = 8 ∨ i = 9 ∨ i = 10 ∨ i = 11 by omega) with h | h | h | h | h | h | h | h | h | h | h | h <;> subst h <;> decide
      have hlt9 : ¬ (12 : Int32) ≤ nI i := by
        rcases (show i = 0 ∨ i = 1 ∨ i = 2 ∨ i = 3 ∨ i = 4 ∨ i = 5 ∨ i = 6 ∨ i = 7 ∨ i = 8 ∨ i = 9 ∨ i = 10 ∨ i = 11 by omega) with h | h | h | h | h | h | h | h | h | h | h | h <;> subst h <;> decide
      have hsu : nI i + 1 = nI (i + 1) := by
        rcases (show i = 0 ∨ i = 1 ∨ i = 2 ∨ i = 3 ∨ i = 4 ∨ i = 5 ∨ i = 6 ∨ i = 7 ∨ i = 8 ∨ i = 9 ∨ i = 10 ∨ i = 11 by omega) with h | h | h | h | h | h | h | h | h | h | h | h <;> subst h <;> decide
      refine lv_iload_n hx hb dX8_init_64 rfl (lv_at hl 0 rfl) ?_
      refine lv_bipush (v := (12 : Int32)) hx hb dX8_init_65 (by decide) ?_
      refine lv_icmp_ge (tgt := 99) hx hb dX8_init_67 (by decide) (fun c1 => absurd c1 hlt9) (fun c1 => ?_)
      refine lv_aload_n hx hb dX8_init_70 rfl (lv_at hl 2 rfl) ?_
      refine va_get (D := D) (ci := 8) (v := .ref (a 1)) (C := RX8) (T := TX8) (N := 10) hx hb hts hin8 hown hK hP 0 rfl rfl 0 (by decide) (hts (.fieldLink RX8 11 RX8 "foot" "[LLaidDownTheLane$Brick;") (by decide +kernel)) (fun _ h9 => h9) rfl dX8_init_71 ?_
      refine lv_iload_n hx hb dX8_init_74 rfl (lv_at hl 0 rfl) ?_
      refine lv_aload_n hx hb dX8_init_75 rfl (lv_at hl 1 rfl) ?_
      refine va_astq (r := (RX0, TX0, 1)) (f := tFo k i) hx hb hK hP hD hS 1 1 7 0 rfl rfl rfl rfl hin9 dX8_init_76 (fun H locs hP hD hS => ?_)
      rw [hto, tFo_up] at hP hD
      have hP : va_P D vwCl (tW a T (tFo k (i + 1)) (tS i) ++ [(k, .inr (0, [.int 0]))]) H := hP
      have hD : va_D A (tW a T (tFo k (i + 1)) (tS i) ++ [(k, (.inr (0, [.int 0]) : va_E))]) := hD
      refine lv_aload_n hx hb dX8_init_77 rfl (lv_at hl 2 rfl) ?_
      refine va_get (D := D) (ci := 8) (v := .ref (a 2)) (C := RX8) (T := TX8) (N := 10) hx hb hts hin8 hown hK hP 0 rfl rfl 1 (by decide) (hts (.fieldLink RX8 17 RX8 "bears" "[I") (by decide +kernel)) (fun _ h9 => h9) rfl dX8_init_78 ?_
      refine lv_iload_n hx hb dX8_init_81 rfl (lv_at hl 0 rfl) ?_
      refine lv_bipush (v := (9 : Int32)) hx hb dX8_init_82 (by decide) ?_
      refine va_iast hx hb hK hP hD hS 2 0 rfl rfl hin9 dX8_init_84 (fun H locs hP hD hS => ?_)
      rw [hto] at hP hD
      have hP : va_P D vwCl (tW a T (tFo k (i + 1)) (sA (tS i) 1 i 9) ++ [(k, .inr (0, [.int 0]))]) H := hP
      have hD : va_D A (tW a T (tFo k (i + 1)) (sA (tS i) 1 i 9) ++ [(k, (.inr (0, [.int 0]) : va_E))]) := hD
      refine lv_aload_n hx hb dX8_init_85 rfl (lv_at hl 2 rfl) ?_
      refine va_get (D := D) (ci := 8) (v := .ref (a 3)) (C := RX8) (T := TX8) (N := 10) hx hb hts hin8 hown hK hP 0 rfl rfl 2 (by decide) (hts (.fieldLink RX8 21 RX8 "burns" "[I") (by decide +kernel)) (fun _ h9 => h9) rfl dX8_init_86 ?_
      refine lv_iload_n hx hb dX8_init_89 rfl (lv_at hl 0 rfl) ?_
      refine lv_bipush (v := (-4 : Int32)) hx hb dX8_init_90 (by decide) ?_
      refine va_iast hx hb hK hP hD hS 3 0 rfl rfl hin9 dX8_init_92 (fun H locs hP hD hS => ?_)
      rw [hto] at hP hD
      have hP : va_P D vwCl (tW a T (tFo k (i + 1)) (sA (sA (tS i) 1 i 9) 2 i (-4)) ++ [(k, .inr (0, [.int 0]))]) H := hP
      have hD : va_D A (tW a T (tFo k (i + 1)) (sA (sA (tS i) 1 i 9) 2 i (-4)) ++ [(k, (.inr (0, [.int 0]) : va_E))]) := hD
      rw [tS_up] at hP hD
      refine lv_iinc (v := nI (i + 1)) (lv' := [(2, .int (nI (i + 1))), (1, .ref k), (0, .ref (a 0))]) hx hb dX8_init_93 hl (k := 0) rfl (by rw [← hsu]; rfl) (by decide) rfl (fun ls hl => ?_)
      refine lv_goto (tgt := 64) hx hb dX8_init_96 (by decide) ?_
      exact ih (i + 1) (by omega) H locs ls hP hD hS hl
  exact loop 12 0 rfl H locs ls hP hD hS hl
