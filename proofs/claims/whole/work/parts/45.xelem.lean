theorem dX10_element_0 : decode cX10_element 0 = .ok (.iload_n 1, 1) := by decide +kernel
theorem dX10_element_1 : decode cX10_element 1 = .ok (.invokestatic 268, 3) := by decide +kernel
theorem dX10_element_4 : decode cX10_element 4 = .ok (.ifCond .ne 14, 3) := by decide +kernel
theorem dX10_element_7 : decode cX10_element 7 = .ok (.new 281, 3) := by decide +kernel
theorem dX10_element_10 : decode cX10_element 10 = .ok (.dup, 1) := by decide +kernel
theorem dX10_element_11 : decode cX10_element 11 = .ok (.ldc_w 283, 3) := by decide +kernel
theorem dX10_element_14 : decode cX10_element 14 = .ok (.invokespecial 285, 3) := by decide +kernel
theorem dX10_element_17 : decode cX10_element 17 = .ok (.athrow, 1) := by decide +kernel
theorem dX10_element_18 : decode cX10_element 18 = .ok (.aload_n 0, 1) := by decide +kernel
theorem dX10_element_19 : decode cX10_element 19 = .ok (.getfield 39, 3) := by decide +kernel
theorem dX10_element_22 : decode cX10_element 22 = .ok (.iload_n 1, 1) := by decide +kernel
theorem dX10_element_23 : decode cX10_element 23 = .ok (.aaload, 1) := by decide +kernel
theorem dX10_element_24 : decode cX10_element 24 = .ok (.astore_n 3, 1) := by decide +kernel
theorem dX10_element_25 : decode cX10_element 25 = .ok (.aload_n 3, 1) := by decide +kernel
theorem dX10_element_26 : decode cX10_element 26 = .ok (.ifnull 12, 3) := by decide +kernel
theorem dX10_element_29 : decode cX10_element 29 = .ok (.aload_n 3, 1) := by decide +kernel
theorem dX10_element_30 : decode cX10_element 30 = .ok (.iload_n 2, 1) := by decide +kernel
theorem dX10_element_31 : decode cX10_element 31 = .ok (.iconst 1, 1) := by decide +kernel
theorem dX10_element_32 : decode cX10_element 32 = .ok (.invokevirtual 288, 3) := by decide +kernel
theorem dX10_element_35 : decode cX10_element 35 = .ok (.ifCond .ne 14, 3) := by decide +kernel
theorem dX10_element_38 : decode cX10_element 38 = .ok (.new 291, 3) := by decide +kernel
theorem dX10_element_41 : decode cX10_element 41 = .ok (.dup, 1) := by decide +kernel
theorem dX10_element_42 : decode cX10_element 42 = .ok (.ldc_w 293, 3) := by decide +kernel
theorem dX10_element_45 : decode cX10_element 45 = .ok (.invokespecial 295, 3) := by decide +kernel
theorem dX10_element_48 : decode cX10_element 48 = .ok (.athrow, 1) := by decide +kernel
theorem dX10_element_49 : decode cX10_element 49 = .ok (.aload_n 3, 1) := by decide +kernel
theorem dX10_element_50 : decode cX10_element 50 = .ok (.iload_n 2, 1) := by decide +kernel
theorem dX10_element_51 : decode cX10_element 51 = .ok (.invokevirtual 74, 3) := by decide +kernel
theorem dX10_element_54 : decode cX10_element 54 = .ok (.i2l, 1) := by decide +kernel
theorem dX10_element_55 : decode cX10_element 55 = .ok (.lreturn, 1) := by decide +kernel
set_option maxRecDepth 20000 in
theorem ggX10_element_X10_isShelf : GoodIn wsX10_element wsX10_isShelf := goodIn_r _ [9] (by decide +kernel) (by decide +kernel)
set_option maxRecDepth 20000 in
theorem gX10_element_X10_isShelf : GoodIn wsX10_element (va_wsS RX10 268 yX10_isShelf wsX10_isShelf) := goodIn_app (goodIn_of _ (by decide +kernel)) ggX10_element_X10_isShelf
set_option maxRecDepth 20000 in
theorem ggX10_element_X7_has : GoodIn wsX10_element wsX7_has := goodIn_r _ [14, 15, 28, 29] (by decide +kernel) (by decide +kernel)
set_option maxRecDepth 20000 in
theorem gX10_element_X7_has : GoodIn wsX10_element (wsV RX10 288 RX7 yX7_has wsX7_has) := goodIn_app (goodIn_of _ (by decide +kernel)) ggX10_element_X7_has
set_option maxRecDepth 20000 in
theorem ggX10_element_X7_at : GoodIn wsX10_element wsX7_at := goodIn_r _ [19, 15, 20, 11, 12, 13, 14, 28, 29] (by decide +kernel) (by decide +kernel)
set_option maxRecDepth 20000 in
theorem gX10_element_X7_at : GoodIn wsX10_element (wsV RX10 74 RX7 yX7_at wsX7_at) := goodIn_app (goodIn_of _ (by decide +kernel)) ggX10_element_X7_at
/-- what a call in the class's world answers, returning (0), or throwing (1, 2) -/
def eX (z e0 : Nat → Nat) (l : Launch) (D : va_G) (T : mT3) (b : Nat → Nat) (y : MethodName) (ws : List Cond) (rm : Room) (As : List Value) (xa : XA) (xs : XS) (o : Nat) (r : Int64) (xs' : XS) : Prop :=
  ∀ sz : Nat, vx_Met l y ws rm (va_Pc As (fun U => U.heap.size = sz ∧ va_P D vwCl (xW b T xa xs) U.heap ∧ va_K D vwCl (cT T) U ∧ va_D (fun _ => True) (xW b T xa xs) ∧ xS z (va_A (xW b T xa xs) sz) U U.heap ∧ xE e0 (va_A (xW b T xa xs) sz) U U.heap))
    (va_Ql (fun (x : Int64) (xa' : XA) => o = 0 ∧ x = r ∧ xRel b xa' xs' ∧ xSub xa xa') (fun xa' t => va_P D vwCl (xW b T xa' xs') t.heap ∧ va_K D vwCl (cT T) t ∧ va_D (va_A (xW b T xa xs) sz) (xW b T xa' xs')) (va_A (xW b T xa xs) sz))
    (vx_X (fun (xa' : XA) => xRel b xa' xs' ∧ xSub xa xa') (fun E xa' t => ((o = 1 ∧ E = "java/lang/IllegalArgumentException") ∨ (o = 2 ∧ E = "java/lang/IllegalStateException")) ∧ va_P D vwCl (xW b T xa' xs') t.heap ∧ va_D (va_A (xW b T xa xs) sz) (xW b T xa' xs')) (va_A (xW b T xa xs) sz)) rm.cells rm.slots (va_A (xW b T xa xs) sz)
abbrev rmX10_element : Room := { frames := 6, cells := 1, slots := 6, locals := 82 }
set_option maxHeartbeats 4000000 in
theorem xbody_X {z e0 : Nat → Nat} {l : Launch} {D : va_G} {T : mT3} {b : Nat → Nat} {y : MethodName} {ws ws' : List Cond} {As : List Value} {xa : XA} {xs xs' : XS} {o : Nat} {r : Int64} {bytes : ByteArray} {maxL : Nat}
    (hl : l.stackTraces = false) (hy : plainName y.cls = true) (hws : ws = Cond.code y bytes maxL (some .long) :: ws') (hlen : (lg_sl As).length ≤ maxL)
    (body : ∀ (p : Program) (e : Env) (s : State) (m : MethodId) (args : Array Value) (below : List Frame) (meth : Method) (c : Code) (A : Nat → Prop) (Q : State → Prop),
      p.tables.exec = Jvm.exec → c.code = bytes → c.maxLocals = maxL → s.vm.findClass y.cls = some m.cls → (∀ w ∈ ws, w.before args s = true) → va_K D vwCl (cT T) s → (∀ q : Nat, s.heap.size ≤ q → A q) → xS z A s s.heap → xE e0 A s s.heap →
      (∀ (pc : Nat) (H : Heap) (locs : List Loc) (ls : Array Slot) (xa' : XA), o = 0 → xRel b xa' xs' → xSub xa xa' → va_P D vwCl (xW b T xa' xs') H → va_D A (xW b T xa' xs') → va_S A s.heap H locs → decode bytes pc = .ok (.lreturn, 1) → W p l e rmX10_element s m args below meth c H locs 0 0 Q (F0 m pc ls [.long r])) →
      (∀ (X : String) (pc ik is ic sa : Nat) (text : String) (H : Heap) (locs : List Loc) (ls : Array Slot) (xa' : XA), ((o = 1 ∧ X = "java/lang/IllegalArgumentException") ∨ (o = 2 ∧ X = "java/lang/IllegalStateException")) → Bundle.fit X = true → xRel b xa' xs' → xSub xa xa' → va_P D vwCl (xW b T xa' xs') H → va_D A (xW b T xa' xs') → va_S A s.heap H locs → ls.size = maxL →
        (Cond.classLink y.cls ik X).before args s = true → (Cond.initialized X).before args s = true → vk_R y.cls is text sa s → (∀ w ∈ eL y.cls ic X, w.before args s = true) → (∀ w ∈ Cond.classLink y.cls ik X :: Cond.initialized X :: eL y.cls ic X, vx_ot w = true) →
        decode bytes pc = .ok (.new ik, 3) → decode bytes (pc + 3) = .ok (.dup, 1) → decode bytes (pc + 4) = .ok (.ldc_w is, 3) → decode bytes (pc + 7) = .ok (.invokespecial ic, 3) → decode bytes (pc + 10) = .ok (.athrow, 1) →
        W p l e rmX10_element s m args below meth c H locs 0 0 Q (F0 m pc ls [])) →
      ∀ ls : Array Slot, va_P D vwCl (xW b T xa xs) s.heap → va_D A (xW b T xa xs) → va_S A s.heap s.heap [] → lv_has ls maxL (lv_args 0 As) → W p l e rmX10_element s m args below meth c s.heap [] 0 0 Q (F0 m 0 ls [])) :
    eX z e0 l D T b y ws rmX10_element As xa xs o r xs' := by
  intro sz
  refine vx_ofW (cc := bytes) (maxL := maxL) (ret := some .long) hy hws ?_
  intro p e s m args below meth c s₁ B hml htab hv
  obtain ⟨rfl, hsz, hP, hK, hD0, hX, hE⟩ := hv
  have hr := B.returns
  have hlocks := B.notSynchronized
  subst hsz
  have hle := lv_entry As (n := maxL) hlen
  rw [lg_entry_eq]
  have hown : s.vm.findClass y.cls = some m.cls := findClass_of_methodNamed B.named
  refine body p e s m _ below meth c (va_A (xW b T xa xs) s.heap.size) _ B.exec B.bytes hml hown (atoms_spec (ws := ws) B.pre) hK (fun q h => Or.inr h) hX hE ?_ ?_ _ hP hD0.self va_S.rf hle
  · intro pc H locs ls xa' ho hR hSS hP1 hD1 hS hdg
    have kk : W p l e rmX10_element s m As.toArray below meth c H locs rmX10_element.cells rmX10_element.slots (MQ below (va_Ql (fun (x : Int64) (xa' : XA) => o = 0 ∧ x = r ∧ xRel b xa' xs' ∧ xSub xa xa') (fun xa' t => va_P D vwCl (xW b T xa' xs') t.heap ∧ va_K D vwCl (cT T) t ∧ va_D (va_A (xW b T xa xs) s.heap.size) (xW b T xa' xs')) (va_A (xW b T xa xs) s.heap.size)) As.toArray s rmX10_element.cells rmX10_element.slots (va_A (xW b T xa xs) s.heap.size)) (F0 m pc ls [.long r]) :=
      W.lret (v := r) B.exec B.bytes hr (fun t ht hW => ⟨⟨r, xa', rfl, ⟨ho, rfl, hR, hSS⟩, by rw [ht]; exact hP1, va_K.moved hW.alike hK, hD1⟩, hS.F ht⟩) hS.2.2 hdg
    exact vx_ret (fun T hT X' => kk T hT (stand_widen X' (Nat.zero_le _) (Nat.zero_le _)))
  · intro X pc ik is ic sa text H locs ls xa' ho hX0 hR hSS hP1 hD1 hS hsz h1 h2 h3 h4 h5 d0 d3 d4 d7 d10
    refine vx_throwSW B.exec B.bytes hl hown hX0 (names := ["java/lang/RuntimeException", "java/lang/Exception"]) (by decide +kernel) h1 h2 h3 h4 h5 hE.2.1 hE.2.2.1 hS (hsz.trans hml.symm) d0 d3 d4 d7 d10 (fun x hx => (htab x hx).elim) (Nat.le_of_ble_eq_true rfl) (Nat.le_of_ble_eq_true rfl) (Nat.le_of_ble_eq_true rfl) (Nat.le_of_ble_eq_true rfl) hlocks ?_ hS.2.2 (Nat.le_refl _) (Nat.le_refl _)
    intro t _ hz hk
    refine ⟨xa', ⟨hR, hSS⟩, ⟨ho, hP1.kept fun k q hkq => hk q.1 (va_in_lt hP1 (List.mem_of_getElem? hkq)), hD1⟩, Nat.le_trans hS.1 hz, fun q hq hA => ?_⟩
    rw [hk q (Nat.lt_of_lt_of_le hq hS.1)]
    exact hS.2.1 q hq hA

set_option maxRecDepth 100000 in
theorem gt_el1 : ∀ w ∈ Cond.classLink RX10 281 "java/lang/IllegalArgumentException" :: Cond.initialized "java/lang/IllegalArgumentException" :: eL RX10 285 "java/lang/IllegalArgumentException", vx_ot w = true := fun w hw => List.all_eq_true.mp (show (Cond.classLink RX10 281 "java/lang/IllegalArgumentException" :: Cond.initialized "java/lang/IllegalArgumentException" :: eL RX10 285 "java/lang/IllegalArgumentException").all vx_ot = true by decide +kernel) w hw
theorem gn_el1 : ∀ w ∈ eN RX10 285 "java/lang/IllegalArgumentException", w ∈ xEw := fun w hw => by
  unfold xEw
  simp only [List.mem_append]
  exact Or.inl hw
set_option maxRecDepth 100000 in
theorem gt_el2 : ∀ w ∈ Cond.classLink RX10 291 "java/lang/IllegalStateException" :: Cond.initialized "java/lang/IllegalStateException" :: eL RX10 295 "java/lang/IllegalStateException", vx_ot w = true := fun w hw => List.all_eq_true.mp (show (Cond.classLink RX10 291 "java/lang/IllegalStateException" :: Cond.initialized "java/lang/IllegalStateException" :: eL RX10 295 "java/lang/IllegalStateException").all vx_ot = true by decide +kernel) w hw
theorem gn_el2 : ∀ w ∈ eN RX10 295 "java/lang/IllegalStateException", w ∈ xEw := fun w hw => by
  unfold xEw
  simp only [List.mem_append]
  exact Or.inr (Or.inl hw)
set_option maxRecDepth 100000 in
theorem gg_el1 : ∀ w ∈ (eL RX10 285 "java/lang/IllegalArgumentException").filter goodWord, w ∈ wsX10_element := by decide +kernel
set_option maxRecDepth 100000 in
theorem gg_el2 : ∀ w ∈ (eL RX10 295 "java/lang/IllegalStateException").filter goodWord, w ∈ wsX10_element := by decide +kernel
/-! X10 element -/
def X10_element (xs : XS) (v1 v2 : Int32) : Option ((Nat × Int64) × XS) :=
    bd1 (X10_isShelf v1) fun y_2 =>
    if y_2 = 0 then some ((1, 0), xs) else
    inr v1 8 <|
    ob (oR xs v1.toNatClampNeg) (some ((2, 0), xs)) fun k =>
    bd1 (xR xs k) fun rz =>
    bnd (X7_has rz.1 rz.2 v2 (1 : Int32)) fun y st =>
    nm (uR xs k (some (rz.1, st))) fun xs1 =>
    if y = 0 then some ((2, 0), xs1) else
    bd1 (xR xs1 k) fun rz2 =>
    bnd (X7_at rz2.1 rz2.2 v2) fun y2 st2 =>
    nm (uR xs1 k (some (rz2.1, st2))) fun xs2 =>
    some ((0, y2.toInt64), xs2)
set_option maxRecDepth 100000 in
set_option maxHeartbeats 8000000 in
theorem okX10_element (z e0 : Nat → Nat) (l : Launch) (hl0 : l.stackTraces = false) (D : va_G) (T : mT3) (b : Nat → Nat) {xa : XA} {xs : XS} {v1 v2 : Int32} {r : Nat × Int64} {xs' : XS} (hR : xRel b xa xs) (heq : X10_element xs v1 v2 = some (r, xs')) : eX z e0 l D T b yX10_element wsX10_element rmX10_element [.ref (b 0), .int v1, .int v2] xa xs r.1 r.2 xs' := by
  refine xbody_X hl0 (by decide) rfl (Nat.le_of_ble_eq_true rfl) (fun p e s m args below meth c A Q hx hb hml hown hts hK hA hX hE hret hthr ls hP hD hS hl => ?_)
  have hl : lv_has ls 4 [(0, .ref (b 0)), (1, .int v1), (2, .int v2)] := hl
  have hin10 : ∀ w ∈ wsX100, w ∈ wsX10_element := by decide +kernel
  have f39 : (Cond.fieldLink RX10 39 RX10 (TX10 6).2.1 (TX10 6).2.2.1).before args s = true := hts (.fieldLink RX10 39 RX10 "rows" "[LLaidDownTheLane$Row;") (by decide +kernel)
  have b38 : ∀ (xs1 : XS) (H : Heap) (locs : List Loc) (ls : Array Slot), xRel b xa xs1 → va_P D vwCl (xW b T xa xs1) H → va_D A (xW b T xa xs1) → va_S A s.heap H locs → ls.size = 4 → some ((2, 0), xs1) = some (r, xs') → W p l e rmX10_element s m args below meth c H locs 0 0 Q (F0 m 38 ls []) := by
    intro xs1 H locs ls hR hP hD hS hsz heq
    obtain ⟨heq, heq2⟩ := ret_h heq
    subst heq
    subst heq2
    exact hthr "java/lang/IllegalStateException" 38 291 293 295 _ _ H locs ls xa (Or.inr ⟨rfl, rfl⟩) (by decide +kernel) hR xSub.rf hP hD hS hsz (hts _ (by decide +kernel)) (hts _ (by decide +kernel)) hE.2.2.2.2.1 (hE.words (fun w hw => hts w (gg_el2 w hw)) gn_el2) gt_el2 dX10_element_38 dX10_element_41 dX10_element_42 dX10_element_45 dX10_element_48
  obtain ⟨H, hH⟩ : ∃ H, H = s.heap := ⟨_, rfl⟩
  obtain ⟨locs, hlocs⟩ : ∃ z : List Loc, z = [] := ⟨_, rfl⟩
  have hS : va_S A s.heap H locs := by rw [hH, hlocs]; exact hS
  have hP : va_P D vwCl (xW b T xa xs) H := by rw [hH]; exact hP
  suffices h9 : W p l e rmX10_element s m args below meth c H locs 0 0 Q (F0 m 0 ls []) by rw [hH, hlocs] at h9; exact h9
  clear hH hlocs
  unfold X10_element at heq
  refine lv_iload_n hx hb dX10_element_0 rfl (lv_at hl 1 rfl) ?_
  obtain ⟨y_2, h_3, heq⟩ := bd1_h heq
  refine h_si (own := RX10) (As := [.int v1]) (rest := []) (w0 := []) (w1 := []) (wr := xW b T xa xs) hx hb hml hown hts (okX10_isShelf z l D h_3) (va_cwS 1 hts gX10_element_X10_isShelf rfl rfl rfl (hdX10_isShelf).2 ⟨Nat.le_of_ble_eq_true rfl, Nat.le_of_ble_eq_true rfl⟩) (hK.sub [] rfl) hA hX hP hD hS (List.Perm.refl _) (List.Perm.refl _) rfl hl.1 rfl (Nat.le_of_ble_eq_true rfl) dX10_element_1 ⟨Nat.le_of_ble_eq_true rfl, Nat.le_of_ble_eq_true rfl⟩ (fun H locs hP hD hS => ?_)
  refine lv_if_ne (tgt := 18) hx hb dX10_element_4 (by decide) (fun c_4 => ?_) (fun c_4 => ?_)
  · have heq := it_f c_4 heq
    refine lv_aload_n hx hb dX10_element_18 rfl (lv_at hl 0 rfl) ?_
    refine va_get (D := D) (ci := 10) (v := .ref (b 2)) (C := RX10) (T := TX10) (N := 7) hx hb hts hin10 hown hK hP 0 rfl rfl 6 (by decide) f39 (fun _ h9 => h9) rfl dX10_element_19 ?_
    refine lv_iload_n hx hb dX10_element_22 rfl (lv_at hl 1 rfl) ?_
    obtain ⟨n_11, heq⟩ := inr_h heq
    have hb_12 := onR_of hR (in_lt n_11)
    refine va_aldq (C := RX7) (n := 8) (f := xRo xa) hx hb hK hP 2 2 rfl rfl n_11 dX10_element_23 ?_
    refine lv_astoreQ_n (lv' := [(3, va_rf (xRo xa v1.toNatClampNeg)), (0, .ref (b 0)), (1, .int v1), (2, .int v2)]) hx hb dX10_element_24 rfl hl (by decide) rfl (fun ls hl => ?_)
    refine lv_aloadQ_n (r := xRo xa v1.toNatClampNeg) hx hb dX10_element_25 rfl (lv_at hl 0 rfl) ?_
    rcases obR_h hb_12 heq with ⟨h_14, heq⟩ | ⟨k, ⟨h_14, h_16⟩, heq⟩
    · rw [h_14]
      refine lv_ifnullN (tgt := 38) hx hb dX10_element_26 (by decide) ?_
      exact b38 xs H locs ls hR hP hD hS hl.1 heq
    rw [h_14] at hl ⊢
    have hl : lv_has ls 4 [(3, .ref (xRa xa k 0)), (0, .ref (b 0)), (1, .int v1), (2, .int v2)] := hl
    refine lv_ifnull hx hb dX10_element_26 ?_
    refine lv_aload_n hx hb dX10_element_29 rfl (lv_at hl 0 rfl) ?_
    refine lv_iload_n hx hb dX10_element_30 rfl (lv_at hl 3 rfl) ?_
    refine lv_iconst (v := (1 : Int32)) hx hb dX10_element_31 (by decide) ?_
    obtain ⟨rz, hz, heq⟩ := bd1_h heq
    obtain ⟨y, st, h_y, heq⟩ := bnd_h heq
    refine h_vi (own := RX10) (As := [.int v2, .int 1]) (rest := []) (wr := xWrR b T xa xs k) hx hb hml hown hts (okX7_has z l D (xRa xa k) T h_y) (cwV 2 hts gX10_element_X7_has rfl rfl rfl hdX7_has ⟨Nat.le_of_ble_eq_true rfl, Nat.le_of_ble_eq_true rfl⟩) hK hA hX hP hD hS (xpR b T xa xs h_16 hz) (xqR b T xa xs h_16 _ _) (ci := 7) (q0 := 0) rfl rfl rfl hl.1 rfl (Nat.le_of_ble_eq_true rfl) dX10_element_32 ⟨Nat.le_of_ble_eq_true rfl, Nat.le_of_ble_eq_true rfl⟩ (fun H locs hP hD hS => ?_)
    obtain ⟨xs1, exs1⟩ : ∃ z, z = uR xs k (some (rz.1, st)) := ⟨_, rfl⟩
    have hR : xRel b xa (uR xs k (some (rz.1, st))) := hR.uR hz
    rw [← exs1] at hP hD hR
    have heq := nm_h exs1 heq
    refine lv_if_ne (tgt := 49) hx hb dX10_element_35 (by decide) (fun c_5 => ?_) (fun c_5 => ?_)
    · have heq := it_f c_5 heq
      refine lv_aload_n hx hb dX10_element_49 rfl (lv_at hl 0 rfl) ?_
      refine lv_iload_n hx hb dX10_element_50 rfl (lv_at hl 3 rfl) ?_
      obtain ⟨rz2, hz2, heq⟩ := bd1_h heq
      obtain ⟨y2, st2, h_y2, heq⟩ := bnd_h heq
      refine h_vi (own := RX10) (As := [.int v2]) (rest := []) (wr := xWrR b T xa xs1 k) hx hb hml hown hts (okX7_at z l D (xRa xa k) T h_y2) (cwV 1 hts gX10_element_X7_at rfl rfl rfl hdX7_at ⟨Nat.le_of_ble_eq_true rfl, Nat.le_of_ble_eq_true rfl⟩) hK hA hX hP hD hS (xpR b T xa xs1 h_16 hz2) (xqR b T xa xs1 h_16 _ _) (ci := 7) (q0 := 0) rfl rfl rfl hl.1 rfl (Nat.le_of_ble_eq_true rfl) dX10_element_51 ⟨Nat.le_of_ble_eq_true rfl, Nat.le_of_ble_eq_true rfl⟩ (fun H locs hP hD hS => ?_)
      obtain ⟨xs2, exs2⟩ : ∃ z, z = uR xs1 k (some (rz2.1, st2)) := ⟨_, rfl⟩
      have hR : xRel b xa (uR xs1 k (some (rz2.1, st2))) := hR.uR hz2
      rw [← exs2] at hP hD hR
      have heq := nm_h exs2 heq
      refine lv_i2l hx hb dX10_element_54 rfl ?_
      obtain ⟨heq, heq2⟩ := ret_h heq
      subst heq
      subst heq2
      exact hret 55 H locs ls xa rfl hR xSub.rf hP hD hS dX10_element_55
    have heq := it_t c_5 heq
    exact b38 xs1 H locs ls hR hP hD hS hl.1 heq
  have heq := it_t c_4 heq
  obtain ⟨heq, heq2⟩ := ret_h heq
  subst heq
  subst heq2
  exact hthr "java/lang/IllegalArgumentException" 7 281 283 285 _ _ H locs ls xa (Or.inl ⟨rfl, rfl⟩) (by decide +kernel) hR xSub.rf hP hD hS hl.1 (hts _ (by decide +kernel)) (hts _ (by decide +kernel)) hE.2.2.2.1 (hE.words (fun w hw => hts w (gg_el1 w hw)) gn_el1) gt_el1 dX10_element_7 dX10_element_10 dX10_element_11 dX10_element_14 dX10_element_17
