/-! throws: what they want of the world beside the rows of xS -/
noncomputable def eL (own : String) (ic : Nat) (X : String) : List Cond := vx_atS own ic X ["java/lang/RuntimeException", "java/lang/Exception"]
noncomputable def eN (own : String) (ic : Nat) (X : String) : List Cond := (eL own ic X).filter (fun w => !goodWord w)
noncomputable def xEw : List Cond := eN RX10 285 "java/lang/IllegalArgumentException" ++ (eN RX10 295 "java/lang/IllegalStateException" ++ (eN RX0 19 "java/lang/IllegalArgumentException" ++ (eN RX6 21 "java/lang/IllegalStateException" ++ eN RX5 24 "java/lang/UnsupportedOperationException")))
def isEw (w : Cond) : Bool := w.onTables && w.keepsFace
set_option maxRecDepth 100000 in
theorem xEw_on : xEw.all isEw = true := by decide +kernel
theorem isEw_warm {s U : State} (hW : s.WarmedH U.vm) {w : Cond} (hw : isEw w = true) (h : va_Nw w s) : va_Nw w U := by
  obtain ⟨h1, h2⟩ := (Bool.and_eq_true _ _).mp hw
  exact va_tabs h1 (rfl : (s.setVm U.vm).vm = U.vm) (Cond.before_shiftedFace (args := #[]) (State.Shifted.of_warmed hW) w h2 h)
def xE (e : Nat → Nat) (A : Nat → Prop) (U : State) (H : Heap) : Prop := (∀ w ∈ xEw, va_Nw w U) ∧ vx_Zq Bundle.tN "UNASSIGNED_STACK" Bundle.steD A U H ∧ vx_Zq Bundle.tN "SUPPRESSED_SENTINEL" Bundle.listD A U H ∧
  vk_R RX10 283 "no such SHELF" (e 0) U ∧ vk_R RX10 293 "no ROW or no such place" (e 1) U ∧ vk_R RX0 17 "a BRICK fails" (e 2) U ∧ vk_R RX6 19 "a PROP fails" (e 3) U ∧ vk_R RX5 22 "an OILED PROP fails" (e 4) U ∧
  va_Nc "java/lang/IllegalStateException" "java/lang/IllegalArgumentException" U ∧ va_Nc "java/lang/UnsupportedOperationException" "java/lang/IllegalArgumentException" U ∧ va_Nc "java/lang/UnsupportedOperationException" "java/lang/IllegalStateException" U
theorem xE.blind {e : Nat → Nat} {A : Nat → Prop} {U : State} {H : Heap} (h : xE e A U H) (g : JFrame) (mk : MethodId) (a : Array Value) : xE e A (U.calling g mk a) H := by
  obtain ⟨hn, hu, hs, k0, k1, k2, k3, k4, n0, n1, n2⟩ := h
  have hv : U.vm = (U.calling g mk a).vm := rfl
  exact ⟨fun w hw => va_Nw.same (((Bool.and_eq_true _ _).mp (List.all_eq_true.mp xEw_on w hw)).1) hv (hn w hw), vx_Zq.moved (Vm.Alike.refl U.vm) hu, vx_Zq.moved (Vm.Alike.refl U.vm) hs, vk_R.same hv.symm k0, vk_R.same hv.symm k1, vk_R.same hv.symm k2, vk_R.same hv.symm k3, vk_R.same hv.symm k4, va_Nc.moved (Vm.Alike.refl U.vm) n0, va_Nc.moved (Vm.Alike.refl U.vm) n1, va_Nc.moved (Vm.Alike.refl U.vm) n2⟩
theorem xE.pass {e : Nat → Nat} {A B : Nat → Prop} {s U : State} {H : Heap} {locs : List Loc} (h : xE e A s s.heap) (hS : va_S A s.heap H locs) (hW : s.WarmedH U.vm) (hB : ∀ q, B q → A q) : xE e B U H := by
  obtain ⟨hn, hu, hs, k0, k1, k2, k3, k4, n0, n1, n2⟩ := h
  exact ⟨fun w hw => isEw_warm hW (List.all_eq_true.mp xEw_on w hw) (hn w hw), ((vx_Zq.moved hW.alike hu).kept hS.2.1).narrow hB, ((vx_Zq.moved hW.alike hs).kept hS.2.1).narrow hB, vk_R.warm hW k0, vk_R.warm hW k1, vk_R.warm hW k2, vk_R.warm hW k3, vk_R.warm hW k4, va_Nc.moved hW.alike n0, va_Nc.moved hW.alike n1, va_Nc.moved hW.alike n2⟩
theorem xE.words {e : Nat → Nat} {A : Nat → Prop} {s : State} {H : Heap} (h : xE e A s H) {own : String} {ic : Nat} {X : String} {args : Array Value} (hg : ∀ w ∈ (eL own ic X).filter goodWord, w.before args s = true) (hs : ∀ w ∈ eN own ic X, w ∈ xEw) : ∀ w ∈ eL own ic X, w.before args s = true :=
  vx_hat hg (B := eN own ic X) (fun w hw => hw) (fun w hw => va_Nw.use (((Bool.and_eq_true _ _).mp (List.all_eq_true.mp xEw_on w (hs w hw))).1) (h.1 w (hs w hw)))
theorem hxE_blind {D : va_G} {tys : List (ClassId × FieldType)} {z e : Nat → Nat} {w : va_W} {sz : Nat} {av : List Value} : FrameBlind (va_Pc av (fun U => U.heap.size = sz ∧ va_P D vwCl w U.heap ∧ va_K D vwCl tys U ∧ va_D (fun _ => True) w ∧ xS z (va_A w sz) U U.heap ∧ xE e (va_A w sz) U U.heap)) := fun a U g mk q => by
  obtain ⟨h0, h1, h2, h3, h4, h5, h6⟩ := q
  exact ⟨h0, h1, h2, va_K.moved (Vm.Alike.refl U.vm) h3, h4, h5.blind g mk a, h6.blind g mk a⟩
/-- a brick's FAILURE: it returns where there is none, else it throws X -/
def fX (no : Prop) (X : String) (z e : Nat → Nat) (l : Launch) (D : va_G) (tys : List (ClassId × FieldType)) (y : MethodName) (ws : List Cond) (rm : Room) (As : List Value) (w0 : va_W) : Prop :=
  ∀ sz : Nat, vx_Met l y ws rm (va_Pc As (fun U => U.heap.size = sz ∧ va_P D vwCl w0 U.heap ∧ va_K D vwCl tys U ∧ va_D (fun _ => True) w0 ∧ xS z (va_A w0 sz) U U.heap ∧ xE e (va_A w0 sz) U U.heap))
    (va_Qv (fun (_ : Unit) => no) (fun _ t => va_P D vwCl w0 t.heap ∧ va_K D vwCl tys t ∧ va_D (va_A w0 sz) w0) (va_A w0 sz))
    (vx_X (fun (_ : Unit) => ¬ no) (fun E _ t => E = X ∧ va_P D vwCl w0 t.heap) (va_A w0 sz)) rm.cells rm.slots (va_A w0 sz)
abbrev rmFail : Room := { frames := 6, cells := 1, slots := 6, locals := 82 }
set_option maxHeartbeats 4000000 in
theorem f_body {no : Prop} {X : String} {z e0 : Nat → Nat} {l : Launch} {D : va_G} {tys : List (ClassId × FieldType)} {y : MethodName} {ws ws' : List Cond} {As : List Value} {w0 : va_W} {bytes : ByteArray} {maxL : Nat}
    (hl : l.stackTraces = false) (hX0 : Bundle.fit X = true) (hy : plainName y.cls = true) (hws : ws = Cond.code y bytes maxL (none) :: ws') (hlen : (lg_sl As).length ≤ maxL)
    (body : ∀ (p : Program) (e : Env) (s : State) (m : MethodId) (args : Array Value) (below : List Frame) (meth : Method) (c : Code) (A : Nat → Prop) (Q : State → Prop),
      p.tables.exec = Jvm.exec → c.code = bytes → c.maxLocals = maxL → s.vm.findClass y.cls = some m.cls → (∀ w ∈ ws, w.before args s = true) → va_K D vwCl tys s → xE e0 A s s.heap →
      (no → ∀ (pc : Nat) (H : Heap) (locs : List Loc) (ls : Array Slot), va_P D vwCl w0 H → va_D A w0 → va_S A s.heap H locs → decode bytes pc = .ok (.return_, 1) → W p l e rmFail s m args below meth c H locs 0 0 Q (F0 m pc ls [])) →
      (¬ no → ∀ (pc ik is ic sa : Nat) (text : String) (H : Heap) (locs : List Loc) (ls : Array Slot), va_P D vwCl w0 H → va_S A s.heap H locs → ls.size = maxL → (∀ q ∈ w0, q.1 < H.size) →
        (Cond.classLink y.cls ik X).before args s = true → (Cond.initialized X).before args s = true → vk_R y.cls is text sa s → (∀ w ∈ eL y.cls ic X, w.before args s = true) → (∀ w ∈ Cond.classLink y.cls ik X :: Cond.initialized X :: eL y.cls ic X, vx_ot w = true) →
        decode bytes pc = .ok (.new ik, 3) → decode bytes (pc + 3) = .ok (.dup, 1) → decode bytes (pc + 4) = .ok (.ldc is, 2) → decode bytes (pc + 6) = .ok (.invokespecial ic, 3) → decode bytes (pc + 9) = .ok (.athrow, 1) →
        W p l e rmFail s m args below meth c H locs 0 0 Q (F0 m pc ls [])) →
      ∀ ls : Array Slot, va_P D vwCl w0 s.heap → va_D A w0 → va_S A s.heap s.heap [] → lv_has ls maxL (lv_args 0 As) → W p l e rmFail s m args below meth c s.heap [] 0 0 Q (F0 m 0 ls [])) :
    fX no X z e0 l D tys y ws rmFail As w0 := by
  intro sz
  refine vx_ofW (cc := bytes) (maxL := maxL) (ret := none) hy hws ?_
  intro p e s m args below meth c s₁ B hml htab hv
  obtain ⟨rfl, hsz, hP, hK, hD0, hX, hE⟩ := hv
  have hr := B.returns
  have hlocks := B.notSynchronized
  subst hsz
  have hle := lv_entry As (n := maxL) hlen
  rw [lg_entry_eq]
  have hown : s.vm.findClass y.cls = some m.cls := findClass_of_methodNamed B.named
  refine body p e s m _ below meth c (va_A w0 s.heap.size) _ B.exec B.bytes hml hown (atoms_spec (ws := ws) B.pre) hK hE ?_ ?_ _ hP hD0.self va_S.rf hle
  · intro hn pc H locs ls hP1 hD1 hS hdg
    have kk : W p l e rmFail s m As.toArray below meth c H locs rmFail.cells rmFail.slots (MQ below (va_Qv (fun (_ : Unit) => no) (fun _ t => va_P D vwCl w0 t.heap ∧ va_K D vwCl tys t ∧ va_D (va_A w0 s.heap.size) w0) (va_A w0 s.heap.size)) As.toArray s rmFail.cells rmFail.slots (va_A w0 s.heap.size)) (F0 m pc ls []) :=
      W.vret B.exec B.bytes hr (fun t ht hW => ⟨⟨(), rfl, hn, by rw [ht]; exact hP1, va_K.moved hW.alike hK, hD1⟩, hS.F ht⟩) hS.2.2 hdg
    exact vx_ret (fun T hT X' => kk T hT (stand_widen X' (Nat.zero_le _) (Nat.zero_le _)))
  · intro hn pc ik is ic sa text H locs ls hP1 hS hsz hlt h1 h2 h3 h4 h5 d0 d3 d4 d6 d9
    refine vx_throwS B.exec B.bytes hl hown hX0 (names := ["java/lang/RuntimeException", "java/lang/Exception"]) (by decide +kernel) h1 h2 h3 h4 h5 hE.2.1 hE.2.2.1 hS (hsz.trans hml.symm) d0 d3 d4 d6 d9 (fun x hx => (htab x hx).elim) (Nat.le_of_ble_eq_true rfl) (Nat.le_of_ble_eq_true rfl) (Nat.le_of_ble_eq_true rfl) (Nat.le_of_ble_eq_true rfl) hlocks ?_ hS.2.2 (Nat.le_refl _) (Nat.le_refl _)
    intro t _ hz hk
    refine ⟨(), hn, ⟨rfl, hP1.kept fun k q hkq => hk q.1 (hlt q (List.mem_of_getElem? hkq))⟩, Nat.le_trans hS.1 hz, fun q hq hA => ?_⟩
    rw [hk q (Nat.lt_of_lt_of_le hq hS.1)]
    exact hS.2.1 q hq hA
theorem va_in_lt {D : va_G} {cl : List vw_C} {ws : va_W} {H : Heap} (h : va_P D cl ws H) {q : Nat × va_E} (hq : q ∈ ws) : q.1 < H.size := by
  obtain ⟨k, hk⟩ := List.getElem?_of_mem hq
  exact vx_lt h hk
theorem dX0_fail_0 : decode cX0_fail 0 = .ok (.aload_n 0, 1) := by decide +kernel
theorem dX0_fail_1 : decode cX0_fail 1 = .ok (.getfield 9, 3) := by decide +kernel
theorem dX0_fail_4 : decode cX0_fail 4 = .ok (.ifCond .eq 13, 3) := by decide +kernel
theorem dX0_fail_7 : decode cX0_fail 7 = .ok (.new 15, 3) := by decide +kernel
theorem dX0_fail_10 : decode cX0_fail 10 = .ok (.dup, 1) := by decide +kernel
theorem dX0_fail_11 : decode cX0_fail 11 = .ok (.ldc 17, 2) := by decide +kernel
theorem dX0_fail_13 : decode cX0_fail 13 = .ok (.invokespecial 19, 3) := by decide +kernel
theorem dX0_fail_16 : decode cX0_fail 16 = .ok (.athrow, 1) := by decide +kernel
theorem dX0_fail_17 : decode cX0_fail 17 = .ok (.return_, 1) := by decide +kernel
theorem dX2_fail_0 : decode cX2_fail 0 = .ok (.return_, 1) := by decide +kernel
theorem dX5_fail_0 : decode cX5_fail 0 = .ok (.aload_n 0, 1) := by decide +kernel
theorem dX5_fail_1 : decode cX5_fail 1 = .ok (.getfield 14, 3) := by decide +kernel
theorem dX5_fail_4 : decode cX5_fail 4 = .ok (.ifCond .eq 13, 3) := by decide +kernel
theorem dX5_fail_7 : decode cX5_fail 7 = .ok (.new 20, 3) := by decide +kernel
theorem dX5_fail_10 : decode cX5_fail 10 = .ok (.dup, 1) := by decide +kernel
theorem dX5_fail_11 : decode cX5_fail 11 = .ok (.ldc 22, 2) := by decide +kernel
theorem dX5_fail_13 : decode cX5_fail 13 = .ok (.invokespecial 24, 3) := by decide +kernel
theorem dX5_fail_16 : decode cX5_fail 16 = .ok (.athrow, 1) := by decide +kernel
theorem dX5_fail_17 : decode cX5_fail 17 = .ok (.return_, 1) := by decide +kernel
theorem dX6_fail_0 : decode cX6_fail 0 = .ok (.aload_n 0, 1) := by decide +kernel
theorem dX6_fail_1 : decode cX6_fail 1 = .ok (.getfield 7, 3) := by decide +kernel
theorem dX6_fail_4 : decode cX6_fail 4 = .ok (.ifCond .eq 13, 3) := by decide +kernel
theorem dX6_fail_7 : decode cX6_fail 7 = .ok (.new 17, 3) := by decide +kernel
theorem dX6_fail_10 : decode cX6_fail 10 = .ok (.dup, 1) := by decide +kernel
theorem dX6_fail_11 : decode cX6_fail 11 = .ok (.ldc 19, 2) := by decide +kernel
theorem dX6_fail_13 : decode cX6_fail 13 = .ok (.invokespecial 21, 3) := by decide +kernel
theorem dX6_fail_16 : decode cX6_fail 16 = .ok (.athrow, 1) := by decide +kernel
theorem dX6_fail_17 : decode cX6_fail 17 = .ok (.return_, 1) := by decide +kernel
set_option maxRecDepth 100000 in
theorem gt_X0_fail : ∀ w ∈ Cond.classLink RX0 15 "java/lang/IllegalArgumentException" :: Cond.initialized "java/lang/IllegalArgumentException" :: eL RX0 19 "java/lang/IllegalArgumentException", vx_ot w = true := fun w hw => List.all_eq_true.mp (show (Cond.classLink RX0 15 "java/lang/IllegalArgumentException" :: Cond.initialized "java/lang/IllegalArgumentException" :: eL RX0 19 "java/lang/IllegalArgumentException").all vx_ot = true by decide +kernel) w hw
theorem gn_X0_fail : ∀ w ∈ eN RX0 19 "java/lang/IllegalArgumentException", w ∈ xEw := fun w hw => by
  unfold xEw
  simp only [List.mem_append]
  exact Or.inr (Or.inr (Or.inl hw))
theorem gg_X0_fail : ∀ w ∈ (eL RX0 19 "java/lang/IllegalArgumentException").filter goodWord, w ∈ wsX0_fail := fun w hw => List.mem_cons_of_mem _ (List.mem_append_right _ hw)
set_option maxRecDepth 100000 in
set_option maxHeartbeats 4000000 in
theorem okX0_fail_0 (z e : Nat → Nat) (l : Launch) (hl0 : l.stackTraces = false) (D : va_G) (T : mT3) (q : Nat) (fg : Int32) : fX (fg = 0) "java/lang/IllegalArgumentException" z e l D (cT T) yX0_fail wsX0_fail rmFail [.ref q] [(q, .inr (0, [.int fg]))] := by
  refine f_body hl0 (by decide +kernel) (by decide) rfl (Nat.le_of_ble_eq_true rfl) (fun p e s m args below meth c A Q hx hb hml hown hts hK hE hret hthr ls hP hD hS hl => ?_)
  have hl : lv_has ls 1 [(0, .ref q)] := hl
  refine lv_aload_n hx hb dX0_fail_0 rfl (lv_at hl 0 rfl) ?_
  refine va_get (D := D) (ci := 0) (v := .int fg) (C := RX0) (T := TX0) (N := 1) hx hb hts (by decide +kernel) hown hK hP 0 rfl rfl 0 (by decide) (hts (.fieldLink RX0 9 RX0 "figure" "I") (by decide +kernel)) (fun _ h9 => h9) rfl dX0_fail_1 ?_
  refine lv_if_eq (tgt := 17) hx hb dX0_fail_4 (by decide) (fun c4 => ?_) (fun c4 => ?_)
  · exact hret c4 17 s.heap [] ls hP hD hS dX0_fail_17
  · exact hthr c4 7 15 17 19 _ _ s.heap [] ls hP hS hl.1 (fun q9 h9 => va_in_lt hP h9) (hts _ (by decide +kernel)) (hts _ (by decide +kernel)) hE.2.2.2.2.2.1 (hE.words (fun w hw => hts w (gg_X0_fail w hw)) gn_X0_fail) gt_X0_fail dX0_fail_7 dX0_fail_10 dX0_fail_11 dX0_fail_13 dX0_fail_16
set_option maxRecDepth 100000 in
set_option maxHeartbeats 4000000 in
theorem okX0_fail_1 (z e : Nat → Nat) (l : Launch) (hl0 : l.stackTraces = false) (D : va_G) (T : mT3) (q : Nat) (fg : Int32) : fX (fg = 0) "java/lang/IllegalArgumentException" z e l D (cT T) yX0_fail wsX0_fail rmFail [.ref q] [(q, .inr (1, [.int fg]))] := by
  refine f_body hl0 (by decide +kernel) (by decide) rfl (Nat.le_of_ble_eq_true rfl) (fun p e s m args below meth c A Q hx hb hml hown hts hK hE hret hthr ls hP hD hS hl => ?_)
  have hl : lv_has ls 1 [(0, .ref q)] := hl
  refine lv_aload_n hx hb dX0_fail_0 rfl (lv_at hl 0 rfl) ?_
  refine va_get (D := D) (ci := 1) (v := .int fg) (C := RX1) (T := TX1) (N := 1) hx hb hts (by decide +kernel) hown hK hP 0 rfl rfl 0 (by decide) (hts (.fieldLink RX0 9 RX0 "figure" "I") (by decide +kernel)) (fun _ h9 => h9) rfl dX0_fail_1 ?_
  refine lv_if_eq (tgt := 17) hx hb dX0_fail_4 (by decide) (fun c4 => ?_) (fun c4 => ?_)
  · exact hret c4 17 s.heap [] ls hP hD hS dX0_fail_17
  · exact hthr c4 7 15 17 19 _ _ s.heap [] ls hP hS hl.1 (fun q9 h9 => va_in_lt hP h9) (hts _ (by decide +kernel)) (hts _ (by decide +kernel)) hE.2.2.2.2.2.1 (hE.words (fun w hw => hts w (gg_X0_fail w hw)) gn_X0_fail) gt_X0_fail dX0_fail_7 dX0_fail_10 dX0_fail_11 dX0_fail_13 dX0_fail_16
set_option maxRecDepth 100000 in
set_option maxHeartbeats 4000000 in
theorem okX0_fail_3 (z e : Nat → Nat) (l : Launch) (hl0 : l.stackTraces = false) (D : va_G) (T : mT3) (q : Nat) (fg : Int32) : fX (fg = 0) "java/lang/IllegalArgumentException" z e l D (cT T) yX0_fail wsX0_fail rmFail [.ref q] [(q, .inr (3, [.int fg]))] := by
  refine f_body hl0 (by decide +kernel) (by decide) rfl (Nat.le_of_ble_eq_true rfl) (fun p e s m args below meth c A Q hx hb hml hown hts hK hE hret hthr ls hP hD hS hl => ?_)
  have hl : lv_has ls 1 [(0, .ref q)] := hl
  refine lv_aload_n hx hb dX0_fail_0 rfl (lv_at hl 0 rfl) ?_
  refine va_get (D := D) (ci := 3) (v := .int fg) (C := RX3) (T := TX3) (N := 1) hx hb hts (by decide +kernel) hown hK hP 0 rfl rfl 0 (by decide) (hts (.fieldLink RX0 9 RX0 "figure" "I") (by decide +kernel)) (fun _ h9 => h9) rfl dX0_fail_1 ?_
  refine lv_if_eq (tgt := 17) hx hb dX0_fail_4 (by decide) (fun c4 => ?_) (fun c4 => ?_)
  · exact hret c4 17 s.heap [] ls hP hD hS dX0_fail_17
  · exact hthr c4 7 15 17 19 _ _ s.heap [] ls hP hS hl.1 (fun q9 h9 => va_in_lt hP h9) (hts _ (by decide +kernel)) (hts _ (by decide +kernel)) hE.2.2.2.2.2.1 (hE.words (fun w hw => hts w (gg_X0_fail w hw)) gn_X0_fail) gt_X0_fail dX0_fail_7 dX0_fail_10 dX0_fail_11 dX0_fail_13 dX0_fail_16
set_option maxRecDepth 100000 in
set_option maxHeartbeats 4000000 in
theorem okX0_fail_9 (z e : Nat → Nat) (l : Launch) (hl0 : l.stackTraces = false) (D : va_G) (T : mT3) (q : Nat) (fg : Int32) : fX (fg = 0) "java/lang/IllegalArgumentException" z e l D (cT T) yX0_fail wsX0_fail rmFail [.ref q] [(q, .inr (9, [.int fg]))] := by
  refine f_body hl0 (by decide +kernel) (by decide) rfl (Nat.le_of_ble_eq_true rfl) (fun p e s m args below meth c A Q hx hb hml hown hts hK hE hret hthr ls hP hD hS hl => ?_)
  have hl : lv_has ls 1 [(0, .ref q)] := hl
  refine lv_aload_n hx hb dX0_fail_0 rfl (lv_at hl 0 rfl) ?_
  refine va_get (D := D) (ci := 9) (v := .int fg) (C := RX9) (T := TX9) (N := 1) hx hb hts (by decide +kernel) hown hK hP 0 rfl rfl 0 (by decide) (hts (.fieldLink RX0 9 RX0 "figure" "I") (by decide +kernel)) (fun _ h9 => h9) rfl dX0_fail_1 ?_
  refine lv_if_eq (tgt := 17) hx hb dX0_fail_4 (by decide) (fun c4 => ?_) (fun c4 => ?_)
  · exact hret c4 17 s.heap [] ls hP hD hS dX0_fail_17
  · exact hthr c4 7 15 17 19 _ _ s.heap [] ls hP hS hl.1 (fun q9 h9 => va_in_lt hP h9) (hts _ (by decide +kernel)) (hts _ (by decide +kernel)) hE.2.2.2.2.2.1 (hE.words (fun w hw => hts w (gg_X0_fail w hw)) gn_X0_fail) gt_X0_fail dX0_fail_7 dX0_fail_10 dX0_fail_11 dX0_fail_13 dX0_fail_16
set_option maxRecDepth 100000 in
theorem gt_X6_fail : ∀ w ∈ Cond.classLink RX6 17 "java/lang/IllegalStateException" :: Cond.initialized "java/lang/IllegalStateException" :: eL RX6 21 "java/lang/IllegalStateException", vx_ot w = true := fun w hw => List.all_eq_true.mp (show (Cond.classLink RX6 17 "java/lang/IllegalStateException" :: Cond.initialized "java/lang/IllegalStateException" :: eL RX6 21 "java/lang/IllegalStateException").all vx_ot = true by decide +kernel) w hw
theorem gn_X6_fail : ∀ w ∈ eN RX6 21 "java/lang/IllegalStateException", w ∈ xEw := fun w hw => by
  unfold xEw
  simp only [List.mem_append]
  exact Or.inr (Or.inr (Or.inr (Or.inl hw)))
theorem gg_X6_fail : ∀ w ∈ (eL RX6 21 "java/lang/IllegalStateException").filter goodWord, w ∈ wsX6_fail := fun w hw => List.mem_cons_of_mem _ (List.mem_append_right _ hw)
set_option maxRecDepth 100000 in
set_option maxHeartbeats 4000000 in
theorem okX6_fail_6 (z e : Nat → Nat) (l : Launch) (hl0 : l.stackTraces = false) (D : va_G) (T : mT3) (q : Nat) (fg : Int32) : fX (fg = 0) "java/lang/IllegalStateException" z e l D (cT T) yX6_fail wsX6_fail rmFail [.ref q] [(q, .inr (6, [.int fg]))] := by
  refine f_body hl0 (by decide +kernel) (by decide) rfl (Nat.le_of_ble_eq_true rfl) (fun p e s m args below meth c A Q hx hb hml hown hts hK hE hret hthr ls hP hD hS hl => ?_)
  have hl : lv_has ls 1 [(0, .ref q)] := hl
  refine lv_aload_n hx hb dX6_fail_0 rfl (lv_at hl 0 rfl) ?_
  refine va_get (D := D) (ci := 6) (v := .int fg) (C := RX6) (T := TX6) (N := 1) hx hb hts (by decide +kernel) hown hK hP 0 rfl rfl 0 (by decide) (hts (.fieldLink RX6 7 RX6 "figure" "I") (by decide +kernel)) (fun x9 h9 => u_same (hts (.sameField RX6 RX0 "figure" "I") (by decide +kernel)) x9 h9) rfl dX6_fail_1 ?_
  refine lv_if_eq (tgt := 17) hx hb dX6_fail_4 (by decide) (fun c4 => ?_) (fun c4 => ?_)
  · exact hret c4 17 s.heap [] ls hP hD hS dX6_fail_17
  · exact hthr c4 7 17 19 21 _ _ s.heap [] ls hP hS hl.1 (fun q9 h9 => va_in_lt hP h9) (hts _ (by decide +kernel)) (hts _ (by decide +kernel)) hE.2.2.2.2.2.2.1 (hE.words (fun w hw => hts w (gg_X6_fail w hw)) gn_X6_fail) gt_X6_fail dX6_fail_7 dX6_fail_10 dX6_fail_11 dX6_fail_13 dX6_fail_16
set_option maxRecDepth 100000 in
set_option maxHeartbeats 4000000 in
theorem okX6_fail_4 (z e : Nat → Nat) (l : Launch) (hl0 : l.stackTraces = false) (D : va_G) (T : mT3) (q : Nat) (fg : Int32) : fX (fg = 0) "java/lang/IllegalStateException" z e l D (cT T) yX6_fail wsX6_fail rmFail [.ref q] [(q, .inr (4, [.int fg]))] := by
  refine f_body hl0 (by decide +kernel) (by decide) rfl (Nat.le_of_ble_eq_true rfl) (fun p e s m args below meth c A Q hx hb hml hown hts hK hE hret hthr ls hP hD hS hl => ?_)
  have hl : lv_has ls 1 [(0, .ref q)] := hl
  refine lv_aload_n hx hb dX6_fail_0 rfl (lv_at hl 0 rfl) ?_
  refine va_get (D := D) (ci := 4) (v := .int fg) (C := RX4) (T := TX4) (N := 1) hx hb hts (by decide +kernel) hown hK hP 0 rfl rfl 0 (by decide) (hts (.fieldLink RX6 7 RX6 "figure" "I") (by decide +kernel)) (fun x9 h9 => u_same (hts (.sameField RX6 RX0 "figure" "I") (by decide +kernel)) x9 h9) rfl dX6_fail_1 ?_
  refine lv_if_eq (tgt := 17) hx hb dX6_fail_4 (by decide) (fun c4 => ?_) (fun c4 => ?_)
  · exact hret c4 17 s.heap [] ls hP hD hS dX6_fail_17
  · exact hthr c4 7 17 19 21 _ _ s.heap [] ls hP hS hl.1 (fun q9 h9 => va_in_lt hP h9) (hts _ (by decide +kernel)) (hts _ (by decide +kernel)) hE.2.2.2.2.2.2.1 (hE.words (fun w hw => hts w (gg_X6_fail w hw)) gn_X6_fail) gt_X6_fail dX6_fail_7 dX6_fail_10 dX6_fail_11 dX6_fail_13 dX6_fail_16
set_option maxRecDepth 100000 in
theorem gt_X5_fail : ∀ w ∈ Cond.classLink RX5 20 "java/lang/UnsupportedOperationException" :: Cond.initialized "java/lang/UnsupportedOperationException" :: eL RX5 24 "java/lang/UnsupportedOperationException", vx_ot w = true := fun w hw => List.all_eq_true.mp (show (Cond.classLink RX5 20 "java/lang/UnsupportedOperationException" :: Cond.initialized "java/lang/UnsupportedOperationException" :: eL RX5 24 "java/lang/UnsupportedOperationException").all vx_ot = true by decide +kernel) w hw
theorem gn_X5_fail : ∀ w ∈ eN RX5 24 "java/lang/UnsupportedOperationException", w ∈ xEw := fun w hw => by
  unfold xEw
  simp only [List.mem_append]
  exact Or.inr (Or.inr (Or.inr (Or.inr hw)))
theorem gg_X5_fail : ∀ w ∈ (eL RX5 24 "java/lang/UnsupportedOperationException").filter goodWord, w ∈ wsX5_fail := fun w hw => List.mem_cons_of_mem _ (List.mem_append_right _ hw)
set_option maxRecDepth 100000 in
set_option maxHeartbeats 4000000 in
theorem okX5_fail_5 (z e : Nat → Nat) (l : Launch) (hl0 : l.stackTraces = false) (D : va_G) (T : mT3) (q : Nat) (fg : Int32) : fX (fg = 0) "java/lang/UnsupportedOperationException" z e l D (cT T) yX5_fail wsX5_fail rmFail [.ref q] [(q, .inr (5, [.int fg]))] := by
  refine f_body hl0 (by decide +kernel) (by decide) rfl (Nat.le_of_ble_eq_true rfl) (fun p e s m args below meth c A Q hx hb hml hown hts hK hE hret hthr ls hP hD hS hl => ?_)
  have hl : lv_has ls 1 [(0, .ref q)] := hl
  refine lv_aload_n hx hb dX5_fail_0 rfl (lv_at hl 0 rfl) ?_
  refine va_get (D := D) (ci := 5) (v := .int fg) (C := RX5) (T := TX5) (N := 1) hx hb hts (by decide +kernel) hown hK hP 0 rfl rfl 0 (by decide) (hts (.fieldLink RX5 14 RX5 "figure" "I") (by decide +kernel)) (fun x9 h9 => u_same (hts (.sameField RX5 RX0 "figure" "I") (by decide +kernel)) x9 h9) rfl dX5_fail_1 ?_
  refine lv_if_eq (tgt := 17) hx hb dX5_fail_4 (by decide) (fun c4 => ?_) (fun c4 => ?_)
  · exact hret c4 17 s.heap [] ls hP hD hS dX5_fail_17
  · exact hthr c4 7 20 22 24 _ _ s.heap [] ls hP hS hl.1 (fun q9 h9 => va_in_lt hP h9) (hts _ (by decide +kernel)) (hts _ (by decide +kernel)) hE.2.2.2.2.2.2.2.1 (hE.words (fun w hw => hts w (gg_X5_fail w hw)) gn_X5_fail) gt_X5_fail dX5_fail_7 dX5_fail_10 dX5_fail_11 dX5_fail_13 dX5_fail_16
set_option maxRecDepth 100000 in
set_option maxHeartbeats 4000000 in
theorem okX2_fail_2 (z e : Nat → Nat) (l : Launch) (hl0 : l.stackTraces = false) (D : va_G) (T : mT3) (q : Nat) (fg : Int32) : fX True "java/lang/IllegalArgumentException" z e l D (cT T) yX2_fail wsX2_fail rmFail [.ref q] [(q, .inr (2, [.int fg]))] := by
  refine f_body hl0 (by decide +kernel) (by decide) rfl (Nat.le_of_ble_eq_true rfl) (fun p e s m args below meth c A Q hx hb hml hown hts hK hE hret hthr ls hP hD hS hl => ?_)
  exact hret trivial 0 s.heap [] ls hP hD hS dX2_fail_0
