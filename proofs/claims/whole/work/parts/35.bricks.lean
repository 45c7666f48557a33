section SUPER
variable {p : Program} {l : Launch} {e : Env} {R : Room} {s : State} {m : MethodId} {args : Array Value} {below : List Frame} {meth : Method} {c : Code} {H : Heap} {locs : List Loc} {cells slots : Nat} {Q : State → Prop}
variable {pc : Nat} {ls : Array Slot} {rest st0 : List Value} {A : Nat → Prop} {cc bytes : ByteArray} {nL maxL index n : Nat} {ret : Option FieldType} {Ts ws : List Cond} {rm : Room} {own : String} {y : MethodName} {D : va_G} {tys0 : List (ClassId × FieldType)} {w0 w1 wd wr wd' : va_W} {As : List Value} {b : Nat} {z : Nat → Nat}
theorem h_su {r : Int32} {ci q0 : Nat} {fs : List Value} {qc : vw_C} {cC : ClassId} (hat : ClassAt s qc.1 cC) (hx : p.tables.exec = Jvm.exec) (hb : c.code = cc) (hml : c.maxLocals = nL) (hown : s.vm.findClass own = some m.cls) (hts : ∀ w ∈ Ts, w.before args s = true)
    (hM : hCi z l D tys0 y ws rm (.ref b :: As) w0 r w1) (cw : va_CS R s args own index y bytes maxL ret ws rm rm.cells rm.slots n)
    (hK0 : va_K D vwCl tys0 s) (hA : ∀ q : Nat, s.heap.size ≤ q → A q) (hX : xS z A s s.heap) (hP : va_P D vwCl wd H) (hD : va_D A wd) (hS : va_S A s.heap H locs) (hp : wd.Perm (w0 ++ wr)) (hp' : (w1 ++ wr).Perm wd') (hc : vwCl[ci]? = some qc) (he : w0[q0]? = some (b, .inr (ci, fs)))
    (hn : As.length = n) (hsize : ls.size = nL) (hstack : st0 = As.reverse ++ .ref b :: rest) (hW : (rest.map fun v => v.category).sum ≤ 8) (hdg : decode cc pc = .ok (.invokespecial index, 3)) (hf : cells + rm.cells ≤ R.cells ∧ slots + rm.slots ≤ R.slots)
    (kk : ∀ (H1 : Heap) (locs1 : List Loc), va_P D vwCl wd' H1 → va_D A wd' → va_S A s.heap H1 locs1 → W p l e R s m args below meth c H1 locs1 (cells + rm.cells) (slots + rm.slots) Q (F0 m (pc + 3) ls (.int r :: rest))) :
    W p l e R s m args below meth c H locs cells slots Q (F0 m pc ls st0) := by
  have hF := h_freeS (w0 := w0) hD hS hA (fun q hq => hp.mem_iff.mpr (List.mem_append_left _ hq))
  have hP0 : va_P D vwCl w0 H := hP.mono (fun q hq => hp.mem_iff.mpr (List.mem_append_left _ hq))
  have hD0 := hD.sub2 hp
  refine va_calli (va_runSU (C := qc.1) hat (As := As) (rest := rest) ⟨hx, hb, hml, hown, hts⟩ (hM H.size) cw ⟨h_blind, va_recv hK0 hP0 hc he, h_pre hX hS hK0 hP0 hD0 hF⟩ rfl hn hsize hstack (lv_room hW) hdg hf) hS (fun q _ h => hF q h) hF (fun r' u t H1 locs1 ht hvm hw hB hz1 hk1 hS1 => ?_)
  obtain ⟨hP1, -, hD1⟩ := hB
  rw [ht] at hP1
  subst hw
  obtain ⟨h1, h2⟩ := h_after hP hD hp hp' hF hk1 hP1 hD1
  exact kk H1 locs1 h1 h2 hS1
/-- a constructor's call -/
theorem h_in (hx : p.tables.exec = Jvm.exec) (hb : c.code = cc) (hml : c.maxLocals = nL) (hown : s.vm.findClass own = some m.cls) (hts : ∀ w ∈ Ts, w.before args s = true)
    (hM : hCv z l D tys0 y ws rm (.ref b :: As) w0 w1) (cw : CallB R s args own index y bytes maxL none ws rm rm.cells rm.slots n ∧ y.name = "<init>" ∧ (Cond.instanceMethod y).before args s = true)
    (hK0 : va_K D vwCl tys0 s) (hA : ∀ q : Nat, s.heap.size ≤ q → A q) (hX : xS z A s s.heap) (hP : va_P D vwCl wd H) (hD : va_D A wd) (hS : va_S A s.heap H locs) (hp : wd.Perm (w0 ++ wr)) (hp' : (w1 ++ wr).Perm wd')
    (hn : As.length = n) (hsize : ls.size = nL) (hstack : st0 = As.reverse ++ .ref b :: rest) (hW : (rest.map fun v => v.category).sum ≤ 8) (hdg : decode cc pc = .ok (.invokespecial index, 3)) (hf : cells + rm.cells ≤ R.cells ∧ slots + rm.slots ≤ R.slots)
    (kk : ∀ (H1 : Heap) (locs1 : List Loc), va_P D vwCl wd' H1 → va_D A wd' → va_S A s.heap H1 locs1 → W p l e R s m args below meth c H1 locs1 (cells + rm.cells) (slots + rm.slots) Q (F0 m (pc + 3) ls rest)) :
    W p l e R s m args below meth c H locs cells slots Q (F0 m pc ls st0) := by
  have hF := h_freeS (w0 := w0) hD hS hA (fun q hq => hp.mem_iff.mpr (List.mem_append_left _ hq))
  have hP0 : va_P D vwCl w0 H := hP.mono (fun q hq => hp.mem_iff.mpr (List.mem_append_left _ hq))
  have hD0 := hD.sub2 hp
  refine va_callv (va_runI (As := As) (rest := rest) ⟨hx, hb, hml, hown, hts⟩ (hM H.size) cw ⟨h_blind, h_pre hX hS hK0 hP0 hD0 hF⟩ rfl hn hsize hstack (lv_room hW) hdg hf) hS (fun q _ h => hF q h) hF (fun u t H1 locs1 ht hvm hw hB hz1 hk1 hS1 => ?_)
  obtain ⟨hP1, -, hD1⟩ := hB
  rw [ht] at hP1
  obtain ⟨h1, h2⟩ := h_after hP hD hp hp' hF hk1 hP1 hD1
  exact kk H1 locs1 h1 h2 hS1
end SUPER
theorem dX0_bears_0 : decode cX0_bears 0 = .ok (.bipush 9, 2) := by decide +kernel
theorem dX0_bears_2 : decode cX0_bears 2 = .ok (.ireturn, 1) := by decide +kernel
abbrev rmX0_bears : Room := { frames := 0, cells := 0, slots := 0, locals := 0 }
theorem hdX0_bears : yX0_bears.cls = RX0 ∧ yX0_bears.cls ≠ "java/lang/invoke/MethodHandle" ∧ yX0_bears.cls ≠ "java/lang/invoke/VarHandle" ∧ (parseMethodDescriptor yX0_bears.desc).map (fun d => d.parameters.length) = some 0 := by decide +kernel
def X_X0_bears (fg : Int32) : Int32 := (9 : Int32)
set_option maxRecDepth 100000 in
set_option maxHeartbeats 4000000 in
theorem okX0_bears_0 (z : Nat → Nat) (l : Launch) (D : va_G) (T : mT3) (q : Nat) (fg : Int32) : hCi z l D (cT T) yX0_bears wsX0_bears rmX0_bears [.ref q] [(q, .inr (0, [.int fg]))] (X_X0_bears fg) [(q, .inr (0, [.int fg]))] := by
  refine h_body_i (plainFor_of_name (by decide)) rfl (Nat.le_of_ble_eq_true rfl) (fun p e s m args below meth c A Q hx hb hml hown hts hK hA hX hret ls hP hD hS hl => ?_)
  have hl : lv_has ls 1 [(0, .ref q)] := hl
  obtain ⟨H, hH⟩ : ∃ H, H = s.heap := ⟨_, rfl⟩
  obtain ⟨locs, hlocs⟩ : ∃ z : List Loc, z = [] := ⟨_, rfl⟩
  have hS : va_S A s.heap H locs := by rw [hH, hlocs]; exact hS
  have hP : va_P D vwCl [(q, .inr (0, [.int fg]))] H := by rw [hH]; exact hP
  suffices h9 : W p l e rmX0_bears s m args below meth c H locs 0 0 Q (F0 m 0 ls []) by rw [hH, hlocs] at h9; exact h9
  clear hH hlocs
  refine lv_bipush (v := (9 : Int32)) hx hb dX0_bears_0 (by decide) ?_
  exact hret 2 H locs ls hP hD hS rfl dX0_bears_2
set_option maxRecDepth 100000 in
set_option maxHeartbeats 4000000 in
theorem okX0_bears_1 (z : Nat → Nat) (l : Launch) (D : va_G) (T : mT3) (q : Nat) (fg : Int32) : hCi z l D (cT T) yX0_bears wsX0_bears rmX0_bears [.ref q] [(q, .inr (1, [.int fg]))] (X_X0_bears fg) [(q, .inr (1, [.int fg]))] := by
  refine h_body_i (plainFor_of_name (by decide)) rfl (Nat.le_of_ble_eq_true rfl) (fun p e s m args below meth c A Q hx hb hml hown hts hK hA hX hret ls hP hD hS hl => ?_)
  have hl : lv_has ls 1 [(0, .ref q)] := hl
  obtain ⟨H, hH⟩ : ∃ H, H = s.heap := ⟨_, rfl⟩
  obtain ⟨locs, hlocs⟩ : ∃ z : List Loc, z = [] := ⟨_, rfl⟩
  have hS : va_S A s.heap H locs := by rw [hH, hlocs]; exact hS
  have hP : va_P D vwCl [(q, .inr (1, [.int fg]))] H := by rw [hH]; exact hP
  suffices h9 : W p l e rmX0_bears s m args below meth c H locs 0 0 Q (F0 m 0 ls []) by rw [hH, hlocs] at h9; exact h9
  clear hH hlocs
  refine lv_bipush (v := (9 : Int32)) hx hb dX0_bears_0 (by decide) ?_
  exact hret 2 H locs ls hP hD hS rfl dX0_bears_2
set_option maxRecDepth 100000 in
set_option maxHeartbeats 4000000 in
theorem okX0_bears_3 (z : Nat → Nat) (l : Launch) (D : va_G) (T : mT3) (q : Nat) (fg : Int32) : hCi z l D (cT T) yX0_bears wsX0_bears rmX0_bears [.ref q] [(q, .inr (3, [.int fg]))] (X_X0_bears fg) [(q, .inr (3, [.int fg]))] := by
  refine h_body_i (plainFor_of_name (by decide)) rfl (Nat.le_of_ble_eq_true rfl) (fun p e s m args below meth c A Q hx hb hml hown hts hK hA hX hret ls hP hD hS hl => ?_)
  have hl : lv_has ls 1 [(0, .ref q)] := hl
  obtain ⟨H, hH⟩ : ∃ H, H = s.heap := ⟨_, rfl⟩
  obtain ⟨locs, hlocs⟩ : ∃ z : List Loc, z = [] := ⟨_, rfl⟩
  have hS : va_S A s.heap H locs := by rw [hH, hlocs]; exact hS
  have hP : va_P D vwCl [(q, .inr (3, [.int fg]))] H := by rw [hH]; exact hP
  suffices h9 : W p l e rmX0_bears s m args below meth c H locs 0 0 Q (F0 m 0 ls []) by rw [hH, hlocs] at h9; exact h9
  clear hH hlocs
  refine lv_bipush (v := (9 : Int32)) hx hb dX0_bears_0 (by decide) ?_
  exact hret 2 H locs ls hP hD hS rfl dX0_bears_2
set_option maxRecDepth 100000 in
set_option maxHeartbeats 4000000 in
theorem okX0_bears_9 (z : Nat → Nat) (l : Launch) (D : va_G) (T : mT3) (q : Nat) (fg : Int32) : hCi z l D (cT T) yX0_bears wsX0_bears rmX0_bears [.ref q] [(q, .inr (9, [.int fg]))] (X_X0_bears fg) [(q, .inr (9, [.int fg]))] := by
  refine h_body_i (plainFor_of_name (by decide)) rfl (Nat.le_of_ble_eq_true rfl) (fun p e s m args below meth c A Q hx hb hml hown hts hK hA hX hret ls hP hD hS hl => ?_)
  have hl : lv_has ls 1 [(0, .ref q)] := hl
  obtain ⟨H, hH⟩ : ∃ H, H = s.heap := ⟨_, rfl⟩
  obtain ⟨locs, hlocs⟩ : ∃ z : List Loc, z = [] := ⟨_, rfl⟩
  have hS : va_S A s.heap H locs := by rw [hH, hlocs]; exact hS
  have hP : va_P D vwCl [(q, .inr (9, [.int fg]))] H := by rw [hH]; exact hP
  suffices h9 : W p l e rmX0_bears s m args below meth c H locs 0 0 Q (F0 m 0 ls []) by rw [hH, hlocs] at h9; exact h9
  clear hH hlocs
  refine lv_bipush (v := (9 : Int32)) hx hb dX0_bears_0 (by decide) ?_
  exact hret 2 H locs ls hP hD hS rfl dX0_bears_2
theorem dX0_burns_0 : decode cX0_burns 0 = .ok (.bipush (-4), 2) := by decide +kernel
theorem dX0_burns_2 : decode cX0_burns 2 = .ok (.ireturn, 1) := by decide +kernel
abbrev rmX0_burns : Room := { frames := 0, cells := 0, slots := 0, locals := 0 }
theorem hdX0_burns : yX0_burns.cls = RX0 ∧ yX0_burns.cls ≠ "java/lang/invoke/MethodHandle" ∧ yX0_burns.cls ≠ "java/lang/invoke/VarHandle" ∧ (parseMethodDescriptor yX0_burns.desc).map (fun d => d.parameters.length) = some 0 := by decide +kernel
def X_X0_burns (fg : Int32) : Int32 := (-4 : Int32)
set_option maxRecDepth 100000 in
set_option maxHeartbeats 4000000 in
theorem okX0_burns_0 (z : Nat → Nat) (l : Launch) (D : va_G) (T : mT3) (q : Nat) (fg : Int32) : hCi z l D (cT T) yX0_burns wsX0_burns rmX0_burns [.ref q] [(q, .inr (0, [.int fg]))] (X_X0_burns fg) [(q, .inr (0, [.int fg]))] := by
  refine h_body_i (plainFor_of_name (by decide)) rfl (Nat.le_of_ble_eq_true rfl) (fun p e s m args below meth c A Q hx hb hml hown hts hK hA hX hret ls hP hD hS hl => ?_)
  have hl : lv_has ls 1 [(0, .ref q)] := hl
  obtain ⟨H, hH⟩ : ∃ H, H = s.heap := ⟨_, rfl⟩
  obtain ⟨locs, hlocs⟩ : ∃ z : List Loc, z = [] := ⟨_, rfl⟩
  have hS : va_S A s.heap H locs := by rw [hH, hlocs]; exact hS
  have hP : va_P D vwCl [(q, .inr (0, [.int fg]))] H := by rw [hH]; exact hP
  suffices h9 : W p l e rmX0_burns s m args below meth c H locs 0 0 Q (F0 m 0 ls []) by rw [hH, hlocs] at h9; exact h9
  clear hH hlocs
  refine lv_bipush (v := (-4 : Int32)) hx hb dX0_burns_0 (by decide) ?_
  exact hret 2 H locs ls hP hD hS rfl dX0_burns_2
set_option maxRecDepth 100000 in
set_option maxHeartbeats 4000000 in
theorem okX0_burns_1 (z : Nat → Nat) (l : Launch) (D : va_G) (T : mT3) (q : Nat) (fg : Int32) : hCi z l D (cT T) yX0_burns wsX0_burns rmX0_burns [.ref q] [(q, .inr (1, [.int fg]))] (X_X0_burns fg) [(q, .inr (1, [.int fg]))] := by
  refine h_body_i (plainFor_of_name (by decide)) rfl (Nat.le_of_ble_eq_true rfl) (fun p e s m args below meth c A Q hx hb hml hown hts hK hA hX hret ls hP hD hS hl => ?_)
  have hl : lv_has ls 1 [(0, .ref q)] := hl
  obtain ⟨H, hH⟩ : ∃ H, H = s.heap := ⟨_, rfl⟩
  obtain ⟨locs, hlocs⟩ : ∃ z : List Loc, z = [] := ⟨_, rfl⟩
  have hS : va_S A s.heap H locs := by rw [hH, hlocs]; exact hS
  have hP : va_P D vwCl [(q, .inr (1, [.int fg]))] H := by rw [hH]; exact hP
  suffices h9 : W p l e rmX0_burns s m args below meth c H locs 0 0 Q (F0 m 0 ls []) by rw [hH, hlocs] at h9; exact h9
  clear hH hlocs
  refine lv_bipush (v := (-4 : Int32)) hx hb dX0_burns_0 (by decide) ?_
  exact hret 2 H locs ls hP hD hS rfl dX0_burns_2
set_option maxRecDepth 100000 in
set_option maxHeartbeats 4000000 in
theorem okX0_burns_2 (z : Nat → Nat) (l : Launch) (D : va_G) (T : mT3) (q : Nat) (fg : Int32) : hCi z l D (cT T) yX0_burns wsX0_burns rmX0_burns [.ref q] [(q, .inr (2, [.int fg]))] (X_X0_burns fg) [(q, .inr (2, [.int fg]))] := by
  refine h_body_i (plainFor_of_name (by decide)) rfl (Nat.le_of_ble_eq_true rfl) (fun p e s m args below meth c A Q hx hb hml hown hts hK hA hX hret ls hP hD hS hl => ?_)
  have hl : lv_has ls 1 [(0, .ref q)] := hl
  obtain ⟨H, hH⟩ : ∃ H, H = s.heap := ⟨_, rfl⟩
  obtain ⟨locs, hlocs⟩ : ∃ z : List Loc, z = [] := ⟨_, rfl⟩
  have hS : va_S A s.heap H locs := by rw [hH, hlocs]; exact hS
  have hP : va_P D vwCl [(q, .inr (2, [.int fg]))] H := by rw [hH]; exact hP
  suffices h9 : W p l e rmX0_burns s m args below meth c H locs 0 0 Q (F0 m 0 ls []) by rw [hH, hlocs] at h9; exact h9
  clear hH hlocs
  refine lv_bipush (v := (-4 : Int32)) hx hb dX0_burns_0 (by decide) ?_
  exact hret 2 H locs ls hP hD hS rfl dX0_burns_2
set_option maxRecDepth 100000 in
set_option maxHeartbeats 4000000 in
theorem okX0_burns_3 (z : Nat → Nat) (l : Launch) (D : va_G) (T : mT3) (q : Nat) (fg : Int32) : hCi z l D (cT T) yX0_burns wsX0_burns rmX0_burns [.ref q] [(q, .inr (3, [.int fg]))] (X_X0_burns fg) [(q, .inr (3, [.int fg]))] := by
  refine h_body_i (plainFor_of_name (by decide)) rfl (Nat.le_of_ble_eq_true rfl) (fun p e s m args below meth c A Q hx hb hml hown hts hK hA hX hret ls hP hD hS hl => ?_)
  have hl : lv_has ls 1 [(0, .ref q)] := hl
  obtain ⟨H, hH⟩ : ∃ H, H = s.heap := ⟨_, rfl⟩
  obtain ⟨locs, hlocs⟩ : ∃ z : List Loc, z = [] := ⟨_, rfl⟩
  have hS : va_S A s.heap H locs := by rw [hH, hlocs]; exact hS
  have hP : va_P D vwCl [(q, .inr (3, [.int fg]))] H := by rw [hH]; exact hP
  suffices h9 : W p l e rmX0_burns s m args below meth c H locs 0 0 Q (F0 m 0 ls []) by rw [hH, hlocs] at h9; exact h9
  clear hH hlocs
  refine lv_bipush (v := (-4 : Int32)) hx hb dX0_burns_0 (by decide) ?_
  exact hret 2 H locs ls hP hD hS rfl dX0_burns_2
set_option maxRecDepth 100000 in
set_option maxHeartbeats 4000000 in
theorem okX0_burns_9 (z : Nat → Nat) (l : Launch) (D : va_G) (T : mT3) (q : Nat) (fg : Int32) : hCi z l D (cT T) yX0_burns wsX0_burns rmX0_burns [.ref q] [(q, .inr (9, [.int fg]))] (X_X0_burns fg) [(q, .inr (9, [.int fg]))] := by
  refine h_body_i (plainFor_of_name (by decide)) rfl (Nat.le_of_ble_eq_true rfl) (fun p e s m args below meth c A Q hx hb hml hown hts hK hA hX hret ls hP hD hS hl => ?_)
  have hl : lv_has ls 1 [(0, .ref q)] := hl
  obtain ⟨H, hH⟩ : ∃ H, H = s.heap := ⟨_, rfl⟩
  obtain ⟨locs, hlocs⟩ : ∃ z : List Loc, z = [] := ⟨_, rfl⟩
  have hS : va_S A s.heap H locs := by rw [hH, hlocs]; exact hS
  have hP : va_P D vwCl [(q, .inr (9, [.int fg]))] H := by rw [hH]; exact hP
  suffices h9 : W p l e rmX0_burns s m args below meth c H locs 0 0 Q (F0 m 0 ls []) by rw [hH, hlocs] at h9; exact h9
  clear hH hlocs
  refine lv_bipush (v := (-4 : Int32)) hx hb dX0_burns_0 (by decide) ?_
  exact hret 2 H locs ls hP hD hS rfl dX0_burns_2
theorem dX0_init_0 : decode cX0_init 0 = .ok (.aload_n 0, 1) := by decide +kernel
theorem dX0_init_1 : decode cX0_init 1 = .ok (.invokespecial 3, 3) := by decide +kernel
theorem dX0_init_4 : decode cX0_init 4 = .ok (.aload_n 0, 1) := by decide +kernel
theorem dX0_init_5 : decode cX0_init 5 = .ok (.iload_n 1, 1) := by decide +kernel
theorem dX0_init_6 : decode cX0_init 6 = .ok (.putfield 9, 3) := by decide +kernel
theorem dX0_init_9 : decode cX0_init 9 = .ok (.return_, 1) := by decide +kernel
abbrev rmX0_init : Room := { frames := 1, cells := 0, slots := 0, locals := 12 }
theorem hdX0_init : yX0_init.cls = RX0 ∧ yX0_init.cls ≠ "java/lang/invoke/MethodHandle" ∧ yX0_init.cls ≠ "java/lang/invoke/VarHandle" ∧ (parseMethodDescriptor yX0_init.desc).map (fun d => d.parameters.length) = some 1 := by decide +kernel
set_option maxRecDepth 100000 in
set_option maxHeartbeats 4000000 in
theorem okX0_init_0 (z : Nat → Nat) (l : Launch) (D : va_G) (T : mT3) (q : Nat) (fg v1 : Int32) : hCv z l D (cT T) yX0_init wsX0_init rmX0_init [.ref q, .int v1] [(q, .inr (0, [.int fg]))] [(q, .inr (0, [.int v1]))] := by
  refine h_body_v (plainFor_of_name (by decide)) rfl (Nat.le_of_ble_eq_true rfl) (fun p e s m args below meth c A Q hx hb hml hown hts hK hA hX hin hret ls hP hD hS hl => ?_)
  have hin : meth.name = "<init>" := hin
  have hl : lv_has ls 2 [(0, .ref q), (1, .int v1)] := hl
  obtain ⟨H, hH⟩ : ∃ H, H = s.heap := ⟨_, rfl⟩
  obtain ⟨locs, hlocs⟩ : ∃ z : List Loc, z = [] := ⟨_, rfl⟩
  have hS : va_S A s.heap H locs := by rw [hH, hlocs]; exact hS
  have hP : va_P D vwCl [(q, .inr (0, [.int fg]))] H := by rw [hH]; exact hP
  suffices h9 : W p l e rmX0_init s m args below meth c H locs 0 0 Q (F0 m 0 ls []) by rw [hH, hlocs] at h9; exact h9
  clear hH hlocs
  refine lv_aload_n hx hb dX0_init_0 rfl (lv_at hl 0 rfl) ?_
  refine W.objInit hx hb hown (hts (.methodLink RX0 3 objectInit) (by decide +kernel)) (hts (.instanceMethod objectInit) (by decide +kernel)) (hts (.code objectInit ⟨#[0xb1]⟩ 1 none) (by decide +kernel)) rfl (by rw [hml]; exact hl.1) rfl dX0_init_1 (Nat.le_of_ble_eq_true rfl) (Nat.le_of_ble_eq_true rfl) ?_
  refine W.eq (g2 := F0 m 4 ls []) rfl ?_
  refine lv_aload_n hx hb dX0_init_4 rfl (lv_at hl 0 rfl) ?_
  refine lv_iload_n hx hb dX0_init_5 rfl (lv_at hl 1 rfl) ?_
  refine va_putF (D := D) (ci := 0) (v := .int v1) (ty := .int) (C := RX0) (T := TX0) (N := 1) hx hb hts (by decide +kernel) tyX0 tyX0_ok nmX0 hown hK hP hD hS 0 rfl rfl 0 (by decide) (hts (.fieldLink RX0 9 RX0 "figure" "I") (by decide +kernel)) (fun _ h9 => h9) rfl hin rfl (by decide +kernel) rfl rfl (Nat.le_of_ble_eq_true rfl) dX0_init_6 (fun H locs hP hD hS => ?_)
  exact hret 9 H locs ls hP hD hS dX0_init_9
set_option maxRecDepth 100000 in
set_option maxHeartbeats 4000000 in
theorem okX0_init_1 (z : Nat → Nat) (l : Launch) (D : va_G) (T : mT3) (q : Nat) (fg v1 : Int32) : hCv z l D (cT T) yX0_init wsX0_init rmX0_init [.ref q, .int v1] [(q, .inr (1, [.int fg]))] [(q, .inr (1, [.int v1]))] := by
  refine h_body_v (plainFor_of_name (by decide)) rfl (Nat.le_of_ble_eq_true rfl) (fun p e s m args below meth c A Q hx hb hml hown hts hK hA hX hin hret ls hP hD hS hl => ?_)
  have hin : meth.name = "<init>" := hin
  have hl : lv_has ls 2 [(0, .ref q), (1, .int v1)] := hl
  obtain ⟨H, hH⟩ : ∃ H, H = s.heap := ⟨_, rfl⟩
  obtain ⟨locs, hlocs⟩ : ∃ z : List Loc, z = [] := ⟨_, rfl⟩
  have hS : va_S A s.heap H locs := by rw [hH, hlocs]; exact hS
  have hP : va_P D vwCl [(q, .inr (1, [.int fg]))] H := by rw [hH]; exact hP
  suffices h9 : W p l e rmX0_init s m args below meth c H locs 0 0 Q (F0 m 0 ls []) by rw [hH, hlocs] at h9; exact h9
  clear hH hlocs
  refine lv_aload_n hx hb dX0_init_0 rfl (lv_at hl 0 rfl) ?_
  refine W.objInit hx hb hown (hts (.methodLink RX0 3 objectInit) (by decide +kernel)) (hts (.instanceMethod objectInit) (by decide +kernel)) (hts (.code objectInit ⟨#[0xb1]⟩ 1 none) (by decide +kernel)) rfl (by rw [hml]; exact hl.1) rfl dX0_init_1 (Nat.le_of_ble_eq_true rfl) (Nat.le_of_ble_eq_true rfl) ?_
  refine W.eq (g2 := F0 m 4 ls []) rfl ?_
  refine lv_aload_n hx hb dX0_init_4 rfl (lv_at hl 0 rfl) ?_
  refine lv_iload_n hx hb dX0_init_5 rfl (lv_at hl 1 rfl) ?_
  refine va_putF (D := D) (ci := 1) (v := .int v1) (ty := .int) (C := RX1) (T := TX1) (N := 1) hx hb hts (by decide +kernel) tyX1 tyX1_ok nmX1 hown hK hP hD hS 0 rfl rfl 0 (by decide) (hts (.fieldLink RX0 9 RX0 "figure" "I") (by decide +kernel)) (fun _ h9 => h9) rfl hin rfl (by decide +kernel) rfl rfl (Nat.le_of_ble_eq_true rfl) dX0_init_6 (fun H locs hP hD hS => ?_)
  exact hret 9 H locs ls hP hD hS dX0_init_9
set_option maxRecDepth 100000 in
set_option maxHeartbeats 4000000 in
theorem okX0_init_2 (z : Nat → Nat) (l : Launch) (D : va_G) (T : mT3) (q : Nat) (fg v1 : Int32) : hCv z l D (cT T) yX0_init wsX0_init rmX0_init [.ref q, .int v1] [(q, .inr (2, [.int fg]))] [(q, .inr (2, [.int v1]))] := by
  refine h_body_v (plainFor_of_name (by decide)) rfl (Nat.le_of_ble_eq_true rfl) (fun p e s m args below meth c A Q hx hb hml hown hts hK hA hX hin hret ls hP hD hS hl => ?_)
  have hin : meth.name = "<init>" := hin
  have hl : lv_has ls 2 [(0, .ref q), (1, .int v1)] := hl
  obtain ⟨H, hH⟩ : ∃ H, H = s.heap := ⟨_, rfl⟩
  obtain ⟨locs, hlocs⟩ : ∃ z : List Loc, z = [] := ⟨_, rfl⟩
  have hS : va_S A s.heap H locs := by rw [hH, hlocs]; exact hS
  have hP : va_P D vwCl [(q, .inr (2, [.int fg]))] H := by rw [hH]; exact hP
  suffices h9 : W p l e rmX0_init s m args below meth c H locs 0 0 Q (F0 m 0 ls []) by rw [hH, hlocs] at h9; exact h9
  clear hH hlocs
  refine lv_aload_n hx hb dX0_init_0 rfl (lv_at hl 0 rfl) ?_
  refine W.objInit hx hb hown (hts (.methodLink RX0 3 objectInit) (by decide +kernel)) (hts (.instanceMethod objectInit) (by decide +kernel)) (hts (.code objectInit ⟨#[0xb1]⟩ 1 none) (by decide +kernel)) rfl (by rw [hml]; exact hl.1) rfl dX0_init_1 (Nat.le_of_ble_eq_true rfl) (Nat.le_of_ble_eq_true rfl) ?_
  refine W.eq (g2 := F0 m 4 ls []) rfl ?_
  refine lv_aload_n hx hb dX0_init_4 rfl (lv_at hl 0 rfl) ?_
  refine lv_iload_n hx hb dX0_init_5 rfl (lv_at hl 1 rfl) ?_
  refine va_putF (D := D) (ci := 2) (v := .int v1) (ty := .int) (C := RX2) (T := TX2) (N := 1) hx hb hts (by decide +kernel) tyX2 tyX2_ok nmX2 hown hK hP hD hS 0 rfl rfl 0 (by decide) (hts (.fieldLink RX0 9 RX0 "figure" "I") (by decide +kernel)) (fun _ h9 => h9) rfl hin rfl (by decide +kernel) rfl rfl (Nat.le_of_ble_eq_true rfl) dX0_init_6 (fun H locs hP hD hS => ?_)
  exact hret 9 H locs ls hP hD hS dX0_init_9
set_option maxRecDepth 100000 in
set_option maxHeartbeats 4000000 in
theorem okX0_init_3 (z : Nat → Nat) (l : Launch) (D : va_G) (T : mT3) (q : Nat) (fg v1 : Int32) : hCv z l D (cT T) yX0_init wsX0_init rmX0_init [.ref q, .int v1] [(q, .inr (3, [.int fg]))] [(q, .inr (3, [.int v1]))] := by
  refine h_body_v (plainFor_of_name (by decide)) rfl (Nat.le_of_ble_eq_true rfl) (fun p e s m args below meth c A Q hx hb hml hown hts hK hA hX hin hret ls hP hD hS hl => ?_)
  have hin : meth.name = "<init>" := hin
  have hl : lv_has ls 2 [(0, .ref q), (1, .int v1)] := hl
  obtain ⟨H, hH⟩ : ∃ H, H = s.heap := ⟨_, rfl⟩
  obtain ⟨locs, hlocs⟩ : ∃ z : List Loc, z = [] := ⟨_, rfl⟩
  have hS : va_S A s.heap H locs := by rw [hH, hlocs]; exact hS
  have hP : va_P D vwCl [(q, .inr (3, [.int fg]))] H := by rw [hH]; exact hP
  suffices h9 : W p l e rmX0_init s m args below meth c H locs 0 0 Q (F0 m 0 ls []) by rw [hH, hlocs] at h9; exact h9
  clear hH hlocs
  refine lv_aload_n hx hb dX0_init_0 rfl (lv_at hl 0 rfl) ?_
  refine W.objInit hx hb hown (hts (.methodLink RX0 3 objectInit) (by decide +kernel)) (hts (.instanceMethod objectInit) (by decide +kernel)) (hts (.code objectInit ⟨#[0xb1]⟩ 1 none) (by decide +kernel)) rfl (by rw [hml]; exact hl.1) rfl dX0_init_1 (Nat.le_of_ble_eq_true rfl) (Nat.le_of_ble_eq_true rfl) ?_
  refine W.eq (g2 := F0 m 4 ls []) rfl ?_
  refine lv_aload_n hx hb dX0_init_4 rfl (lv_at hl 0 rfl) ?_
  refine lv_iload_n hx hb dX0_init_5 rfl (lv_at hl 1 rfl) ?_
  refine va_putF (D := D) (ci := 3) (v := .int v1) (ty := .int) (C := RX3) (T := TX3) (N := 1) hx hb hts (by decide +kernel) tyX3 tyX3_ok nmX3 hown hK hP hD hS 0 rfl rfl 0 (by decide) (hts (.fieldLink RX0 9 RX0 "figure" "I") (by decide +kernel)) (fun _ h9 => h9) rfl hin rfl (by decide +kernel) rfl rfl (Nat.le_of_ble_eq_true rfl) dX0_init_6 (fun H locs hP hD hS => ?_)
  exact hret 9 H locs ls hP hD hS dX0_init_9
set_option maxRecDepth 100000 in
set_option maxHeartbeats 4000000 in
theorem okX0_init_4 (z : Nat → Nat) (l : Launch) (D : va_G) (T : mT3) (q : Nat) (fg v1 : Int32) : hCv z l D (cT T) yX0_init wsX0_init rmX0_init [.ref q, .int v1] [(q, .inr (4, [.int fg]))] [(q, .inr (4, [.int v1]))] := by
  refine h_body_v (plainFor_of_name (by decide)) rfl (Nat.le_of_ble_eq_true rfl) (fun p e s m args below meth c A Q hx hb hml hown hts hK hA hX hin hret ls hP hD hS hl => ?_)
  have hin : meth.name = "<init>" := hin
  have hl : lv_has ls 2 [(0, .ref q), (1, .int v1)] := hl
  obtain ⟨H, hH⟩ : ∃ H, H = s.heap := ⟨_, rfl⟩
  obtain ⟨locs, hlocs⟩ : ∃ z : List Loc, z = [] := ⟨_, rfl⟩
  have hS : va_S A s.heap H locs := by rw [hH, hlocs]; exact hS
  have hP : va_P D vwCl [(q, .inr (4, [.int fg]))] H := by rw [hH]; exact hP
  suffices h9 : W p l e rmX0_init s m args below meth c H locs 0 0 Q (F0 m 0 ls []) by rw [hH, hlocs] at h9; exact h9
  clear hH hlocs
  refine lv_aload_n hx hb dX0_init_0 rfl (lv_at hl 0 rfl) ?_
  refine W.objInit hx hb hown (hts (.methodLink RX0 3 objectInit) (by decide +kernel)) (hts (.instanceMethod objectInit) (by decide +kernel)) (hts (.code objectInit ⟨#[0xb1]⟩ 1 none) (by decide +kernel)) rfl (by rw [hml]; exact hl.1) rfl dX0_init_1 (Nat.le_of_ble_eq_true rfl) (Nat.le_of_ble_eq_true rfl) ?_
  refine W.eq (g2 := F0 m 4 ls []) rfl ?_
  refine lv_aload_n hx hb dX0_init_4 rfl (lv_at hl 0 rfl) ?_
  refine lv_iload_n hx hb dX0_init_5 rfl (lv_at hl 1 rfl) ?_
  refine va_putF (D := D) (ci := 4) (v := .int v1) (ty := .int) (C := RX4) (T := TX4) (N := 1) hx hb hts (by decide +kernel) tyX4 tyX4_ok nmX4 hown hK hP hD hS 0 rfl rfl 0 (by decide) (hts (.fieldLink RX0 9 RX0 "figure" "I") (by decide +kernel)) (fun _ h9 => h9) rfl hin rfl (by decide +kernel) rfl rfl (Nat.le_of_ble_eq_true rfl) dX0_init_6 (fun H locs hP hD hS => ?_)
  exact hret 9 H locs ls hP hD hS dX0_init_9
set_option maxRecDepth 100000 in
set_option maxHeartbeats 4000000 in
theorem okX0_init_5 (z : Nat → Nat) (l : Launch) (D : va_G) (T : mT3) (q : Nat) (fg v1 : Int32) : hCv z l D (cT T) yX0_init wsX0_init rmX0_init [.ref q, .int v1] [(q, .inr (5, [.int fg]))] [(q, .inr (5, [.int v1]))] := by
  refine h_body_v (plainFor_of_name (by decide)) rfl (Nat.le_of_ble_eq_true rfl) (fun p e s m args below meth c A Q hx hb hml hown hts hK hA hX hin hret ls hP hD hS hl => ?_)
  have hin : meth.name = "<init>" := hin
  have hl : lv_has ls 2 [(0, .ref q), (1, .int v1)] := hl
  obtain ⟨H, hH⟩ : ∃ H, H = s.heap := ⟨_, rfl⟩
  obtain ⟨locs, hlocs⟩ : ∃ z : List Loc, z = [] := ⟨_, rfl⟩
  have hS : va_S A s.heap H locs := by rw [hH, hlocs]; exact hS
  have hP : va_P D vwCl [(q, .inr (5, [.int fg]))] H := by rw [hH]; exact hP
  suffices h9 : W p l e rmX0_init s m args below meth c H locs 0 0 Q (F0 m 0 ls []) by rw [hH, hlocs] at h9; exact h9
  clear hH hlocs
  refine lv_aload_n hx hb dX0_init_0 rfl (lv_at hl 0 rfl) ?_
  refine W.objInit hx hb hown (hts (.methodLink RX0 3 objectInit) (by decide +kernel)) (hts (.instanceMethod objectInit) (by decide +kernel)) (hts (.code objectInit ⟨#[0xb1]⟩ 1 none) (by decide +kernel)) rfl (by rw [hml]; exact hl.1) rfl dX0_init_1 (Nat.le_of_ble_eq_true rfl) (Nat.le_of_ble_eq_true rfl) ?_
  refine W.eq (g2 := F0 m 4 ls []) rfl ?_
  refine lv_aload_n hx hb dX0_init_4 rfl (lv_at hl 0 rfl) ?_
  refine lv_iload_n hx hb dX0_init_5 rfl (lv_at hl 1 rfl) ?_
  refine va_putF (D := D) (ci := 5) (v := .int v1) (ty := .int) (C := RX5) (T := TX5) (N := 1) hx hb hts (by decide +kernel) tyX5 tyX5_ok nmX5 hown hK hP hD hS 0 rfl rfl 0 (by decide) (hts (.fieldLink RX0 9 RX0 "figure" "I") (by decide +kernel)) (fun _ h9 => h9) rfl hin rfl (by decide +kernel) rfl rfl (Nat.le_of_ble_eq_true rfl) dX0_init_6 (fun H locs hP hD hS => ?_)
  exact hret 9 H locs ls hP hD hS dX0_init_9
set_option maxRecDepth 100000 in
set_option maxHeartbeats 4000000 in
theorem okX0_init_6 (z : Nat → Nat) (l : Launch) (D : va_G) (T : mT3) (q : Nat) (fg v1 : Int32) : hCv z l D (cT T) yX0_init wsX0_init rmX0_init [.ref q, .int v1] [(q, .inr (6, [.int fg]))] [(q, .inr (6, [.int v1]))] := by
  refine h_body_v (plainFor_of_name (by decide)) rfl (Nat.le_of_ble_eq_true rfl) (fun p e s m args below meth c A Q hx hb hml hown hts hK hA hX hin hret ls hP hD hS hl => ?_)
  have hin : meth.name = "<init>" := hin
  have hl : lv_has ls 2 [(0, .ref q), (1, .int v1)] := hl
  obtain ⟨H, hH⟩ : ∃ H, H = s.heap := ⟨_, rfl⟩
  obtain ⟨locs, hlocs⟩ : ∃ z : List Loc, z = [] := ⟨_, rfl⟩
  have hS : va_S A s.heap H locs := by rw [hH, hlocs]; exact hS
  have hP : va_P D vwCl [(q, .inr (6, [.int fg]))] H := by rw [hH]; exact hP
  suffices h9 : W p l e rmX0_init s m args below meth c H locs 0 0 Q (F0 m 0 ls []) by rw [hH, hlocs] at h9; exact h9
  clear hH hlocs
  refine lv_aload_n hx hb dX0_init_0 rfl (lv_at hl 0 rfl) ?_
  refine W.objInit hx hb hown (hts (.methodLink RX0 3 objectInit) (by decide +kernel)) (hts (.instanceMethod objectInit) (by decide +kernel)) (hts (.code objectInit ⟨#[0xb1]⟩ 1 none) (by decide +kernel)) rfl (by rw [hml]; exact hl.1) rfl dX0_init_1 (Nat.le_of_ble_eq_true rfl) (Nat.le_of_ble_eq_true rfl) ?_
  refine W.eq (g2 := F0 m 4 ls []) rfl ?_
  refine lv_aload_n hx hb dX0_init_4 rfl (lv_at hl 0 rfl) ?_
  refine lv_iload_n hx hb dX0_init_5 rfl (lv_at hl 1 rfl) ?_
  refine va_putF (D := D) (ci := 6) (v := .int v1) (ty := .int) (C := RX6) (T := TX6) (N := 1) hx hb hts (by decide +kernel) tyX6 tyX6_ok nmX6 hown hK hP hD hS 0 rfl rfl 0 (by decide) (hts (.fieldLink RX0 9 RX0 "figure" "I") (by decide +kernel)) (fun _ h9 => h9) rfl hin rfl (by decide +kernel) rfl rfl (Nat.le_of_ble_eq_true rfl) dX0_init_6 (fun H locs hP hD hS => ?_)
  exact hret 9 H locs ls hP hD hS dX0_init_9
set_option maxRecDepth 100000 in
set_option maxHeartbeats 4000000 in
theorem okX0_init_9 (z : Nat → Nat) (l : Launch) (D : va_G) (T : mT3) (q : Nat) (fg v1 : Int32) : hCv z l D (cT T) yX0_init wsX0_init rmX0_init [.ref q, .int v1] [(q, .inr (9, [.int fg]))] [(q, .inr (9, [.int v1]))] := by
  refine h_body_v (plainFor_of_name (by decide)) rfl (Nat.le_of_ble_eq_true rfl) (fun p e s m args below meth c A Q hx hb hml hown hts hK hA hX hin hret ls hP hD hS hl => ?_)
  have hin : meth.name = "<init>" := hin
  have hl : lv_has ls 2 [(0, .ref q), (1, .int v1)] := hl
  obtain ⟨H, hH⟩ : ∃ H, H = s.heap := ⟨_, rfl⟩
  obtain ⟨locs, hlocs⟩ : ∃ z : List Loc, z = [] := ⟨_, rfl⟩
  have hS : va_S A s.heap H locs := by rw [hH, hlocs]; exact hS
  have hP : va_P D vwCl [(q, .inr (9, [.int fg]))] H := by rw [hH]; exact hP
  suffices h9 : W p l e rmX0_init s m args below meth c H locs 0 0 Q (F0 m 0 ls []) by rw [hH, hlocs] at h9; exact h9
  clear hH hlocs
  refine lv_aload_n hx hb dX0_init_0 rfl (lv_at hl 0 rfl) ?_
  refine W.objInit hx hb hown (hts (.methodLink RX0 3 objectInit) (by decide +kernel)) (hts (.instanceMethod objectInit) (by decide +kernel)) (hts (.code objectInit ⟨#[0xb1]⟩ 1 none) (by decide +kernel)) rfl (by rw [hml]; exact hl.1) rfl dX0_init_1 (Nat.le_of_ble_eq_true rfl) (Nat.le_of_ble_eq_true rfl) ?_
  refine W.eq (g2 := F0 m 4 ls []) rfl ?_
  refine lv_aload_n hx hb dX0_init_4 rfl (lv_at hl 0 rfl) ?_
  refine lv_iload_n hx hb dX0_init_5 rfl (lv_at hl 1 rfl) ?_
  refine va_putF (D := D) (ci := 9) (v := .int v1) (ty := .int) (C := RX9) (T := TX9) (N := 1) hx hb hts (by decide +kernel) tyX9 tyX9_ok nmX9 hown hK hP hD hS 0 rfl rfl 0 (by decide) (hts (.fieldLink RX0 9 RX0 "figure" "I") (by decide +kernel)) (fun _ h9 => h9) rfl hin rfl (by decide +kernel) rfl rfl (Nat.le_of_ble_eq_true rfl) dX0_init_6 (fun H locs hP hD hS => ?_)
  exact hret 9 H locs ls hP hD hS dX0_init_9
theorem dX0_kind_0 : decode cX0_kind 0 = .ok (.iconst 0, 1) := by decide +kernel
theorem dX0_kind_1 : decode cX0_kind 1 = .ok (.ireturn, 1) := by decide +kernel
abbrev rmX0_kind : Room := { frames := 0, cells := 0, slots := 0, locals := 0 }
theorem hdX0_kind : yX0_kind.cls = RX0 ∧ yX0_kind.cls ≠ "java/lang/invoke/MethodHandle" ∧ yX0_kind.cls ≠ "java/lang/invoke/VarHandle" ∧ (parseMethodDescriptor yX0_kind.desc).map (fun d => d.parameters.length) = some 0 := by decide +kernel
def X_X0_kind (fg : Int32) : Int32 := (0 : Int32)
set_option maxRecDepth 100000 in
set_option maxHeartbeats 4000000 in
theorem okX0_kind_0 (z : Nat → Nat) (l : Launch) (D : va_G) (T : mT3) (q : Nat) (fg : Int32) : hCi z l D (cT T) yX0_kind wsX0_kind rmX0_kind [.ref q] [(q, .inr (0, [.int fg]))] (X_X0_kind fg) [(q, .inr (0, [.int fg]))] := by
  refine h_body_i (plainFor_of_name (by decide)) rfl (Nat.le_of_ble_eq_true rfl) (fun p e s m args below meth c A Q hx hb hml hown hts hK hA hX hret ls hP hD hS hl => ?_)
  have hl : lv_has ls 1 [(0, .ref q)] := hl
  obtain ⟨H, hH⟩ : ∃ H, H = s.heap := ⟨_, rfl⟩
  obtain ⟨locs, hlocs⟩ : ∃ z : List Loc, z = [] := ⟨_, rfl⟩
  have hS : va_S A s.heap H locs := by rw [hH, hlocs]; exact hS
  have hP : va_P D vwCl [(q, .inr (0, [.int fg]))] H := by rw [hH]; exact hP
  suffices h9 : W p l e rmX0_kind s m args below meth c H locs 0 0 Q (F0 m 0 ls []) by rw [hH, hlocs] at h9; exact h9
  clear hH hlocs
  refine lv_iconst (v := (0 : Int32)) hx hb dX0_kind_0 (by decide) ?_
  exact hret 1 H locs ls hP hD hS rfl dX0_kind_1
theorem dX0_price_0 : decode cX0_price 0 = .ok (.iconst 1, 1) := by decide +kernel
theorem dX0_price_1 : decode cX0_price 1 = .ok (.ireturn, 1) := by decide +kernel
abbrev rmX0_price : Room := { frames := 0, cells := 0, slots := 0, locals := 0 }
theorem hdX0_price : yX0_price.cls = RX0 ∧ yX0_price.cls ≠ "java/lang/invoke/MethodHandle" ∧ yX0_price.cls ≠ "java/lang/invoke/VarHandle" ∧ (parseMethodDescriptor yX0_price.desc).map (fun d => d.parameters.length) = some 0 := by decide +kernel
def X_X0_price (fg : Int32) : Int32 := (1 : Int32)
set_option maxRecDepth 100000 in
set_option maxHeartbeats 4000000 in
theorem okX0_price_0 (z : Nat → Nat) (l : Launch) (D : va_G) (T : mT3) (q : Nat) (fg : Int32) : hCi z l D (cT T) yX0_price wsX0_price rmX0_price [.ref q] [(q, .inr (0, [.int fg]))] (X_X0_price fg) [(q, .inr (0, [.int fg]))] := by
  refine h_body_i (plainFor_of_name (by decide)) rfl (Nat.le_of_ble_eq_true rfl) (fun p e s m args below meth c A Q hx hb hml hown hts hK hA hX hret ls hP hD hS hl => ?_)
  have hl : lv_has ls 1 [(0, .ref q)] := hl
  obtain ⟨H, hH⟩ : ∃ H, H = s.heap := ⟨_, rfl⟩
  obtain ⟨locs, hlocs⟩ : ∃ z : List Loc, z = [] := ⟨_, rfl⟩
  have hS : va_S A s.heap H locs := by rw [hH, hlocs]; exact hS
  have hP : va_P D vwCl [(q, .inr (0, [.int fg]))] H := by rw [hH]; exact hP
  suffices h9 : W p l e rmX0_price s m args below meth c H locs 0 0 Q (F0 m 0 ls []) by rw [hH, hlocs] at h9; exact h9
  clear hH hlocs
  refine lv_iconst (v := (1 : Int32)) hx hb dX0_price_0 (by decide) ?_
  exact hret 1 H locs ls hP hD hS rfl dX0_price_1
set_option maxRecDepth 100000 in
set_option maxHeartbeats 4000000 in
theorem okX0_price_1 (z : Nat → Nat) (l : Launch) (D : va_G) (T : mT3) (q : Nat) (fg : Int32) : hCi z l D (cT T) yX0_price wsX0_price rmX0_price [.ref q] [(q, .inr (1, [.int fg]))] (X_X0_price fg) [(q, .inr (1, [.int fg]))] := by
  refine h_body_i (plainFor_of_name (by decide)) rfl (Nat.le_of_ble_eq_true rfl) (fun p e s m args below meth c A Q hx hb hml hown hts hK hA hX hret ls hP hD hS hl => ?_)
  have hl : lv_has ls 1 [(0, .ref q)] := hl
  obtain ⟨H, hH⟩ : ∃ H, H = s.heap := ⟨_, rfl⟩
  obtain ⟨locs, hlocs⟩ : ∃ z : List Loc, z = [] := ⟨_, rfl⟩
  have hS : va_S A s.heap H locs := by rw [hH, hlocs]; exact hS
  have hP : va_P D vwCl [(q, .inr (1, [.int fg]))] H := by rw [hH]; exact hP
  suffices h9 : W p l e rmX0_price s m args below meth c H locs 0 0 Q (F0 m 0 ls []) by rw [hH, hlocs] at h9; exact h9
  clear hH hlocs
  refine lv_iconst (v := (1 : Int32)) hx hb dX0_price_0 (by decide) ?_
  exact hret 1 H locs ls hP hD hS rfl dX0_price_1
set_option maxRecDepth 100000 in
set_option maxHeartbeats 4000000 in
theorem okX0_price_2 (z : Nat → Nat) (l : Launch) (D : va_G) (T : mT3) (q : Nat) (fg : Int32) : hCi z l D (cT T) yX0_price wsX0_price rmX0_price [.ref q] [(q, .inr (2, [.int fg]))] (X_X0_price fg) [(q, .inr (2, [.int fg]))] := by
  refine h_body_i (plainFor_of_name (by decide)) rfl (Nat.le_of_ble_eq_true rfl) (fun p e s m args below meth c A Q hx hb hml hown hts hK hA hX hret ls hP hD hS hl => ?_)
  have hl : lv_has ls 1 [(0, .ref q)] := hl
  obtain ⟨H, hH⟩ : ∃ H, H = s.heap := ⟨_, rfl⟩
  obtain ⟨locs, hlocs⟩ : ∃ z : List Loc, z = [] := ⟨_, rfl⟩
  have hS : va_S A s.heap H locs := by rw [hH, hlocs]; exact hS
  have hP : va_P D vwCl [(q, .inr (2, [.int fg]))] H := by rw [hH]; exact hP
  suffices h9 : W p l e rmX0_price s m args below meth c H locs 0 0 Q (F0 m 0 ls []) by rw [hH, hlocs] at h9; exact h9
  clear hH hlocs
  refine lv_iconst (v := (1 : Int32)) hx hb dX0_price_0 (by decide) ?_
  exact hret 1 H locs ls hP hD hS rfl dX0_price_1
set_option maxRecDepth 100000 in
set_option maxHeartbeats 4000000 in
theorem okX0_price_3 (z : Nat → Nat) (l : Launch) (D : va_G) (T : mT3) (q : Nat) (fg : Int32) : hCi z l D (cT T) yX0_price wsX0_price rmX0_price [.ref q] [(q, .inr (3, [.int fg]))] (X_X0_price fg) [(q, .inr (3, [.int fg]))] := by
  refine h_body_i (plainFor_of_name (by decide)) rfl (Nat.le_of_ble_eq_true rfl) (fun p e s m args below meth c A Q hx hb hml hown hts hK hA hX hret ls hP hD hS hl => ?_)
  have hl : lv_has ls 1 [(0, .ref q)] := hl
  obtain ⟨H, hH⟩ : ∃ H, H = s.heap := ⟨_, rfl⟩
  obtain ⟨locs, hlocs⟩ : ∃ z : List Loc, z = [] := ⟨_, rfl⟩
  have hS : va_S A s.heap H locs := by rw [hH, hlocs]; exact hS
  have hP : va_P D vwCl [(q, .inr (3, [.int fg]))] H := by rw [hH]; exact hP
  suffices h9 : W p l e rmX0_price s m args below meth c H locs 0 0 Q (F0 m 0 ls []) by rw [hH, hlocs] at h9; exact h9
  clear hH hlocs
  refine lv_iconst (v := (1 : Int32)) hx hb dX0_price_0 (by decide) ?_
  exact hret 1 H locs ls hP hD hS rfl dX0_price_1
set_option maxRecDepth 100000 in
set_option maxHeartbeats 4000000 in
theorem okX0_price_4 (z : Nat → Nat) (l : Launch) (D : va_G) (T : mT3) (q : Nat) (fg : Int32) : hCi z l D (cT T) yX0_price wsX0_price rmX0_price [.ref q] [(q, .inr (4, [.int fg]))] (X_X0_price fg) [(q, .inr (4, [.int fg]))] := by
  refine h_body_i (plainFor_of_name (by decide)) rfl (Nat.le_of_ble_eq_true rfl) (fun p e s m args below meth c A Q hx hb hml hown hts hK hA hX hret ls hP hD hS hl => ?_)
  have hl : lv_has ls 1 [(0, .ref q)] := hl
  obtain ⟨H, hH⟩ : ∃ H, H = s.heap := ⟨_, rfl⟩
  obtain ⟨locs, hlocs⟩ : ∃ z : List Loc, z = [] := ⟨_, rfl⟩
  have hS : va_S A s.heap H locs := by rw [hH, hlocs]; exact hS
  have hP : va_P D vwCl [(q, .inr (4, [.int fg]))] H := by rw [hH]; exact hP
  suffices h9 : W p l e rmX0_price s m args below meth c H locs 0 0 Q (F0 m 0 ls []) by rw [hH, hlocs] at h9; exact h9
  clear hH hlocs
  refine lv_iconst (v := (1 : Int32)) hx hb dX0_price_0 (by decide) ?_
  exact hret 1 H locs ls hP hD hS rfl dX0_price_1
set_option maxRecDepth 100000 in
set_option maxHeartbeats 4000000 in
theorem okX0_price_5 (z : Nat → Nat) (l : Launch) (D : va_G) (T : mT3) (q : Nat) (fg : Int32) : hCi z l D (cT T) yX0_price wsX0_price rmX0_price [.ref q] [(q, .inr (5, [.int fg]))] (X_X0_price fg) [(q, .inr (5, [.int fg]))] := by
  refine h_body_i (plainFor_of_name (by decide)) rfl (Nat.le_of_ble_eq_true rfl) (fun p e s m args below meth c A Q hx hb hml hown hts hK hA hX hret ls hP hD hS hl => ?_)
  have hl : lv_has ls 1 [(0, .ref q)] := hl
  obtain ⟨H, hH⟩ : ∃ H, H = s.heap := ⟨_, rfl⟩
  obtain ⟨locs, hlocs⟩ : ∃ z : List Loc, z = [] := ⟨_, rfl⟩
  have hS : va_S A s.heap H locs := by rw [hH, hlocs]; exact hS
  have hP : va_P D vwCl [(q, .inr (5, [.int fg]))] H := by rw [hH]; exact hP
  suffices h9 : W p l e rmX0_price s m args below meth c H locs 0 0 Q (F0 m 0 ls []) by rw [hH, hlocs] at h9; exact h9
  clear hH hlocs
  refine lv_iconst (v := (1 : Int32)) hx hb dX0_price_0 (by decide) ?_
  exact hret 1 H locs ls hP hD hS rfl dX0_price_1
set_option maxRecDepth 100000 in
set_option maxHeartbeats 4000000 in
theorem okX0_price_6 (z : Nat → Nat) (l : Launch) (D : va_G) (T : mT3) (q : Nat) (fg : Int32) : hCi z l D (cT T) yX0_price wsX0_price rmX0_price [.ref q] [(q, .inr (6, [.int fg]))] (X_X0_price fg) [(q, .inr (6, [.int fg]))] := by
  refine h_body_i (plainFor_of_name (by decide)) rfl (Nat.le_of_ble_eq_true rfl) (fun p e s m args below meth c A Q hx hb hml hown hts hK hA hX hret ls hP hD hS hl => ?_)
  have hl : lv_has ls 1 [(0, .ref q)] := hl
  obtain ⟨H, hH⟩ : ∃ H, H = s.heap := ⟨_, rfl⟩
  obtain ⟨locs, hlocs⟩ : ∃ z : List Loc, z = [] := ⟨_, rfl⟩
  have hS : va_S A s.heap H locs := by rw [hH, hlocs]; exact hS
  have hP : va_P D vwCl [(q, .inr (6, [.int fg]))] H := by rw [hH]; exact hP
  suffices h9 : W p l e rmX0_price s m args below meth c H locs 0 0 Q (F0 m 0 ls []) by rw [hH, hlocs] at h9; exact h9
  clear hH hlocs
  refine lv_iconst (v := (1 : Int32)) hx hb dX0_price_0 (by decide) ?_
  exact hret 1 H locs ls hP hD hS rfl dX0_price_1
set_option maxRecDepth 100000 in
set_option maxHeartbeats 4000000 in
theorem okX0_price_9 (z : Nat → Nat) (l : Launch) (D : va_G) (T : mT3) (q : Nat) (fg : Int32) : hCi z l D (cT T) yX0_price wsX0_price rmX0_price [.ref q] [(q, .inr (9, [.int fg]))] (X_X0_price fg) [(q, .inr (9, [.int fg]))] := by
  refine h_body_i (plainFor_of_name (by decide)) rfl (Nat.le_of_ble_eq_true rfl) (fun p e s m args below meth c A Q hx hb hml hown hts hK hA hX hret ls hP hD hS hl => ?_)
  have hl : lv_has ls 1 [(0, .ref q)] := hl
  obtain ⟨H, hH⟩ : ∃ H, H = s.heap := ⟨_, rfl⟩
  obtain ⟨locs, hlocs⟩ : ∃ z : List Loc, z = [] := ⟨_, rfl⟩
  have hS : va_S A s.heap H locs := by rw [hH, hlocs]; exact hS
  have hP : va_P D vwCl [(q, .inr (9, [.int fg]))] H := by rw [hH]; exact hP
  suffices h9 : W p l e rmX0_price s m args below meth c H locs 0 0 Q (F0 m 0 ls []) by rw [hH, hlocs] at h9; exact h9
  clear hH hlocs
  refine lv_iconst (v := (1 : Int32)) hx hb dX0_price_0 (by decide) ?_
  exact hret 1 H locs ls hP hD hS rfl dX0_price_1
set_option maxRecDepth 20000 in
theorem ggX1_bears_X0_bears : GoodIn wsX1_bears wsX0_bears := goodIn_r _ [6] (by decide +kernel) (by decide +kernel)
set_option maxRecDepth 20000 in
theorem gX1_bears_X0_bears_s7 : GoodIn wsX1_bears (va_wsSU RX1 7 yX0_bears wsX0_bears) := goodIn_app (goodIn_of _ (by decide +kernel)) ggX1_bears_X0_bears
theorem dX1_bears_0 : decode cX1_bears 0 = .ok (.aload_n 0, 1) := by decide +kernel
theorem dX1_bears_1 : decode cX1_bears 1 = .ok (.invokespecial 7, 3) := by decide +kernel
theorem dX1_bears_4 : decode cX1_bears 4 = .ok (.iconst 2, 1) := by decide +kernel
theorem dX1_bears_5 : decode cX1_bears 5 = .ok (.idiv, 1) := by decide +kernel
theorem dX1_bears_6 : decode cX1_bears 6 = .ok (.ireturn, 1) := by decide +kernel
abbrev rmX1_bears : Room := { frames := 1, cells := 0, slots := 0, locals := 20 }
theorem hdX1_bears : yX1_bears.cls = RX1 ∧ yX1_bears.cls ≠ "java/lang/invoke/MethodHandle" ∧ yX1_bears.cls ≠ "java/lang/invoke/VarHandle" ∧ (parseMethodDescriptor yX1_bears.desc).map (fun d => d.parameters.length) = some 0 := by decide +kernel
def X_X1_bears (fg : Int32) : Int32 := ((X_X0_bears fg) / (2 : Int32))
set_option maxRecDepth 100000 in
set_option maxHeartbeats 4000000 in
theorem okX1_bears_1 (z : Nat → Nat) (l : Launch) (D : va_G) (T : mT3) (q : Nat) (fg : Int32) : hCi z l D (cT T) yX1_bears wsX1_bears rmX1_bears [.ref q] [(q, .inr (1, [.int fg]))] (X_X1_bears fg) [(q, .inr (1, [.int fg]))] := by
  refine h_body_i (plainFor_of_name (by decide)) rfl (Nat.le_of_ble_eq_true rfl) (fun p e s m args below meth c A Q hx hb hml hown hts hK hA hX hret ls hP hD hS hl => ?_)
  have hl : lv_has ls 1 [(0, .ref q)] := hl
  obtain ⟨H, hH⟩ : ∃ H, H = s.heap := ⟨_, rfl⟩
  obtain ⟨locs, hlocs⟩ : ∃ z : List Loc, z = [] := ⟨_, rfl⟩
  have hS : va_S A s.heap H locs := by rw [hH, hlocs]; exact hS
  have hP : va_P D vwCl [(q, .inr (1, [.int fg]))] H := by rw [hH]; exact hP
  suffices h9 : W p l e rmX1_bears s m args below meth c H locs 0 0 Q (F0 m 0 ls []) by rw [hH, hlocs] at h9; exact h9
  clear hH hlocs
  refine lv_aload_n hx hb dX1_bears_0 rfl (lv_at hl 0 rfl) ?_
  refine h_su (own := RX1) (As := []) (rest := []) (hK.1 1 _ rfl).2 hx hb hml hown hts (okX0_bears_1 z l D T q fg) (va_cwSU 0 hts gX1_bears_X0_bears_s7 rfl rfl rfl (by decide +kernel) ⟨Nat.le_of_ble_eq_true rfl, Nat.le_of_ble_eq_true rfl⟩) hK hA hX hP hD hS (perm_nil _) (perm_nil2 _) (ci := 1) (q0 := 0) rfl rfl rfl hl.1 rfl (Nat.le_of_ble_eq_true rfl) dX1_bears_1 ⟨Nat.le_of_ble_eq_true rfl, Nat.le_of_ble_eq_true rfl⟩ (fun H locs hP hD hS => ?_)
  refine lv_iconst (v := (2 : Int32)) hx hb dX1_bears_4 (by decide) ?_
  refine lv_idiv hx hb dX1_bears_5 (by decide) ?_
  exact hret 6 H locs ls hP hD hS rfl dX1_bears_6
set_option maxRecDepth 20000 in
theorem ggX1_init_X0_init : GoodIn wsX1_init wsX0_init := goodIn_r _ [4, 5, 6, 7, 8, 9, 10, 11, 12, 13, 14, 15, 16] (by decide +kernel) (by decide +kernel)
set_option maxRecDepth 20000 in
theorem gX1_init_X0_init : GoodIn wsX1_init (wsX0_init) := ggX1_init_X0_init
theorem dX1_init_0 : decode cX1_init 0 = .ok (.aload_n 0, 1) := by decide +kernel
theorem dX1_init_1 : decode cX1_init 1 = .ok (.iload_n 1, 1) := by decide +kernel
theorem dX1_init_2 : decode cX1_init 2 = .ok (.invokespecial 1, 3) := by decide +kernel
theorem dX1_init_5 : decode cX1_init 5 = .ok (.return_, 1) := by decide +kernel
abbrev rmX1_init : Room := { frames := 2, cells := 0, slots := 0, locals := 33 }
theorem hdX1_init : yX1_init.cls = RX1 ∧ yX1_init.cls ≠ "java/lang/invoke/MethodHandle" ∧ yX1_init.cls ≠ "java/lang/invoke/VarHandle" ∧ (parseMethodDescriptor yX1_init.desc).map (fun d => d.parameters.length) = some 1 := by decide +kernel
set_option maxRecDepth 100000 in
set_option maxHeartbeats 4000000 in
theorem okX1_init_1 (z : Nat → Nat) (l : Launch) (D : va_G) (T : mT3) (q : Nat) (fg v1 : Int32) : hCv z l D (cT T) yX1_init wsX1_init rmX1_init [.ref q, .int v1] [(q, .inr (1, [.int fg]))] [(q, .inr (1, [.int v1]))] := by
  refine h_body_v (plainFor_of_name (by decide)) rfl (Nat.le_of_ble_eq_true rfl) (fun p e s m args below meth c A Q hx hb hml hown hts hK hA hX hin hret ls hP hD hS hl => ?_)
  have hin : meth.name = "<init>" := hin
  have hl : lv_has ls 2 [(0, .ref q), (1, .int v1)] := hl
  obtain ⟨H, hH⟩ : ∃ H, H = s.heap := ⟨_, rfl⟩
  obtain ⟨locs, hlocs⟩ : ∃ z : List Loc, z = [] := ⟨_, rfl⟩
  have hS : va_S A s.heap H locs := by rw [hH, hlocs]; exact hS
  have hP : va_P D vwCl [(q, .inr (1, [.int fg]))] H := by rw [hH]; exact hP
  suffices h9 : W p l e rmX1_init s m args below meth c H locs 0 0 Q (F0 m 0 ls []) by rw [hH, hlocs] at h9; exact h9
  clear hH hlocs
  refine lv_aload_n hx hb dX1_init_0 rfl (lv_at hl 0 rfl) ?_
  refine lv_iload_n hx hb dX1_init_1 rfl (lv_at hl 1 rfl) ?_
  refine h_in (own := RX1) (As := [.int v1]) (rest := []) hx hb hml hown hts (okX0_init_1 z l D T q fg v1) (cwI 1 hts gX1_init_X0_init rfl rfl rfl (hts (.initialized RX0) (by decide +kernel)) (hts (.methodLink RX1 1 yX0_init) (by decide +kernel)) (hts (.instanceMethod yX0_init) (by decide +kernel)) rfl (by decide +kernel) ⟨Nat.le_of_ble_eq_true rfl, Nat.le_of_ble_eq_true rfl⟩) hK hA hX hP hD hS (perm_nil _) (perm_nil2 _) rfl hl.1 rfl (Nat.le_of_ble_eq_true rfl) dX1_init_2 ⟨Nat.le_of_ble_eq_true rfl, Nat.le_of_ble_eq_true rfl⟩ (fun H locs hP hD hS => ?_)
  exact hret 5 H locs ls hP hD hS dX1_init_5
theorem dX1_kind_0 : decode cX1_kind 0 = .ok (.iconst 4, 1) := by decide +kernel
theorem dX1_kind_1 : decode cX1_kind 1 = .ok (.ireturn, 1) := by decide +kernel
abbrev rmX1_kind : Room := { frames := 0, cells := 0, slots := 0, locals := 0 }
theorem hdX1_kind : yX1_kind.cls = RX1 ∧ yX1_kind.cls ≠ "java/lang/invoke/MethodHandle" ∧ yX1_kind.cls ≠ "java/lang/invoke/VarHandle" ∧ (parseMethodDescriptor yX1_kind.desc).map (fun d => d.parameters.length) = some 0 := by decide +kernel
def X_X1_kind (fg : Int32) : Int32 := (4 : Int32)
set_option maxRecDepth 100000 in
set_option maxHeartbeats 4000000 in
theorem okX1_kind_1 (z : Nat → Nat) (l : Launch) (D : va_G) (T : mT3) (q : Nat) (fg : Int32) : hCi z l D (cT T) yX1_kind wsX1_kind rmX1_kind [.ref q] [(q, .inr (1, [.int fg]))] (X_X1_kind fg) [(q, .inr (1, [.int fg]))] := by
  refine h_body_i (plainFor_of_name (by decide)) rfl (Nat.le_of_ble_eq_true rfl) (fun p e s m args below meth c A Q hx hb hml hown hts hK hA hX hret ls hP hD hS hl => ?_)
  have hl : lv_has ls 1 [(0, .ref q)] := hl
  obtain ⟨H, hH⟩ : ∃ H, H = s.heap := ⟨_, rfl⟩
  obtain ⟨locs, hlocs⟩ : ∃ z : List Loc, z = [] := ⟨_, rfl⟩
  have hS : va_S A s.heap H locs := by rw [hH, hlocs]; exact hS
  have hP : va_P D vwCl [(q, .inr (1, [.int fg]))] H := by rw [hH]; exact hP
  suffices h9 : W p l e rmX1_kind s m args below meth c H locs 0 0 Q (F0 m 0 ls []) by rw [hH, hlocs] at h9; exact h9
  clear hH hlocs
  refine lv_iconst (v := (4 : Int32)) hx hb dX1_kind_0 (by decide) ?_
  exact hret 1 H locs ls hP hD hS rfl dX1_kind_1
set_option maxRecDepth 20000 in
theorem ggX1_price_X0_price : GoodIn wsX1_price wsX0_price := goodIn_r _ [6] (by decide +kernel) (by decide +kernel)
set_option maxRecDepth 20000 in
theorem gX1_price_X0_price_s11 : GoodIn wsX1_price (va_wsSU RX1 11 yX0_price wsX0_price) := goodIn_app (goodIn_of _ (by decide +kernel)) ggX1_price_X0_price
theorem dX1_price_0 : decode cX1_price 0 = .ok (.aload_n 0, 1) := by decide +kernel
theorem dX1_price_1 : decode cX1_price 1 = .ok (.invokespecial 11, 3) := by decide +kernel
theorem dX1_price_4 : decode cX1_price 4 = .ok (.iconst 2, 1) := by decide +kernel
theorem dX1_price_5 : decode cX1_price 5 = .ok (.imul, 1) := by decide +kernel
theorem dX1_price_6 : decode cX1_price 6 = .ok (.ireturn, 1) := by decide +kernel
abbrev rmX1_price : Room := { frames := 1, cells := 0, slots := 0, locals := 20 }
theorem hdX1_price : yX1_price.cls = RX1 ∧ yX1_price.cls ≠ "java/lang/invoke/MethodHandle" ∧ yX1_price.cls ≠ "java/lang/invoke/VarHandle" ∧ (parseMethodDescriptor yX1_price.desc).map (fun d => d.parameters.length) = some 0 := by decide +kernel
def X_X1_price (fg : Int32) : Int32 := ((X_X0_price fg) * (2 : Int32))
set_option maxRecDepth 100000 in
set_option maxHeartbeats 4000000 in
theorem okX1_price_1 (z : Nat → Nat) (l : Launch) (D : va_G) (T : mT3) (q : Nat) (fg : Int32) : hCi z l D (cT T) yX1_price wsX1_price rmX1_price [.ref q] [(q, .inr (1, [.int fg]))] (X_X1_price fg) [(q, .inr (1, [.int fg]))] := by
  refine h_body_i (plainFor_of_name (by decide)) rfl (Nat.le_of_ble_eq_true rfl) (fun p e s m args below meth c A Q hx hb hml hown hts hK hA hX hret ls hP hD hS hl => ?_)
  have hl : lv_has ls 1 [(0, .ref q)] := hl
  obtain ⟨H, hH⟩ : ∃ H, H = s.heap := ⟨_, rfl⟩
  obtain ⟨locs, hlocs⟩ : ∃ z : List Loc, z = [] := ⟨_, rfl⟩
  have hS : va_S A s.heap H locs := by rw [hH, hlocs]; exact hS
  have hP : va_P D vwCl [(q, .inr (1, [.int fg]))] H := by rw [hH]; exact hP
  suffices h9 : W p l e rmX1_price s m args below meth c H locs 0 0 Q (F0 m 0 ls []) by rw [hH, hlocs] at h9; exact h9
  clear hH hlocs
  refine lv_aload_n hx hb dX1_price_0 rfl (lv_at hl 0 rfl) ?_
  refine h_su (own := RX1) (As := []) (rest := []) (hK.1 1 _ rfl).2 hx hb hml hown hts (okX0_price_1 z l D T q fg) (va_cwSU 0 hts gX1_price_X0_price_s11 rfl rfl rfl (by decide +kernel) ⟨Nat.le_of_ble_eq_true rfl, Nat.le_of_ble_eq_true rfl⟩) hK hA hX hP hD hS (perm_nil _) (perm_nil2 _) (ci := 1) (q0 := 0) rfl rfl rfl hl.1 rfl (Nat.le_of_ble_eq_true rfl) dX1_price_1 ⟨Nat.le_of_ble_eq_true rfl, Nat.le_of_ble_eq_true rfl⟩ (fun H locs hP hD hS => ?_)
  refine lv_iconst (v := (2 : Int32)) hx hb dX1_price_4 (by decide) ?_
  refine lv_imul hx hb dX1_price_5 ?_
  exact hret 6 H locs ls hP hD hS rfl dX1_price_6
theorem dX2_bears_0 : decode cX2_bears 0 = .ok (.iconst 0, 1) := by decide +kernel
theorem dX2_bears_1 : decode cX2_bears 1 = .ok (.ireturn, 1) := by decide +kernel
abbrev rmX2_bears : Room := { frames := 0, cells := 0, slots := 0, locals := 0 }
theorem hdX2_bears : yX2_bears.cls = RX2 ∧ yX2_bears.cls ≠ "java/lang/invoke/MethodHandle" ∧ yX2_bears.cls ≠ "java/lang/invoke/VarHandle" ∧ (parseMethodDescriptor yX2_bears.desc).map (fun d => d.parameters.length) = some 0 := by decide +kernel
def X_X2_bears (fg : Int32) : Int32 := (0 : Int32)
set_option maxRecDepth 100000 in
set_option maxHeartbeats 4000000 in
theorem okX2_bears_2 (z : Nat → Nat) (l : Launch) (D : va_G) (T : mT3) (q : Nat) (fg : Int32) : hCi z l D (cT T) yX2_bears wsX2_bears rmX2_bears [.ref q] [(q, .inr (2, [.int fg]))] (X_X2_bears fg) [(q, .inr (2, [.int fg]))] := by
  refine h_body_i (plainFor_of_name (by decide)) rfl (Nat.le_of_ble_eq_true rfl) (fun p e s m args below meth c A Q hx hb hml hown hts hK hA hX hret ls hP hD hS hl => ?_)
  have hl : lv_has ls 1 [(0, .ref q)] := hl
  obtain ⟨H, hH⟩ : ∃ H, H = s.heap := ⟨_, rfl⟩
  obtain ⟨locs, hlocs⟩ : ∃ z : List Loc, z = [] := ⟨_, rfl⟩
  have hS : va_S A s.heap H locs := by rw [hH, hlocs]; exact hS
  have hP : va_P D vwCl [(q, .inr (2, [.int fg]))] H := by rw [hH]; exact hP
  suffices h9 : W p l e rmX2_bears s m args below meth c H locs 0 0 Q (F0 m 0 ls []) by rw [hH, hlocs] at h9; exact h9
  clear hH hlocs
  refine lv_iconst (v := (0 : Int32)) hx hb dX2_bears_0 (by decide) ?_
  exact hret 1 H locs ls hP hD hS rfl dX2_bears_1
set_option maxRecDepth 20000 in
theorem ggX2_init_X0_init : GoodIn wsX2_init wsX0_init := goodIn_r _ [4, 5, 6, 7, 8, 9, 10, 11, 12, 13, 14, 15, 16] (by decide +kernel) (by decide +kernel)
set_option maxRecDepth 20000 in
theorem gX2_init_X0_init : GoodIn wsX2_init (wsX0_init) := ggX2_init_X0_init
theorem dX2_init_0 : decode cX2_init 0 = .ok (.aload_n 0, 1) := by decide +kernel
theorem dX2_init_1 : decode cX2_init 1 = .ok (.iload_n 1, 1) := by decide +kernel
theorem dX2_init_2 : decode cX2_init 2 = .ok (.invokespecial 3, 3) := by decide +kernel
theorem dX2_init_5 : decode cX2_init 5 = .ok (.return_, 1) := by decide +kernel
abbrev rmX2_init : Room := { frames := 2, cells := 0, slots := 0, locals := 33 }
theorem hdX2_init : yX2_init.cls = RX2 ∧ yX2_init.cls ≠ "java/lang/invoke/MethodHandle" ∧ yX2_init.cls ≠ "java/lang/invoke/VarHandle" ∧ (parseMethodDescriptor yX2_init.desc).map (fun d => d.parameters.length) = some 1 := by decide +kernel
set_option maxRecDepth 100000 in
set_option maxHeartbeats 4000000 in
theorem okX2_init_2 (z : Nat → Nat) (l : Launch) (D : va_G) (T : mT3) (q : Nat) (fg v1 : Int32) : hCv z l D (cT T) yX2_init wsX2_init rmX2_init [.ref q, .int v1] [(q, .inr (2, [.int fg]))] [(q, .inr (2, [.int v1]))] := by
  refine h_body_v (plainFor_of_name (by decide)) rfl (Nat.le_of_ble_eq_true rfl) (fun p e s m args below meth c A Q hx hb hml hown hts hK hA hX hin hret ls hP hD hS hl => ?_)
  have hin : meth.name = "<init>" := hin
  have hl : lv_has ls 2 [(0, .ref q), (1, .int v1)] := hl
  obtain ⟨H, hH⟩ : ∃ H, H = s.heap := ⟨_, rfl⟩
  obtain ⟨locs, hlocs⟩ : ∃ z : List Loc, z = [] := ⟨_, rfl⟩
  have hS : va_S A s.heap H locs := by rw [hH, hlocs]; exact hS
  have hP : va_P D vwCl [(q, .inr (2, [.int fg]))] H := by rw [hH]; exact hP
  suffices h9 : W p l e rmX2_init s m args below meth c H locs 0 0 Q (F0 m 0 ls []) by rw [hH, hlocs] at h9; exact h9
  clear hH hlocs
  refine lv_aload_n hx hb dX2_init_0 rfl (lv_at hl 0 rfl) ?_
  refine lv_iload_n hx hb dX2_init_1 rfl (lv_at hl 1 rfl) ?_
  refine h_in (own := RX2) (As := [.int v1]) (rest := []) hx hb hml hown hts (okX0_init_2 z l D T q fg v1) (cwI 1 hts gX2_init_X0_init rfl rfl rfl (hts (.initialized RX0) (by decide +kernel)) (hts (.methodLink RX2 3 yX0_init) (by decide +kernel)) (hts (.instanceMethod yX0_init) (by decide +kernel)) rfl (by decide +kernel) ⟨Nat.le_of_ble_eq_true rfl, Nat.le_of_ble_eq_true rfl⟩) hK hA hX hP hD hS (perm_nil _) (perm_nil2 _) rfl hl.1 rfl (Nat.le_of_ble_eq_true rfl) dX2_init_2 ⟨Nat.le_of_ble_eq_true rfl, Nat.le_of_ble_eq_true rfl⟩ (fun H locs hP hD hS => ?_)
  exact hret 5 H locs ls hP hD hS dX2_init_5
theorem dX2_kind_0 : decode cX2_kind 0 = .ok (.iconst 1, 1) := by decide +kernel
theorem dX2_kind_1 : decode cX2_kind 1 = .ok (.ireturn, 1) := by decide +kernel
abbrev rmX2_kind : Room := { frames := 0, cells := 0, slots := 0, locals := 0 }
theorem hdX2_kind : yX2_kind.cls = RX2 ∧ yX2_kind.cls ≠ "java/lang/invoke/MethodHandle" ∧ yX2_kind.cls ≠ "java/lang/invoke/VarHandle" ∧ (parseMethodDescriptor yX2_kind.desc).map (fun d => d.parameters.length) = some 0 := by decide +kernel
def X_X2_kind (fg : Int32) : Int32 := (1 : Int32)
set_option maxRecDepth 100000 in
set_option maxHeartbeats 4000000 in
theorem okX2_kind_2 (z : Nat → Nat) (l : Launch) (D : va_G) (T : mT3) (q : Nat) (fg : Int32) : hCi z l D (cT T) yX2_kind wsX2_kind rmX2_kind [.ref q] [(q, .inr (2, [.int fg]))] (X_X2_kind fg) [(q, .inr (2, [.int fg]))] := by
  refine h_body_i (plainFor_of_name (by decide)) rfl (Nat.le_of_ble_eq_true rfl) (fun p e s m args below meth c A Q hx hb hml hown hts hK hA hX hret ls hP hD hS hl => ?_)
  have hl : lv_has ls 1 [(0, .ref q)] := hl
  obtain ⟨H, hH⟩ : ∃ H, H = s.heap := ⟨_, rfl⟩
  obtain ⟨locs, hlocs⟩ : ∃ z : List Loc, z = [] := ⟨_, rfl⟩
  have hS : va_S A s.heap H locs := by rw [hH, hlocs]; exact hS
  have hP : va_P D vwCl [(q, .inr (2, [.int fg]))] H := by rw [hH]; exact hP
  suffices h9 : W p l e rmX2_kind s m args below meth c H locs 0 0 Q (F0 m 0 ls []) by rw [hH, hlocs] at h9; exact h9
  clear hH hlocs
  refine lv_iconst (v := (1 : Int32)) hx hb dX2_kind_0 (by decide) ?_
  exact hret 1 H locs ls hP hD hS rfl dX2_kind_1
set_option maxRecDepth 20000 in
theorem ggX2_price_X0_price : GoodIn wsX2_price wsX0_price := goodIn_r _ [6] (by decide +kernel) (by decide +kernel)
set_option maxRecDepth 20000 in
theorem gX2_price_X0_price_s9 : GoodIn wsX2_price (va_wsSU RX2 9 yX0_price wsX0_price) := goodIn_app (goodIn_of _ (by decide +kernel)) ggX2_price_X0_price
theorem dX2_price_0 : decode cX2_price 0 = .ok (.aload_n 0, 1) := by decide +kernel
theorem dX2_price_1 : decode cX2_price 1 = .ok (.invokespecial 9, 3) := by decide +kernel
theorem dX2_price_4 : decode cX2_price 4 = .ok (.iconst 4, 1) := by decide +kernel
theorem dX2_price_5 : decode cX2_price 5 = .ok (.iadd, 1) := by decide +kernel
theorem dX2_price_6 : decode cX2_price 6 = .ok (.ireturn, 1) := by decide +kernel
abbrev rmX2_price : Room := { frames := 1, cells := 0, slots := 0, locals := 20 }
theorem hdX2_price : yX2_price.cls = RX2 ∧ yX2_price.cls ≠ "java/lang/invoke/MethodHandle" ∧ yX2_price.cls ≠ "java/lang/invoke/VarHandle" ∧ (parseMethodDescriptor yX2_price.desc).map (fun d => d.parameters.length) = some 0 := by decide +kernel
def X_X2_price (fg : Int32) : Int32 := ((X_X0_price fg) + (4 : Int32))
set_option maxRecDepth 100000 in
set_option maxHeartbeats 4000000 in
theorem okX2_price_2 (z : Nat → Nat) (l : Launch) (D : va_G) (T : mT3) (q : Nat) (fg : Int32) : hCi z l D (cT T) yX2_price wsX2_price rmX2_price [.ref q] [(q, .inr (2, [.int fg]))] (X_X2_price fg) [(q, .inr (2, [.int fg]))] := by
  refine h_body_i (plainFor_of_name (by decide)) rfl (Nat.le_of_ble_eq_true rfl) (fun p e s m args below meth c A Q hx hb hml hown hts hK hA hX hret ls hP hD hS hl => ?_)
  have hl : lv_has ls 1 [(0, .ref q)] := hl
  obtain ⟨H, hH⟩ : ∃ H, H = s.heap := ⟨_, rfl⟩
  obtain ⟨locs, hlocs⟩ : ∃ z : List Loc, z = [] := ⟨_, rfl⟩
  have hS : va_S A s.heap H locs := by rw [hH, hlocs]; exact hS
  have hP : va_P D vwCl [(q, .inr (2, [.int fg]))] H := by rw [hH]; exact hP
  suffices h9 : W p l e rmX2_price s m args below meth c H locs 0 0 Q (F0 m 0 ls []) by rw [hH, hlocs] at h9; exact h9
  clear hH hlocs
  refine lv_aload_n hx hb dX2_price_0 rfl (lv_at hl 0 rfl) ?_
  refine h_su (own := RX2) (As := []) (rest := []) (hK.1 2 _ rfl).2 hx hb hml hown hts (okX0_price_2 z l D T q fg) (va_cwSU 0 hts gX2_price_X0_price_s9 rfl rfl rfl (by decide +kernel) ⟨Nat.le_of_ble_eq_true rfl, Nat.le_of_ble_eq_true rfl⟩) hK hA hX hP hD hS (perm_nil _) (perm_nil2 _) (ci := 2) (q0 := 0) rfl rfl rfl hl.1 rfl (Nat.le_of_ble_eq_true rfl) dX2_price_1 ⟨Nat.le_of_ble_eq_true rfl, Nat.le_of_ble_eq_true rfl⟩ (fun H locs hP hD hS => ?_)
  refine lv_iconst (v := (4 : Int32)) hx hb dX2_price_4 (by decide) ?_
  refine lv_iadd hx hb dX2_price_5 ?_
  exact hret 6 H locs ls hP hD hS rfl dX2_price_6
set_option maxRecDepth 20000 in
theorem ggX3_bears_X0_bears : GoodIn wsX3_bears wsX0_bears := goodIn_r _ [8] (by decide +kernel) (by decide +kernel)
set_option maxRecDepth 20000 in
theorem gX3_bears_X0_bears_s7 : GoodIn wsX3_bears (va_wsSU RX3 7 yX0_bears wsX0_bears) := goodIn_app (goodIn_of _ (by decide +kernel)) ggX3_bears_X0_bears
theorem dX3_bears_0 : decode cX3_bears 0 = .ok (.aload_n 0, 1) := by decide +kernel
theorem dX3_bears_1 : decode cX3_bears 1 = .ok (.invokespecial 7, 3) := by decide +kernel
theorem dX3_bears_4 : decode cX3_bears 4 = .ok (.aload_n 0, 1) := by decide +kernel
theorem dX3_bears_5 : decode cX3_bears 5 = .ok (.getfield 11, 3) := by decide +kernel
theorem dX3_bears_8 : decode cX3_bears 8 = .ok (.iconst 3, 1) := by decide +kernel
theorem dX3_bears_9 : decode cX3_bears 9 = .ok (.idiv, 1) := by decide +kernel
theorem dX3_bears_10 : decode cX3_bears 10 = .ok (.isub, 1) := by decide +kernel
theorem dX3_bears_11 : decode cX3_bears 11 = .ok (.ireturn, 1) := by decide +kernel
abbrev rmX3_bears : Room := { frames := 1, cells := 0, slots := 0, locals := 20 }
theorem hdX3_bears : yX3_bears.cls = RX3 ∧ yX3_bears.cls ≠ "java/lang/invoke/MethodHandle" ∧ yX3_bears.cls ≠ "java/lang/invoke/VarHandle" ∧ (parseMethodDescriptor yX3_bears.desc).map (fun d => d.parameters.length) = some 0 := by decide +kernel
def X_X3_bears (fg : Int32) : Int32 := ((X_X0_bears fg) - (fg / (3 : Int32)))
set_option maxRecDepth 100000 in
set_option maxHeartbeats 4000000 in
theorem okX3_bears_3 (z : Nat → Nat) (l : Launch) (D : va_G) (T : mT3) (q : Nat) (fg : Int32) : hCi z l D (cT T) yX3_bears wsX3_bears rmX3_bears [.ref q] [(q, .inr (3, [.int fg]))] (X_X3_bears fg) [(q, .inr (3, [.int fg]))] := by
  refine h_body_i (plainFor_of_name (by decide)) rfl (Nat.le_of_ble_eq_true rfl) (fun p e s m args below meth c A Q hx hb hml hown hts hK hA hX hret ls hP hD hS hl => ?_)
  have hl : lv_has ls 1 [(0, .ref q)] := hl
  obtain ⟨H, hH⟩ : ∃ H, H = s.heap := ⟨_, rfl⟩
  obtain ⟨locs, hlocs⟩ : ∃ z : List Loc, z = [] := ⟨_, rfl⟩
  have hS : va_S A s.heap H locs := by rw [hH, hlocs]; exact hS
  have hP : va_P D vwCl [(q, .inr (3, [.int fg]))] H := by rw [hH]; exact hP
  suffices h9 : W p l e rmX3_bears s m args below meth c H locs 0 0 Q (F0 m 0 ls []) by rw [hH, hlocs] at h9; exact h9
  clear hH hlocs
  refine lv_aload_n hx hb dX3_bears_0 rfl (lv_at hl 0 rfl) ?_
  refine h_su (own := RX3) (As := []) (rest := []) (hK.1 3 _ rfl).2 hx hb hml hown hts (okX0_bears_3 z l D T q fg) (va_cwSU 0 hts gX3_bears_X0_bears_s7 rfl rfl rfl (by decide +kernel) ⟨Nat.le_of_ble_eq_true rfl, Nat.le_of_ble_eq_true rfl⟩) hK hA hX hP hD hS (perm_nil _) (perm_nil2 _) (ci := 3) (q0 := 0) rfl rfl rfl hl.1 rfl (Nat.le_of_ble_eq_true rfl) dX3_bears_1 ⟨Nat.le_of_ble_eq_true rfl, Nat.le_of_ble_eq_true rfl⟩ (fun H locs hP hD hS => ?_)
  refine lv_aload_n hx hb dX3_bears_4 rfl (lv_at hl 0 rfl) ?_
  refine va_get (D := D) (ci := 3) (v := .int fg) (C := RX3) (T := TX3) (N := 1) hx hb hts (by decide +kernel) hown hK hP 0 rfl rfl 0 (by decide) (hts (.fieldLink RX3 11 RX3 "figure" "I") (by decide +kernel)) (fun x9 h9 => u_same (hts (.sameField RX3 RX0 "figure" "I") (by decide +kernel)) x9 h9) rfl dX3_bears_5 ?_
  refine lv_iconst (v := (3 : Int32)) hx hb dX3_bears_8 (by decide) ?_
  refine lv_idiv hx hb dX3_bears_9 (by decide) ?_
  refine lv_isub hx hb dX3_bears_10 ?_
  exact hret 11 H locs ls hP hD hS rfl dX3_bears_11
set_option maxRecDepth 20000 in
theorem ggX3_init_X0_init : GoodIn wsX3_init wsX0_init := goodIn_r _ [4, 5, 6, 7, 8, 9, 10, 11, 12, 13, 14, 15, 16] (by decide +kernel) (by decide +kernel)
set_option maxRecDepth 20000 in
theorem gX3_init_X0_init : GoodIn wsX3_init (wsX0_init) := ggX3_init_X0_init
theorem dX3_init_0 : decode cX3_init 0 = .ok (.aload_n 0, 1) := by decide +kernel
theorem dX3_init_1 : decode cX3_init 1 = .ok (.iload_n 1, 1) := by decide +kernel
theorem dX3_init_2 : decode cX3_init 2 = .ok (.invokespecial 1, 3) := by decide +kernel
theorem dX3_init_5 : decode cX3_init 5 = .ok (.return_, 1) := by decide +kernel
abbrev rmX3_init : Room := { frames := 2, cells := 0, slots := 0, locals := 33 }
theorem hdX3_init : yX3_init.cls = RX3 ∧ yX3_init.cls ≠ "java/lang/invoke/MethodHandle" ∧ yX3_init.cls ≠ "java/lang/invoke/VarHandle" ∧ (parseMethodDescriptor yX3_init.desc).map (fun d => d.parameters.length) = some 1 := by decide +kernel
set_option maxRecDepth 100000 in
set_option maxHeartbeats 4000000 in
theorem okX3_init_3 (z : Nat → Nat) (l : Launch) (D : va_G) (T : mT3) (q : Nat) (fg v1 : Int32) : hCv z l D (cT T) yX3_init wsX3_init rmX3_init [.ref q, .int v1] [(q, .inr (3, [.int fg]))] [(q, .inr (3, [.int v1]))] := by
  refine h_body_v (plainFor_of_name (by decide)) rfl (Nat.le_of_ble_eq_true rfl) (fun p e s m args below meth c A Q hx hb hml hown hts hK hA hX hin hret ls hP hD hS hl => ?_)
  have hin : meth.name = "<init>" := hin
  have hl : lv_has ls 2 [(0, .ref q), (1, .int v1)] := hl
  obtain ⟨H, hH⟩ : ∃ H, H = s.heap := ⟨_, rfl⟩
  obtain ⟨locs, hlocs⟩ : ∃ z : List Loc, z = [] := ⟨_, rfl⟩
  have hS : va_S A s.heap H locs := by rw [hH, hlocs]; exact hS
  have hP : va_P D vwCl [(q, .inr (3, [.int fg]))] H := by rw [hH]; exact hP
  suffices h9 : W p l e rmX3_init s m args below meth c H locs 0 0 Q (F0 m 0 ls []) by rw [hH, hlocs] at h9; exact h9
  clear hH hlocs
  refine lv_aload_n hx hb dX3_init_0 rfl (lv_at hl 0 rfl) ?_
  refine lv_iload_n hx hb dX3_init_1 rfl (lv_at hl 1 rfl) ?_
  refine h_in (own := RX3) (As := [.int v1]) (rest := []) hx hb hml hown hts (okX0_init_3 z l D T q fg v1) (cwI 1 hts gX3_init_X0_init rfl rfl rfl (hts (.initialized RX0) (by decide +kernel)) (hts (.methodLink RX3 1 yX0_init) (by decide +kernel)) (hts (.instanceMethod yX0_init) (by decide +kernel)) rfl (by decide +kernel) ⟨Nat.le_of_ble_eq_true rfl, Nat.le_of_ble_eq_true rfl⟩) hK hA hX hP hD hS (perm_nil _) (perm_nil2 _) rfl hl.1 rfl (Nat.le_of_ble_eq_true rfl) dX3_init_2 ⟨Nat.le_of_ble_eq_true rfl, Nat.le_of_ble_eq_true rfl⟩ (fun H locs hP hD hS => ?_)
  exact hret 5 H locs ls hP hD hS dX3_init_5
theorem dX3_kind_0 : decode cX3_kind 0 = .ok (.iconst 5, 1) := by decide +kernel
theorem dX3_kind_1 : decode cX3_kind 1 = .ok (.ireturn, 1) := by decide +kernel
abbrev rmX3_kind : Room := { frames := 0, cells := 0, slots := 0, locals := 0 }
theorem hdX3_kind : yX3_kind.cls = RX3 ∧ yX3_kind.cls ≠ "java/lang/invoke/MethodHandle" ∧ yX3_kind.cls ≠ "java/lang/invoke/VarHandle" ∧ (parseMethodDescriptor yX3_kind.desc).map (fun d => d.parameters.length) = some 0 := by decide +kernel
def X_X3_kind (fg : Int32) : Int32 := (5 : Int32)
set_option maxRecDepth 100000 in
set_option maxHeartbeats 4000000 in
theorem okX3_kind_3 (z : Nat → Nat) (l : Launch) (D : va_G) (T : mT3) (q : Nat) (fg : Int32) : hCi z l D (cT T) yX3_kind wsX3_kind rmX3_kind [.ref q] [(q, .inr (3, [.int fg]))] (X_X3_kind fg) [(q, .inr (3, [.int fg]))] := by
  refine h_body_i (plainFor_of_name (by decide)) rfl (Nat.le_of_ble_eq_true rfl) (fun p e s m args below meth c A Q hx hb hml hown hts hK hA hX hret ls hP hD hS hl => ?_)
  have hl : lv_has ls 1 [(0, .ref q)] := hl
  obtain ⟨H, hH⟩ : ∃ H, H = s.heap := ⟨_, rfl⟩
  obtain ⟨locs, hlocs⟩ : ∃ z : List Loc, z = [] := ⟨_, rfl⟩
  have hS : va_S A s.heap H locs := by rw [hH, hlocs]; exact hS
  have hP : va_P D vwCl [(q, .inr (3, [.int fg]))] H := by rw [hH]; exact hP
  suffices h9 : W p l e rmX3_kind s m args below meth c H locs 0 0 Q (F0 m 0 ls []) by rw [hH, hlocs] at h9; exact h9
  clear hH hlocs
  refine lv_iconst (v := (5 : Int32)) hx hb dX3_kind_0 (by decide) ?_
  exact hret 1 H locs ls hP hD hS rfl dX3_kind_1
set_option maxRecDepth 20000 in
theorem ggX3_price_X0_price : GoodIn wsX3_price wsX0_price := goodIn_r _ [6] (by decide +kernel) (by decide +kernel)
set_option maxRecDepth 20000 in
theorem gX3_price_X0_price_s17 : GoodIn wsX3_price (va_wsSU RX3 17 yX0_price wsX0_price) := goodIn_app (goodIn_of _ (by decide +kernel)) ggX3_price_X0_price
theorem dX3_price_0 : decode cX3_price 0 = .ok (.aload_n 0, 1) := by decide +kernel
theorem dX3_price_1 : decode cX3_price 1 = .ok (.invokespecial 17, 3) := by decide +kernel
theorem dX3_price_4 : decode cX3_price 4 = .ok (.iconst 5, 1) := by decide +kernel
theorem dX3_price_5 : decode cX3_price 5 = .ok (.iadd, 1) := by decide +kernel
theorem dX3_price_6 : decode cX3_price 6 = .ok (.ireturn, 1) := by decide +kernel
abbrev rmX3_price : Room := { frames := 1, cells := 0, slots := 0, locals := 20 }
theorem hdX3_price : yX3_price.cls = RX3 ∧ yX3_price.cls ≠ "java/lang/invoke/MethodHandle" ∧ yX3_price.cls ≠ "java/lang/invoke/VarHandle" ∧ (parseMethodDescriptor yX3_price.desc).map (fun d => d.parameters.length) = some 0 := by decide +kernel
def X_X3_price (fg : Int32) : Int32 := ((X_X0_price fg) + (5 : Int32))
set_option maxRecDepth 100000 in
set_option maxHeartbeats 4000000 in
theorem okX3_price_3 (z : Nat → Nat) (l : Launch) (D : va_G) (T : mT3) (q : Nat) (fg : Int32) : hCi z l D (cT T) yX3_price wsX3_price rmX3_price [.ref q] [(q, .inr (3, [.int fg]))] (X_X3_price fg) [(q, .inr (3, [.int fg]))] := by
  refine h_body_i (plainFor_of_name (by decide)) rfl (Nat.le_of_ble_eq_true rfl) (fun p e s m args below meth c A Q hx hb hml hown hts hK hA hX hret ls hP hD hS hl => ?_)
  have hl : lv_has ls 1 [(0, .ref q)] := hl
  obtain ⟨H, hH⟩ : ∃ H, H = s.heap := ⟨_, rfl⟩
  obtain ⟨locs, hlocs⟩ : ∃ z : List Loc, z = [] := ⟨_, rfl⟩
  have hS : va_S A s.heap H locs := by rw [hH, hlocs]; exact hS
  have hP : va_P D vwCl [(q, .inr (3, [.int fg]))] H := by rw [hH]; exact hP
  suffices h9 : W p l e rmX3_price s m args below meth c H locs 0 0 Q (F0 m 0 ls []) by rw [hH, hlocs] at h9; exact h9
  clear hH hlocs
  refine lv_aload_n hx hb dX3_price_0 rfl (lv_at hl 0 rfl) ?_
  refine h_su (own := RX3) (As := []) (rest := []) (hK.1 3 _ rfl).2 hx hb hml hown hts (okX0_price_3 z l D T q fg) (va_cwSU 0 hts gX3_price_X0_price_s17 rfl rfl rfl (by decide +kernel) ⟨Nat.le_of_ble_eq_true rfl, Nat.le_of_ble_eq_true rfl⟩) hK hA hX hP hD hS (perm_nil _) (perm_nil2 _) (ci := 3) (q0 := 0) rfl rfl rfl hl.1 rfl (Nat.le_of_ble_eq_true rfl) dX3_price_1 ⟨Nat.le_of_ble_eq_true rfl, Nat.le_of_ble_eq_true rfl⟩ (fun H locs hP hD hS => ?_)
  refine lv_iconst (v := (5 : Int32)) hx hb dX3_price_4 (by decide) ?_
  refine lv_iadd hx hb dX3_price_5 ?_
  exact hret 6 H locs ls hP hD hS rfl dX3_price_6
theorem dX6_bears_0 : decode cX6_bears 0 = .ok (.aload_n 0, 1) := by decide +kernel
theorem dX6_bears_1 : decode cX6_bears 1 = .ok (.getfield 7, 3) := by decide +kernel
theorem dX6_bears_4 : decode cX6_bears 4 = .ok (.ireturn, 1) := by decide +kernel
abbrev rmX6_bears : Room := { frames := 0, cells := 0, slots := 0, locals := 0 }
theorem hdX6_bears : yX6_bears.cls = RX6 ∧ yX6_bears.cls ≠ "java/lang/invoke/MethodHandle" ∧ yX6_bears.cls ≠ "java/lang/invoke/VarHandle" ∧ (parseMethodDescriptor yX6_bears.desc).map (fun d => d.parameters.length) = some 0 := by decide +kernel
def X_X6_bears (fg : Int32) : Int32 := fg
set_option maxRecDepth 100000 in
set_option maxHeartbeats 4000000 in
theorem okX6_bears_4 (z : Nat → Nat) (l : Launch) (D : va_G) (T : mT3) (q : Nat) (fg : Int32) : hCi z l D (cT T) yX6_bears wsX6_bears rmX6_bears [.ref q] [(q, .inr (4, [.int fg]))] (X_X6_bears fg) [(q, .inr (4, [.int fg]))] := by
  refine h_body_i (plainFor_of_name (by decide)) rfl (Nat.le_of_ble_eq_true rfl) (fun p e s m args below meth c A Q hx hb hml hown hts hK hA hX hret ls hP hD hS hl => ?_)
  have hl : lv_has ls 1 [(0, .ref q)] := hl
  obtain ⟨H, hH⟩ : ∃ H, H = s.heap := ⟨_, rfl⟩
  obtain ⟨locs, hlocs⟩ : ∃ z : List Loc, z = [] := ⟨_, rfl⟩
  have hS : va_S A s.heap H locs := by rw [hH, hlocs]; exact hS
  have hP : va_P D vwCl [(q, .inr (4, [.int fg]))] H := by rw [hH]; exact hP
  suffices h9 : W p l e rmX6_bears s m args below meth c H locs 0 0 Q (F0 m 0 ls []) by rw [hH, hlocs] at h9; exact h9
  clear hH hlocs
  refine lv_aload_n hx hb dX6_bears_0 rfl (lv_at hl 0 rfl) ?_
  refine va_get (D := D) (ci := 4) (v := .int fg) (C := RX4) (T := TX4) (N := 1) hx hb hts (by decide +kernel) hown hK hP 0 rfl rfl 0 (by decide) (hts (.fieldLink RX6 7 RX6 "figure" "I") (by decide +kernel)) (fun x9 h9 => u_same (hts (.sameField RX6 RX0 "figure" "I") (by decide +kernel)) x9 h9) rfl dX6_bears_1 ?_
  exact hret 4 H locs ls hP hD hS rfl dX6_bears_4
set_option maxRecDepth 100000 in
set_option maxHeartbeats 4000000 in
theorem okX6_bears_5 (z : Nat → Nat) (l : Launch) (D : va_G) (T : mT3) (q : Nat) (fg : Int32) : hCi z l D (cT T) yX6_bears wsX6_bears rmX6_bears [.ref q] [(q, .inr (5, [.int fg]))] (X_X6_bears fg) [(q, .inr (5, [.int fg]))] := by
  refine h_body_i (plainFor_of_name (by decide)) rfl (Nat.le_of_ble_eq_true rfl) (fun p e s m args below meth c A Q hx hb hml hown hts hK hA hX hret ls hP hD hS hl => ?_)
  have hl : lv_has ls 1 [(0, .ref q)] := hl
  obtain ⟨H, hH⟩ : ∃ H, H = s.heap := ⟨_, rfl⟩
  obtain ⟨locs, hlocs⟩ : ∃ z : List Loc, z = [] := ⟨_, rfl⟩
  have hS : va_S A s.heap H locs := by rw [hH, hlocs]; exact hS
  have hP : va_P D vwCl [(q, .inr (5, [.int fg]))] H := by rw [hH]; exact hP
  suffices h9 : W p l e rmX6_bears s m args below meth c H locs 0 0 Q (F0 m 0 ls []) by rw [hH, hlocs] at h9; exact h9
  clear hH hlocs
  refine lv_aload_n hx hb dX6_bears_0 rfl (lv_at hl 0 rfl) ?_
  refine va_get (D := D) (ci := 5) (v := .int fg) (C := RX5) (T := TX5) (N := 1) hx hb hts (by decide +kernel) hown hK hP 0 rfl rfl 0 (by decide) (hts (.fieldLink RX6 7 RX6 "figure" "I") (by decide +kernel)) (fun x9 h9 => u_same (hts (.sameField RX6 RX0 "figure" "I") (by decide +kernel)) x9 h9) rfl dX6_bears_1 ?_
  exact hret 4 H locs ls hP hD hS rfl dX6_bears_4
set_option maxRecDepth 100000 in
set_option maxHeartbeats 4000000 in
theorem okX6_bears_6 (z : Nat → Nat) (l : Launch) (D : va_G) (T : mT3) (q : Nat) (fg : Int32) : hCi z l D (cT T) yX6_bears wsX6_bears rmX6_bears [.ref q] [(q, .inr (6, [.int fg]))] (X_X6_bears fg) [(q, .inr (6, [.int fg]))] := by
  refine h_body_i (plainFor_of_name (by decide)) rfl (Nat.le_of_ble_eq_true rfl) (fun p e s m args below meth c A Q hx hb hml hown hts hK hA hX hret ls hP hD hS hl => ?_)
  have hl : lv_has ls 1 [(0, .ref q)] := hl
  obtain ⟨H, hH⟩ : ∃ H, H = s.heap := ⟨_, rfl⟩
  obtain ⟨locs, hlocs⟩ : ∃ z : List Loc, z = [] := ⟨_, rfl⟩
  have hS : va_S A s.heap H locs := by rw [hH, hlocs]; exact hS
  have hP : va_P D vwCl [(q, .inr (6, [.int fg]))] H := by rw [hH]; exact hP
  suffices h9 : W p l e rmX6_bears s m args below meth c H locs 0 0 Q (F0 m 0 ls []) by rw [hH, hlocs] at h9; exact h9
  clear hH hlocs
  refine lv_aload_n hx hb dX6_bears_0 rfl (lv_at hl 0 rfl) ?_
  refine va_get (D := D) (ci := 6) (v := .int fg) (C := RX6) (T := TX6) (N := 1) hx hb hts (by decide +kernel) hown hK hP 0 rfl rfl 0 (by decide) (hts (.fieldLink RX6 7 RX6 "figure" "I") (by decide +kernel)) (fun x9 h9 => u_same (hts (.sameField RX6 RX0 "figure" "I") (by decide +kernel)) x9 h9) rfl dX6_bears_1 ?_
  exact hret 4 H locs ls hP hD hS rfl dX6_bears_4
set_option maxRecDepth 20000 in
theorem ggX4_bears_X6_bears : GoodIn wsX4_bears wsX6_bears := goodIn_r _ [6, 7, 8, 9, 10, 11, 12, 13, 14, 15, 16] (by decide +kernel) (by decide +kernel)
set_option maxRecDepth 20000 in
theorem gX4_bears_X6_bears_s7 : GoodIn wsX4_bears (va_wsSU RX4 7 yX6_bears wsX6_bears) := goodIn_app (goodIn_of _ (by decide +kernel)) ggX4_bears_X6_bears
theorem dX4_bears_0 : decode cX4_bears 0 = .ok (.aload_n 0, 1) := by decide +kernel
theorem dX4_bears_1 : decode cX4_bears 1 = .ok (.invokespecial 7, 3) := by decide +kernel
theorem dX4_bears_4 : decode cX4_bears 4 = .ok (.iconst 2, 1) := by decide +kernel
theorem dX4_bears_5 : decode cX4_bears 5 = .ok (.iadd, 1) := by decide +kernel
theorem dX4_bears_6 : decode cX4_bears 6 = .ok (.ireturn, 1) := by decide +kernel
abbrev rmX4_bears : Room := { frames := 1, cells := 0, slots := 0, locals := 20 }
theorem hdX4_bears : yX4_bears.cls = RX4 ∧ yX4_bears.cls ≠ "java/lang/invoke/MethodHandle" ∧ yX4_bears.cls ≠ "java/lang/invoke/VarHandle" ∧ (parseMethodDescriptor yX4_bears.desc).map (fun d => d.parameters.length) = some 0 := by decide +kernel
def X_X4_bears (fg : Int32) : Int32 := ((X_X6_bears fg) + (2 : Int32))
set_option maxRecDepth 100000 in
set_option maxHeartbeats 4000000 in
theorem okX4_bears_4 (z : Nat → Nat) (l : Launch) (D : va_G) (T : mT3) (q : Nat) (fg : Int32) : hCi z l D (cT T) yX4_bears wsX4_bears rmX4_bears [.ref q] [(q, .inr (4, [.int fg]))] (X_X4_bears fg) [(q, .inr (4, [.int fg]))] := by
  refine h_body_i (plainFor_of_name (by decide)) rfl (Nat.le_of_ble_eq_true rfl) (fun p e s m args below meth c A Q hx hb hml hown hts hK hA hX hret ls hP hD hS hl => ?_)
  have hl : lv_has ls 1 [(0, .ref q)] := hl
  obtain ⟨H, hH⟩ : ∃ H, H = s.heap := ⟨_, rfl⟩
  obtain ⟨locs, hlocs⟩ : ∃ z : List Loc, z = [] := ⟨_, rfl⟩
  have hS : va_S A s.heap H locs := by rw [hH, hlocs]; exact hS
  have hP : va_P D vwCl [(q, .inr (4, [.int fg]))] H := by rw [hH]; exact hP
  suffices h9 : W p l e rmX4_bears s m args below meth c H locs 0 0 Q (F0 m 0 ls []) by rw [hH, hlocs] at h9; exact h9
  clear hH hlocs
  refine lv_aload_n hx hb dX4_bears_0 rfl (lv_at hl 0 rfl) ?_
  refine h_su (own := RX4) (As := []) (rest := []) (hK.1 4 _ rfl).2 hx hb hml hown hts (okX6_bears_4 z l D T q fg) (va_cwSU 0 hts gX4_bears_X6_bears_s7 rfl rfl rfl (by decide +kernel) ⟨Nat.le_of_ble_eq_true rfl, Nat.le_of_ble_eq_true rfl⟩) hK hA hX hP hD hS (perm_nil _) (perm_nil2 _) (ci := 4) (q0 := 0) rfl rfl rfl hl.1 rfl (Nat.le_of_ble_eq_true rfl) dX4_bears_1 ⟨Nat.le_of_ble_eq_true rfl, Nat.le_of_ble_eq_true rfl⟩ (fun H locs hP hD hS => ?_)
  refine lv_iconst (v := (2 : Int32)) hx hb dX4_bears_4 (by decide) ?_
  refine lv_iadd hx hb dX4_bears_5 ?_
  exact hret 6 H locs ls hP hD hS rfl dX4_bears_6
theorem dX6_burns_0 : decode cX6_burns 0 = .ok (.iconst 4, 1) := by decide +kernel
theorem dX6_burns_1 : decode cX6_burns 1 = .ok (.iconst 2, 1) := by decide +kernel
theorem dX6_burns_2 : decode cX6_burns 2 = .ok (.aload_n 0, 1) := by decide +kernel
theorem dX6_burns_3 : decode cX6_burns 3 = .ok (.getfield 7, 3) := by decide +kernel
theorem dX6_burns_6 : decode cX6_burns 6 = .ok (.imul, 1) := by decide +kernel
theorem dX6_burns_7 : decode cX6_burns 7 = .ok (.iadd, 1) := by decide +kernel
theorem dX6_burns_8 : decode cX6_burns 8 = .ok (.ireturn, 1) := by decide +kernel
abbrev rmX6_burns : Room := { frames := 0, cells := 0, slots := 0, locals := 0 }
theorem hdX6_burns : yX6_burns.cls = RX6 ∧ yX6_burns.cls ≠ "java/lang/invoke/MethodHandle" ∧ yX6_burns.cls ≠ "java/lang/invoke/VarHandle" ∧ (parseMethodDescriptor yX6_burns.desc).map (fun d => d.parameters.length) = some 0 := by decide +kernel
def X_X6_burns (fg : Int32) : Int32 := ((4 : Int32) + ((2 : Int32) * fg))
set_option maxRecDepth 100000 in
set_option maxHeartbeats 4000000 in
theorem okX6_burns_4 (z : Nat → Nat) (l : Launch) (D : va_G) (T : mT3) (q : Nat) (fg : Int32) : hCi z l D (cT T) yX6_burns wsX6_burns rmX6_burns [.ref q] [(q, .inr (4, [.int fg]))] (X_X6_burns fg) [(q, .inr (4, [.int fg]))] := by
  refine h_body_i (plainFor_of_name (by decide)) rfl (Nat.le_of_ble_eq_true rfl) (fun p e s m args below meth c A Q hx hb hml hown hts hK hA hX hret ls hP hD hS hl => ?_)
  have hl : lv_has ls 1 [(0, .ref q)] := hl
  obtain ⟨H, hH⟩ : ∃ H, H = s.heap := ⟨_, rfl⟩
  obtain ⟨locs, hlocs⟩ : ∃ z : List Loc, z = [] := ⟨_, rfl⟩
  have hS : va_S A s.heap H locs := by rw [hH, hlocs]; exact hS
  have hP : va_P D vwCl [(q, .inr (4, [.int fg]))] H := by rw [hH]; exact hP
  suffices h9 : W p l e rmX6_burns s m args below meth c H locs 0 0 Q (F0 m 0 ls []) by rw [hH, hlocs] at h9; exact h9
  clear hH hlocs
  refine lv_iconst (v := (4 : Int32)) hx hb dX6_burns_0 (by decide) ?_
  refine lv_iconst (v := (2 : Int32)) hx hb dX6_burns_1 (by decide) ?_
  refine lv_aload_n hx hb dX6_burns_2 rfl (lv_at hl 0 rfl) ?_
  refine va_get (D := D) (ci := 4) (v := .int fg) (C := RX4) (T := TX4) (N := 1) hx hb hts (by decide +kernel) hown hK hP 0 rfl rfl 0 (by decide) (hts (.fieldLink RX6 7 RX6 "figure" "I") (by decide +kernel)) (fun x9 h9 => u_same (hts (.sameField RX6 RX0 "figure" "I") (by decide +kernel)) x9 h9) rfl dX6_burns_3 ?_
  refine lv_imul hx hb dX6_burns_6 ?_
  refine lv_iadd hx hb dX6_burns_7 ?_
  exact hret 8 H locs ls hP hD hS rfl dX6_burns_8
set_option maxRecDepth 100000 in
set_option maxHeartbeats 4000000 in
theorem okX6_burns_5 (z : Nat → Nat) (l : Launch) (D : va_G) (T : mT3) (q : Nat) (fg : Int32) : hCi z l D (cT T) yX6_burns wsX6_burns rmX6_burns [.ref q] [(q, .inr (5, [.int fg]))] (X_X6_burns fg) [(q, .inr (5, [.int fg]))] := by
  refine h_body_i (plainFor_of_name (by decide)) rfl (Nat.le_of_ble_eq_true rfl) (fun p e s m args below meth c A Q hx hb hml hown hts hK hA hX hret ls hP hD hS hl => ?_)
  have hl : lv_has ls 1 [(0, .ref q)] := hl
  obtain ⟨H, hH⟩ : ∃ H, H = s.heap := ⟨_, rfl⟩
  obtain ⟨locs, hlocs⟩ : ∃ z : List Loc, z = [] := ⟨_, rfl⟩
  have hS : va_S A s.heap H locs := by rw [hH, hlocs]; exact hS
  have hP : va_P D vwCl [(q, .inr (5, [.int fg]))] H := by rw [hH]; exact hP
  suffices h9 : W p l e rmX6_burns s m args below meth c H locs 0 0 Q (F0 m 0 ls []) by rw [hH, hlocs] at h9; exact h9
  clear hH hlocs
  refine lv_iconst (v := (4 : Int32)) hx hb dX6_burns_0 (by decide) ?_
  refine lv_iconst (v := (2 : Int32)) hx hb dX6_burns_1 (by decide) ?_
  refine lv_aload_n hx hb dX6_burns_2 rfl (lv_at hl 0 rfl) ?_
  refine va_get (D := D) (ci := 5) (v := .int fg) (C := RX5) (T := TX5) (N := 1) hx hb hts (by decide +kernel) hown hK hP 0 rfl rfl 0 (by decide) (hts (.fieldLink RX6 7 RX6 "figure" "I") (by decide +kernel)) (fun x9 h9 => u_same (hts (.sameField RX6 RX0 "figure" "I") (by decide +kernel)) x9 h9) rfl dX6_burns_3 ?_
  refine lv_imul hx hb dX6_burns_6 ?_
  refine lv_iadd hx hb dX6_burns_7 ?_
  exact hret 8 H locs ls hP hD hS rfl dX6_burns_8
set_option maxRecDepth 100000 in
set_option maxHeartbeats 4000000 in
theorem okX6_burns_6 (z : Nat → Nat) (l : Launch) (D : va_G) (T : mT3) (q : Nat) (fg : Int32) : hCi z l D (cT T) yX6_burns wsX6_burns rmX6_burns [.ref q] [(q, .inr (6, [.int fg]))] (X_X6_burns fg) [(q, .inr (6, [.int fg]))] := by
  refine h_body_i (plainFor_of_name (by decide)) rfl (Nat.le_of_ble_eq_true rfl) (fun p e s m args below meth c A Q hx hb hml hown hts hK hA hX hret ls hP hD hS hl => ?_)
  have hl : lv_has ls 1 [(0, .ref q)] := hl
  obtain ⟨H, hH⟩ : ∃ H, H = s.heap := ⟨_, rfl⟩
  obtain ⟨locs, hlocs⟩ : ∃ z : List Loc, z = [] := ⟨_, rfl⟩
  have hS : va_S A s.heap H locs := by rw [hH, hlocs]; exact hS
  have hP : va_P D vwCl [(q, .inr (6, [.int fg]))] H := by rw [hH]; exact hP
  suffices h9 : W p l e rmX6_burns s m args below meth c H locs 0 0 Q (F0 m 0 ls []) by rw [hH, hlocs] at h9; exact h9
  clear hH hlocs
  refine lv_iconst (v := (4 : Int32)) hx hb dX6_burns_0 (by decide) ?_
  refine lv_iconst (v := (2 : Int32)) hx hb dX6_burns_1 (by decide) ?_
  refine lv_aload_n hx hb dX6_burns_2 rfl (lv_at hl 0 rfl) ?_
  refine va_get (D := D) (ci := 6) (v := .int fg) (C := RX6) (T := TX6) (N := 1) hx hb hts (by decide +kernel) hown hK hP 0 rfl rfl 0 (by decide) (hts (.fieldLink RX6 7 RX6 "figure" "I") (by decide +kernel)) (fun x9 h9 => u_same (hts (.sameField RX6 RX0 "figure" "I") (by decide +kernel)) x9 h9) rfl dX6_burns_3 ?_
  refine lv_imul hx hb dX6_burns_6 ?_
  refine lv_iadd hx hb dX6_burns_7 ?_
  exact hret 8 H locs ls hP hD hS rfl dX6_burns_8
set_option maxRecDepth 20000 in
theorem ggX4_burns_X6_burns : GoodIn wsX4_burns wsX6_burns := goodIn_r _ [6, 7, 8, 9, 10, 11, 12, 13, 14, 15, 16] (by decide +kernel) (by decide +kernel)
set_option maxRecDepth 20000 in
theorem gX4_burns_X6_burns_s11 : GoodIn wsX4_burns (va_wsSU RX4 11 yX6_burns wsX6_burns) := goodIn_app (goodIn_of _ (by decide +kernel)) ggX4_burns_X6_burns
theorem dX4_burns_0 : decode cX4_burns 0 = .ok (.aload_n 0, 1) := by decide +kernel
theorem dX4_burns_1 : decode cX4_burns 1 = .ok (.invokespecial 11, 3) := by decide +kernel
theorem dX4_burns_4 : decode cX4_burns 4 = .ok (.iconst 2, 1) := by decide +kernel
theorem dX4_burns_5 : decode cX4_burns 5 = .ok (.imul, 1) := by decide +kernel
theorem dX4_burns_6 : decode cX4_burns 6 = .ok (.ireturn, 1) := by decide +kernel
abbrev rmX4_burns : Room := { frames := 1, cells := 0, slots := 0, locals := 20 }
theorem hdX4_burns : yX4_burns.cls = RX4 ∧ yX4_burns.cls ≠ "java/lang/invoke/MethodHandle" ∧ yX4_burns.cls ≠ "java/lang/invoke/VarHandle" ∧ (parseMethodDescriptor yX4_burns.desc).map (fun d => d.parameters.length) = some 0 := by decide +kernel
def X_X4_burns (fg : Int32) : Int32 := ((X_X6_burns fg) * (2 : Int32))
set_option maxRecDepth 100000 in
set_option maxHeartbeats 4000000 in
theorem okX4_burns_4 (z : Nat → Nat) (l : Launch) (D : va_G) (T : mT3) (q : Nat) (fg : Int32) : hCi z l D (cT T) yX4_burns wsX4_burns rmX4_burns [.ref q] [(q, .inr (4, [.int fg]))] (X_X4_burns fg) [(q, .inr (4, [.int fg]))] := by
  refine h_body_i (plainFor_of_name (by decide)) rfl (Nat.le_of_ble_eq_true rfl) (fun p e s m args below meth c A Q hx hb hml hown hts hK hA hX hret ls hP hD hS hl => ?_)
  have hl : lv_has ls 1 [(0, .ref q)] := hl
  obtain ⟨H, hH⟩ : ∃ H, H = s.heap := ⟨_, rfl⟩
  obtain ⟨locs, hlocs⟩ : ∃ z : List Loc, z = [] := ⟨_, rfl⟩
  have hS : va_S A s.heap H locs := by rw [hH, hlocs]; exact hS
  have hP : va_P D vwCl [(q, .inr (4, [.int fg]))] H := by rw [hH]; exact hP
  suffices h9 : W p l e rmX4_burns s m args below meth c H locs 0 0 Q (F0 m 0 ls []) by rw [hH, hlocs] at h9; exact h9
  clear hH hlocs
  refine lv_aload_n hx hb dX4_burns_0 rfl (lv_at hl 0 rfl) ?_
  refine h_su (own := RX4) (As := []) (rest := []) (hK.1 4 _ rfl).2 hx hb hml hown hts (okX6_burns_4 z l D T q fg) (va_cwSU 0 hts gX4_burns_X6_burns_s11 rfl rfl rfl (by decide +kernel) ⟨Nat.le_of_ble_eq_true rfl, Nat.le_of_ble_eq_true rfl⟩) hK hA hX hP hD hS (perm_nil _) (perm_nil2 _) (ci := 4) (q0 := 0) rfl rfl rfl hl.1 rfl (Nat.le_of_ble_eq_true rfl) dX4_burns_1 ⟨Nat.le_of_ble_eq_true rfl, Nat.le_of_ble_eq_true rfl⟩ (fun H locs hP hD hS => ?_)
  refine lv_iconst (v := (2 : Int32)) hx hb dX4_burns_4 (by decide) ?_
  refine lv_imul hx hb dX4_burns_5 ?_
  exact hret 6 H locs ls hP hD hS rfl dX4_burns_6
set_option maxRecDepth 20000 in
theorem ggX6_init_X0_init : GoodIn wsX6_init wsX0_init := goodIn_r _ [4, 5, 6, 7, 8, 9, 10, 11, 12, 13, 14, 15, 16] (by decide +kernel) (by decide +kernel)
set_option maxRecDepth 20000 in
theorem gX6_init_X0_init : GoodIn wsX6_init (wsX0_init) := ggX6_init_X0_init
theorem dX6_init_0 : decode cX6_init 0 = .ok (.aload_n 0, 1) := by decide +kernel
theorem dX6_init_1 : decode cX6_init 1 = .ok (.iload_n 1, 1) := by decide +kernel
theorem dX6_init_2 : decode cX6_init 2 = .ok (.invokespecial 1, 3) := by decide +kernel
theorem dX6_init_5 : decode cX6_init 5 = .ok (.return_, 1) := by decide +kernel
abbrev rmX6_init : Room := { frames := 2, cells := 0, slots := 0, locals := 33 }
theorem hdX6_init : yX6_init.cls = RX6 ∧ yX6_init.cls ≠ "java/lang/invoke/MethodHandle" ∧ yX6_init.cls ≠ "java/lang/invoke/VarHandle" ∧ (parseMethodDescriptor yX6_init.desc).map (fun d => d.parameters.length) = some 1 := by decide +kernel
set_option maxRecDepth 100000 in
set_option maxHeartbeats 4000000 in
theorem okX6_init_4 (z : Nat → Nat) (l : Launch) (D : va_G) (T : mT3) (q : Nat) (fg v1 : Int32) : hCv z l D (cT T) yX6_init wsX6_init rmX6_init [.ref q, .int v1] [(q, .inr (4, [.int fg]))] [(q, .inr (4, [.int v1]))] := by
  refine h_body_v (plainFor_of_name (by decide)) rfl (Nat.le_of_ble_eq_true rfl) (fun p e s m args below meth c A Q hx hb hml hown hts hK hA hX hin hret ls hP hD hS hl => ?_)
  have hin : meth.name = "<init>" := hin
  have hl : lv_has ls 2 [(0, .ref q), (1, .int v1)] := hl
  obtain ⟨H, hH⟩ : ∃ H, H = s.heap := ⟨_, rfl⟩
  obtain ⟨locs, hlocs⟩ : ∃ z : List Loc, z = [] := ⟨_, rfl⟩
  have hS : va_S A s.heap H locs := by rw [hH, hlocs]; exact hS
  have hP : va_P D vwCl [(q, .inr (4, [.int fg]))] H := by rw [hH]; exact hP
  suffices h9 : W p l e rmX6_init s m args below meth c H locs 0 0 Q (F0 m 0 ls []) by rw [hH, hlocs] at h9; exact h9
  clear hH hlocs
  refine lv_aload_n hx hb dX6_init_0 rfl (lv_at hl 0 rfl) ?_
  refine lv_iload_n hx hb dX6_init_1 rfl (lv_at hl 1 rfl) ?_
  refine h_in (own := RX6) (As := [.int v1]) (rest := []) hx hb hml hown hts (okX0_init_4 z l D T q fg v1) (cwI 1 hts gX6_init_X0_init rfl rfl rfl (hts (.initialized RX0) (by decide +kernel)) (hts (.methodLink RX6 1 yX0_init) (by decide +kernel)) (hts (.instanceMethod yX0_init) (by decide +kernel)) rfl (by decide +kernel) ⟨Nat.le_of_ble_eq_true rfl, Nat.le_of_ble_eq_true rfl⟩) hK hA hX hP hD hS (perm_nil _) (perm_nil2 _) rfl hl.1 rfl (Nat.le_of_ble_eq_true rfl) dX6_init_2 ⟨Nat.le_of_ble_eq_true rfl, Nat.le_of_ble_eq_true rfl⟩ (fun H locs hP hD hS => ?_)
  exact hret 5 H locs ls hP hD hS dX6_init_5
set_option maxRecDepth 100000 in
set_option maxHeartbeats 4000000 in
theorem okX6_init_5 (z : Nat → Nat) (l : Launch) (D : va_G) (T : mT3) (q : Nat) (fg v1 : Int32) : hCv z l D (cT T) yX6_init wsX6_init rmX6_init [.ref q, .int v1] [(q, .inr (5, [.int fg]))] [(q, .inr (5, [.int v1]))] := by
  refine h_body_v (plainFor_of_name (by decide)) rfl (Nat.le_of_ble_eq_true rfl) (fun p e s m args below meth c A Q hx hb hml hown hts hK hA hX hin hret ls hP hD hS hl => ?_)
  have hin : meth.name = "<init>" := hin
  have hl : lv_has ls 2 [(0, .ref q), (1, .int v1)] := hl
  obtain ⟨H, hH⟩ : ∃ H, H = s.heap := ⟨_, rfl⟩
  obtain ⟨locs, hlocs⟩ : ∃ z : List Loc, z = [] := ⟨_, rfl⟩
  have hS : va_S A s.heap H locs := by rw [hH, hlocs]; exact hS
  have hP : va_P D vwCl [(q, .inr (5, [.int fg]))] H := by rw [hH]; exact hP
  suffices h9 : W p l e rmX6_init s m args below meth c H locs 0 0 Q (F0 m 0 ls []) by rw [hH, hlocs] at h9; exact h9
  clear hH hlocs
  refine lv_aload_n hx hb dX6_init_0 rfl (lv_at hl 0 rfl) ?_
  refine lv_iload_n hx hb dX6_init_1 rfl (lv_at hl 1 rfl) ?_
  refine h_in (own := RX6) (As := [.int v1]) (rest := []) hx hb hml hown hts (okX0_init_5 z l D T q fg v1) (cwI 1 hts gX6_init_X0_init rfl rfl rfl (hts (.initialized RX0) (by decide +kernel)) (hts (.methodLink RX6 1 yX0_init) (by decide +kernel)) (hts (.instanceMethod yX0_init) (by decide +kernel)) rfl (by decide +kernel) ⟨Nat.le_of_ble_eq_true rfl, Nat.le_of_ble_eq_true rfl⟩) hK hA hX hP hD hS (perm_nil _) (perm_nil2 _) rfl hl.1 rfl (Nat.le_of_ble_eq_true rfl) dX6_init_2 ⟨Nat.le_of_ble_eq_true rfl, Nat.le_of_ble_eq_true rfl⟩ (fun H locs hP hD hS => ?_)
  exact hret 5 H locs ls hP hD hS dX6_init_5
set_option maxRecDepth 100000 in
set_option maxHeartbeats 4000000 in
theorem okX6_init_6 (z : Nat → Nat) (l : Launch) (D : va_G) (T : mT3) (q : Nat) (fg v1 : Int32) : hCv z l D (cT T) yX6_init wsX6_init rmX6_init [.ref q, .int v1] [(q, .inr (6, [.int fg]))] [(q, .inr (6, [.int v1]))] := by
  refine h_body_v (plainFor_of_name (by decide)) rfl (Nat.le_of_ble_eq_true rfl) (fun p e s m args below meth c A Q hx hb hml hown hts hK hA hX hin hret ls hP hD hS hl => ?_)
  have hin : meth.name = "<init>" := hin
  have hl : lv_has ls 2 [(0, .ref q), (1, .int v1)] := hl
  obtain ⟨H, hH⟩ : ∃ H, H = s.heap := ⟨_, rfl⟩
  obtain ⟨locs, hlocs⟩ : ∃ z : List Loc, z = [] := ⟨_, rfl⟩
  have hS : va_S A s.heap H locs := by rw [hH, hlocs]; exact hS
  have hP : va_P D vwCl [(q, .inr (6, [.int fg]))] H := by rw [hH]; exact hP
  suffices h9 : W p l e rmX6_init s m args below meth c H locs 0 0 Q (F0 m 0 ls []) by rw [hH, hlocs] at h9; exact h9
  clear hH hlocs
  refine lv_aload_n hx hb dX6_init_0 rfl (lv_at hl 0 rfl) ?_
  refine lv_iload_n hx hb dX6_init_1 rfl (lv_at hl 1 rfl) ?_
  refine h_in (own := RX6) (As := [.int v1]) (rest := []) hx hb hml hown hts (okX0_init_6 z l D T q fg v1) (cwI 1 hts gX6_init_X0_init rfl rfl rfl (hts (.initialized RX0) (by decide +kernel)) (hts (.methodLink RX6 1 yX0_init) (by decide +kernel)) (hts (.instanceMethod yX0_init) (by decide +kernel)) rfl (by decide +kernel) ⟨Nat.le_of_ble_eq_true rfl, Nat.le_of_ble_eq_true rfl⟩) hK hA hX hP hD hS (perm_nil _) (perm_nil2 _) rfl hl.1 rfl (Nat.le_of_ble_eq_true rfl) dX6_init_2 ⟨Nat.le_of_ble_eq_true rfl, Nat.le_of_ble_eq_true rfl⟩ (fun H locs hP hD hS => ?_)
  exact hret 5 H locs ls hP hD hS dX6_init_5
set_option maxRecDepth 20000 in
theorem ggX4_init_X6_init : GoodIn wsX4_init wsX6_init := goodIn_r _ [4, 5, 6, 7, 8, 9, 10, 11, 12, 13, 14, 15, 16, 17, 18, 19, 20] (by decide +kernel) (by decide +kernel)
set_option maxRecDepth 20000 in
theorem gX4_init_X6_init : GoodIn wsX4_init (wsX6_init) := ggX4_init_X6_init
theorem dX4_init_0 : decode cX4_init 0 = .ok (.aload_n 0, 1) := by decide +kernel
theorem dX4_init_1 : decode cX4_init 1 = .ok (.iload_n 1, 1) := by decide +kernel
theorem dX4_init_2 : decode cX4_init 2 = .ok (.invokespecial 1, 3) := by decide +kernel
theorem dX4_init_5 : decode cX4_init 5 = .ok (.return_, 1) := by decide +kernel
abbrev rmX4_init : Room := { frames := 3, cells := 0, slots := 0, locals := 54 }
theorem hdX4_init : yX4_init.cls = RX4 ∧ yX4_init.cls ≠ "java/lang/invoke/MethodHandle" ∧ yX4_init.cls ≠ "java/lang/invoke/VarHandle" ∧ (parseMethodDescriptor yX4_init.desc).map (fun d => d.parameters.length) = some 1 := by decide +kernel
set_option maxRecDepth 100000 in
set_option maxHeartbeats 4000000 in
theorem okX4_init_4 (z : Nat → Nat) (l : Launch) (D : va_G) (T : mT3) (q : Nat) (fg v1 : Int32) : hCv z l D (cT T) yX4_init wsX4_init rmX4_init [.ref q, .int v1] [(q, .inr (4, [.int fg]))] [(q, .inr (4, [.int v1]))] := by
  refine h_body_v (plainFor_of_name (by decide)) rfl (Nat.le_of_ble_eq_true rfl) (fun p e s m args below meth c A Q hx hb hml hown hts hK hA hX hin hret ls hP hD hS hl => ?_)
  have hin : meth.name = "<init>" := hin
  have hl : lv_has ls 2 [(0, .ref q), (1, .int v1)] := hl
  obtain ⟨H, hH⟩ : ∃ H, H = s.heap := ⟨_, rfl⟩
  obtain ⟨locs, hlocs⟩ : ∃ z : List Loc, z = [] := ⟨_, rfl⟩
  have hS : va_S A s.heap H locs := by rw [hH, hlocs]; exact hS
  have hP : va_P D vwCl [(q, .inr (4, [.int fg]))] H := by rw [hH]; exact hP
  suffices h9 : W p l e rmX4_init s m args below meth c H locs 0 0 Q (F0 m 0 ls []) by rw [hH, hlocs] at h9; exact h9
  clear hH hlocs
  refine lv_aload_n hx hb dX4_init_0 rfl (lv_at hl 0 rfl) ?_
  refine lv_iload_n hx hb dX4_init_1 rfl (lv_at hl 1 rfl) ?_
  refine h_in (own := RX4) (As := [.int v1]) (rest := []) hx hb hml hown hts (okX6_init_4 z l D T q fg v1) (cwI 1 hts gX4_init_X6_init rfl rfl rfl (hts (.initialized RX6) (by decide +kernel)) (hts (.methodLink RX4 1 yX6_init) (by decide +kernel)) (hts (.instanceMethod yX6_init) (by decide +kernel)) rfl (by decide +kernel) ⟨Nat.le_of_ble_eq_true rfl, Nat.le_of_ble_eq_true rfl⟩) hK hA hX hP hD hS (perm_nil _) (perm_nil2 _) rfl hl.1 rfl (Nat.le_of_ble_eq_true rfl) dX4_init_2 ⟨Nat.le_of_ble_eq_true rfl, Nat.le_of_ble_eq_true rfl⟩ (fun H locs hP hD hS => ?_)
  exact hret 5 H locs ls hP hD hS dX4_init_5
theorem dX4_kind_0 : decode cX4_kind 0 = .ok (.iconst 3, 1) := by decide +kernel
theorem dX4_kind_1 : decode cX4_kind 1 = .ok (.ireturn, 1) := by decide +kernel
abbrev rmX4_kind : Room := { frames := 0, cells := 0, slots := 0, locals := 0 }
theorem hdX4_kind : yX4_kind.cls = RX4 ∧ yX4_kind.cls ≠ "java/lang/invoke/MethodHandle" ∧ yX4_kind.cls ≠ "java/lang/invoke/VarHandle" ∧ (parseMethodDescriptor yX4_kind.desc).map (fun d => d.parameters.length) = some 0 := by decide +kernel
def X_X4_kind (fg : Int32) : Int32 := (3 : Int32)
set_option maxRecDepth 100000 in
set_option maxHeartbeats 4000000 in
theorem okX4_kind_4 (z : Nat → Nat) (l : Launch) (D : va_G) (T : mT3) (q : Nat) (fg : Int32) : hCi z l D (cT T) yX4_kind wsX4_kind rmX4_kind [.ref q] [(q, .inr (4, [.int fg]))] (X_X4_kind fg) [(q, .inr (4, [.int fg]))] := by
  refine h_body_i (plainFor_of_name (by decide)) rfl (Nat.le_of_ble_eq_true rfl) (fun p e s m args below meth c A Q hx hb hml hown hts hK hA hX hret ls hP hD hS hl => ?_)
  have hl : lv_has ls 1 [(0, .ref q)] := hl
  obtain ⟨H, hH⟩ : ∃ H, H = s.heap := ⟨_, rfl⟩
  obtain ⟨locs, hlocs⟩ : ∃ z : List Loc, z = [] := ⟨_, rfl⟩
  have hS : va_S A s.heap H locs := by rw [hH, hlocs]; exact hS
  have hP : va_P D vwCl [(q, .inr (4, [.int fg]))] H := by rw [hH]; exact hP
  suffices h9 : W p l e rmX4_kind s m args below meth c H locs 0 0 Q (F0 m 0 ls []) by rw [hH, hlocs] at h9; exact h9
  clear hH hlocs
  refine lv_iconst (v := (3 : Int32)) hx hb dX4_kind_0 (by decide) ?_
  exact hret 1 H locs ls hP hD hS rfl dX4_kind_1
set_option maxRecDepth 20000 in
theorem ggX6_price_X0_price : GoodIn wsX6_price wsX0_price := goodIn_r _ [8] (by decide +kernel) (by decide +kernel)
set_option maxRecDepth 20000 in
theorem gX6_price_X0_price_s13 : GoodIn wsX6_price (va_wsSU RX6 13 yX0_price wsX0_price) := goodIn_app (goodIn_of _ (by decide +kernel)) ggX6_price_X0_price
theorem dX6_price_0 : decode cX6_price 0 = .ok (.aload_n 0, 1) := by decide +kernel
theorem dX6_price_1 : decode cX6_price 1 = .ok (.invokespecial 13, 3) := by decide +kernel
theorem dX6_price_4 : decode cX6_price 4 = .ok (.aload_n 0, 1) := by decide +kernel
theorem dX6_price_5 : decode cX6_price 5 = .ok (.getfield 7, 3) := by decide +kernel
theorem dX6_price_8 : decode cX6_price 8 = .ok (.iadd, 1) := by decide +kernel
theorem dX6_price_9 : decode cX6_price 9 = .ok (.iconst 1, 1) := by decide +kernel
theorem dX6_price_10 : decode cX6_price 10 = .ok (.iadd, 1) := by decide +kernel
theorem dX6_price_11 : decode cX6_price 11 = .ok (.ireturn, 1) := by decide +kernel
abbrev rmX6_price : Room := { frames := 1, cells := 0, slots := 0, locals := 20 }
theorem hdX6_price : yX6_price.cls = RX6 ∧ yX6_price.cls ≠ "java/lang/invoke/MethodHandle" ∧ yX6_price.cls ≠ "java/lang/invoke/VarHandle" ∧ (parseMethodDescriptor yX6_price.desc).map (fun d => d.parameters.length) = some 0 := by decide +kernel
def X_X6_price (fg : Int32) : Int32 := (((X_X0_price fg) + fg) + (1 : Int32))
set_option maxRecDepth 100000 in
set_option maxHeartbeats 4000000 in
theorem okX6_price_4 (z : Nat → Nat) (l : Launch) (D : va_G) (T : mT3) (q : Nat) (fg : Int32) : hCi z l D (cT T) yX6_price wsX6_price rmX6_price [.ref q] [(q, .inr (4, [.int fg]))] (X_X6_price fg) [(q, .inr (4, [.int fg]))] := by
  refine h_body_i (plainFor_of_name (by decide)) rfl (Nat.le_of_ble_eq_true rfl) (fun p e s m args below meth c A Q hx hb hml hown hts hK hA hX hret ls hP hD hS hl => ?_)
  have hl : lv_has ls 1 [(0, .ref q)] := hl
  obtain ⟨H, hH⟩ : ∃ H, H = s.heap := ⟨_, rfl⟩
  obtain ⟨locs, hlocs⟩ : ∃ z : List Loc, z = [] := ⟨_, rfl⟩
  have hS : va_S A s.heap H locs := by rw [hH, hlocs]; exact hS
  have hP : va_P D vwCl [(q, .inr (4, [.int fg]))] H := by rw [hH]; exact hP
  suffices h9 : W p l e rmX6_price s m args below meth c H locs 0 0 Q (F0 m 0 ls []) by rw [hH, hlocs] at h9; exact h9
  clear hH hlocs
  refine lv_aload_n hx hb dX6_price_0 rfl (lv_at hl 0 rfl) ?_
  refine h_su (own := RX6) (As := []) (rest := []) (hK.1 4 _ rfl).2 hx hb hml hown hts (okX0_price_4 z l D T q fg) (va_cwSU 0 hts gX6_price_X0_price_s13 rfl rfl rfl (by decide +kernel) ⟨Nat.le_of_ble_eq_true rfl, Nat.le_of_ble_eq_true rfl⟩) hK hA hX hP hD hS (perm_nil _) (perm_nil2 _) (ci := 4) (q0 := 0) rfl rfl rfl hl.1 rfl (Nat.le_of_ble_eq_true rfl) dX6_price_1 ⟨Nat.le_of_ble_eq_true rfl, Nat.le_of_ble_eq_true rfl⟩ (fun H locs hP hD hS => ?_)
  refine lv_aload_n hx hb dX6_price_4 rfl (lv_at hl 0 rfl) ?_
  refine va_get (D := D) (ci := 4) (v := .int fg) (C := RX4) (T := TX4) (N := 1) hx hb hts (by decide +kernel) hown hK hP 0 rfl rfl 0 (by decide) (hts (.fieldLink RX6 7 RX6 "figure" "I") (by decide +kernel)) (fun x9 h9 => u_same (hts (.sameField RX6 RX0 "figure" "I") (by decide +kernel)) x9 h9) rfl dX6_price_5 ?_
  refine lv_iadd hx hb dX6_price_8 ?_
  refine lv_iconst (v := (1 : Int32)) hx hb dX6_price_9 (by decide) ?_
  refine lv_iadd hx hb dX6_price_10 ?_
  exact hret 11 H locs ls hP hD hS rfl dX6_price_11
set_option maxRecDepth 100000 in
set_option maxHeartbeats 4000000 in
theorem okX6_price_5 (z : Nat → Nat) (l : Launch) (D : va_G) (T : mT3) (q : Nat) (fg : Int32) : hCi z l D (cT T) yX6_price wsX6_price rmX6_price [.ref q] [(q, .inr (5, [.int fg]))] (X_X6_price fg) [(q, .inr (5, [.int fg]))] := by
  refine h_body_i (plainFor_of_name (by decide)) rfl (Nat.le_of_ble_eq_true rfl) (fun p e s m args below meth c A Q hx hb hml hown hts hK hA hX hret ls hP hD hS hl => ?_)
  have hl : lv_has ls 1 [(0, .ref q)] := hl
  obtain ⟨H, hH⟩ : ∃ H, H = s.heap := ⟨_, rfl⟩
  obtain ⟨locs, hlocs⟩ : ∃ z : List Loc, z = [] := ⟨_, rfl⟩
  have hS : va_S A s.heap H locs := by rw [hH, hlocs]; exact hS
  have hP : va_P D vwCl [(q, .inr (5, [.int fg]))] H := by rw [hH]; exact hP
  suffices h9 : W p l e rmX6_price s m args below meth c H locs 0 0 Q (F0 m 0 ls []) by rw [hH, hlocs] at h9; exact h9
  clear hH hlocs
  refine lv_aload_n hx hb dX6_price_0 rfl (lv_at hl 0 rfl) ?_
  refine h_su (own := RX6) (As := []) (rest := []) (hK.1 5 _ rfl).2 hx hb hml hown hts (okX0_price_5 z l D T q fg) (va_cwSU 0 hts gX6_price_X0_price_s13 rfl rfl rfl (by decide +kernel) ⟨Nat.le_of_ble_eq_true rfl, Nat.le_of_ble_eq_true rfl⟩) hK hA hX hP hD hS (perm_nil _) (perm_nil2 _) (ci := 5) (q0 := 0) rfl rfl rfl hl.1 rfl (Nat.le_of_ble_eq_true rfl) dX6_price_1 ⟨Nat.le_of_ble_eq_true rfl, Nat.le_of_ble_eq_true rfl⟩ (fun H locs hP hD hS => ?_)
  refine lv_aload_n hx hb dX6_price_4 rfl (lv_at hl 0 rfl) ?_
  refine va_get (D := D) (ci := 5) (v := .int fg) (C := RX5) (T := TX5) (N := 1) hx hb hts (by decide +kernel) hown hK hP 0 rfl rfl 0 (by decide) (hts (.fieldLink RX6 7 RX6 "figure" "I") (by decide +kernel)) (fun x9 h9 => u_same (hts (.sameField RX6 RX0 "figure" "I") (by decide +kernel)) x9 h9) rfl dX6_price_5 ?_
  refine lv_iadd hx hb dX6_price_8 ?_
  refine lv_iconst (v := (1 : Int32)) hx hb dX6_price_9 (by decide) ?_
  refine lv_iadd hx hb dX6_price_10 ?_
  exact hret 11 H locs ls hP hD hS rfl dX6_price_11
set_option maxRecDepth 100000 in
set_option maxHeartbeats 4000000 in
theorem okX6_price_6 (z : Nat → Nat) (l : Launch) (D : va_G) (T : mT3) (q : Nat) (fg : Int32) : hCi z l D (cT T) yX6_price wsX6_price rmX6_price [.ref q] [(q, .inr (6, [.int fg]))] (X_X6_price fg) [(q, .inr (6, [.int fg]))] := by
  refine h_body_i (plainFor_of_name (by decide)) rfl (Nat.le_of_ble_eq_true rfl) (fun p e s m args below meth c A Q hx hb hml hown hts hK hA hX hret ls hP hD hS hl => ?_)
  have hl : lv_has ls 1 [(0, .ref q)] := hl
  obtain ⟨H, hH⟩ : ∃ H, H = s.heap := ⟨_, rfl⟩
  obtain ⟨locs, hlocs⟩ : ∃ z : List Loc, z = [] := ⟨_, rfl⟩
  have hS : va_S A s.heap H locs := by rw [hH, hlocs]; exact hS
  have hP : va_P D vwCl [(q, .inr (6, [.int fg]))] H := by rw [hH]; exact hP
  suffices h9 : W p l e rmX6_price s m args below meth c H locs 0 0 Q (F0 m 0 ls []) by rw [hH, hlocs] at h9; exact h9
  clear hH hlocs
  refine lv_aload_n hx hb dX6_price_0 rfl (lv_at hl 0 rfl) ?_
  refine h_su (own := RX6) (As := []) (rest := []) (hK.1 6 _ rfl).2 hx hb hml hown hts (okX0_price_6 z l D T q fg) (va_cwSU 0 hts gX6_price_X0_price_s13 rfl rfl rfl (by decide +kernel) ⟨Nat.le_of_ble_eq_true rfl, Nat.le_of_ble_eq_true rfl⟩) hK hA hX hP hD hS (perm_nil _) (perm_nil2 _) (ci := 6) (q0 := 0) rfl rfl rfl hl.1 rfl (Nat.le_of_ble_eq_true rfl) dX6_price_1 ⟨Nat.le_of_ble_eq_true rfl, Nat.le_of_ble_eq_true rfl⟩ (fun H locs hP hD hS => ?_)
  refine lv_aload_n hx hb dX6_price_4 rfl (lv_at hl 0 rfl) ?_
  refine va_get (D := D) (ci := 6) (v := .int fg) (C := RX6) (T := TX6) (N := 1) hx hb hts (by decide +kernel) hown hK hP 0 rfl rfl 0 (by decide) (hts (.fieldLink RX6 7 RX6 "figure" "I") (by decide +kernel)) (fun x9 h9 => u_same (hts (.sameField RX6 RX0 "figure" "I") (by decide +kernel)) x9 h9) rfl dX6_price_5 ?_
  refine lv_iadd hx hb dX6_price_8 ?_
  refine lv_iconst (v := (1 : Int32)) hx hb dX6_price_9 (by decide) ?_
  refine lv_iadd hx hb dX6_price_10 ?_
  exact hret 11 H locs ls hP hD hS rfl dX6_price_11
set_option maxRecDepth 20000 in
theorem ggX4_price_X6_price : GoodIn wsX4_price wsX6_price := goodIn_r _ [6, 7, 8, 9, 10, 11, 12, 13, 14, 15, 16, 17, 18, 19, 20, 21, 22] (by decide +kernel) (by decide +kernel)
set_option maxRecDepth 20000 in
theorem gX4_price_X6_price_s14 : GoodIn wsX4_price (va_wsSU RX4 14 yX6_price wsX6_price) := goodIn_app (goodIn_of _ (by decide +kernel)) ggX4_price_X6_price
theorem dX4_price_0 : decode cX4_price 0 = .ok (.aload_n 0, 1) := by decide +kernel
theorem dX4_price_1 : decode cX4_price 1 = .ok (.invokespecial 14, 3) := by decide +kernel
theorem dX4_price_4 : decode cX4_price 4 = .ok (.iconst 1, 1) := by decide +kernel
theorem dX4_price_5 : decode cX4_price 5 = .ok (.isub, 1) := by decide +kernel
theorem dX4_price_6 : decode cX4_price 6 = .ok (.ireturn, 1) := by decide +kernel
abbrev rmX4_price : Room := { frames := 2, cells := 0, slots := 0, locals := 40 }
theorem hdX4_price : yX4_price.cls = RX4 ∧ yX4_price.cls ≠ "java/lang/invoke/MethodHandle" ∧ yX4_price.cls ≠ "java/lang/invoke/VarHandle" ∧ (parseMethodDescriptor yX4_price.desc).map (fun d => d.parameters.length) = some 0 := by decide +kernel
def X_X4_price (fg : Int32) : Int32 := ((X_X6_price fg) - (1 : Int32))
set_option maxRecDepth 100000 in
set_option maxHeartbeats 4000000 in
theorem okX4_price_4 (z : Nat → Nat) (l : Launch) (D : va_G) (T : mT3) (q : Nat) (fg : Int32) : hCi z l D (cT T) yX4_price wsX4_price rmX4_price [.ref q] [(q, .inr (4, [.int fg]))] (X_X4_price fg) [(q, .inr (4, [.int fg]))] := by
  refine h_body_i (plainFor_of_name (by decide)) rfl (Nat.le_of_ble_eq_true rfl) (fun p e s m args below meth c A Q hx hb hml hown hts hK hA hX hret ls hP hD hS hl => ?_)
  have hl : lv_has ls 1 [(0, .ref q)] := hl
  obtain ⟨H, hH⟩ : ∃ H, H = s.heap := ⟨_, rfl⟩
  obtain ⟨locs, hlocs⟩ : ∃ z : List Loc, z = [] := ⟨_, rfl⟩
  have hS : va_S A s.heap H locs := by rw [hH, hlocs]; exact hS
  have hP : va_P D vwCl [(q, .inr (4, [.int fg]))] H := by rw [hH]; exact hP
  suffices h9 : W p l e rmX4_price s m args below meth c H locs 0 0 Q (F0 m 0 ls []) by rw [hH, hlocs] at h9; exact h9
  clear hH hlocs
  refine lv_aload_n hx hb dX4_price_0 rfl (lv_at hl 0 rfl) ?_
  refine h_su (own := RX4) (As := []) (rest := []) (hK.1 4 _ rfl).2 hx hb hml hown hts (okX6_price_4 z l D T q fg) (va_cwSU 0 hts gX4_price_X6_price_s14 rfl rfl rfl (by decide +kernel) ⟨Nat.le_of_ble_eq_true rfl, Nat.le_of_ble_eq_true rfl⟩) hK hA hX hP hD hS (perm_nil _) (perm_nil2 _) (ci := 4) (q0 := 0) rfl rfl rfl hl.1 rfl (Nat.le_of_ble_eq_true rfl) dX4_price_1 ⟨Nat.le_of_ble_eq_true rfl, Nat.le_of_ble_eq_true rfl⟩ (fun H locs hP hD hS => ?_)
  refine lv_iconst (v := (1 : Int32)) hx hb dX4_price_4 (by decide) ?_
  refine lv_isub hx hb dX4_price_5 ?_
  exact hret 6 H locs ls hP hD hS rfl dX4_price_6
set_option maxRecDepth 20000 in
theorem ggX5_burns_X6_burns : GoodIn wsX5_burns wsX6_burns := goodIn_r _ [6, 7, 8, 9, 10, 11, 12, 13, 14, 15, 16] (by decide +kernel) (by decide +kernel)
set_option maxRecDepth 20000 in
theorem gX5_burns_X6_burns_s7 : GoodIn wsX5_burns (va_wsSU RX5 7 yX6_burns wsX6_burns) := goodIn_app (goodIn_of _ (by decide +kernel)) ggX5_burns_X6_burns
theorem dX5_burns_0 : decode cX5_burns 0 = .ok (.aload_n 0, 1) := by decide +kernel
theorem dX5_burns_1 : decode cX5_burns 1 = .ok (.invokespecial 7, 3) := by decide +kernel
theorem dX5_burns_4 : decode cX5_burns 4 = .ok (.iconst 2, 1) := by decide +kernel
theorem dX5_burns_5 : decode cX5_burns 5 = .ok (.idiv, 1) := by decide +kernel
theorem dX5_burns_6 : decode cX5_burns 6 = .ok (.ireturn, 1) := by decide +kernel
abbrev rmX5_burns : Room := { frames := 1, cells := 0, slots := 0, locals := 20 }
theorem hdX5_burns : yX5_burns.cls = RX5 ∧ yX5_burns.cls ≠ "java/lang/invoke/MethodHandle" ∧ yX5_burns.cls ≠ "java/lang/invoke/VarHandle" ∧ (parseMethodDescriptor yX5_burns.desc).map (fun d => d.parameters.length) = some 0 := by decide +kernel
def X_X5_burns (fg : Int32) : Int32 := ((X_X6_burns fg) / (2 : Int32))
set_option maxRecDepth 100000 in
set_option maxHeartbeats 4000000 in
theorem okX5_burns_5 (z : Nat → Nat) (l : Launch) (D : va_G) (T : mT3) (q : Nat) (fg : Int32) : hCi z l D (cT T) yX5_burns wsX5_burns rmX5_burns [.ref q] [(q, .inr (5, [.int fg]))] (X_X5_burns fg) [(q, .inr (5, [.int fg]))] := by
  refine h_body_i (plainFor_of_name (by decide)) rfl (Nat.le_of_ble_eq_true rfl) (fun p e s m args below meth c A Q hx hb hml hown hts hK hA hX hret ls hP hD hS hl => ?_)
  have hl : lv_has ls 1 [(0, .ref q)] := hl
  obtain ⟨H, hH⟩ : ∃ H, H = s.heap := ⟨_, rfl⟩
  obtain ⟨locs, hlocs⟩ : ∃ z : List Loc, z = [] := ⟨_, rfl⟩
  have hS : va_S A s.heap H locs := by rw [hH, hlocs]; exact hS
  have hP : va_P D vwCl [(q, .inr (5, [.int fg]))] H := by rw [hH]; exact hP
  suffices h9 : W p l e rmX5_burns s m args below meth c H locs 0 0 Q (F0 m 0 ls []) by rw [hH, hlocs] at h9; exact h9
  clear hH hlocs
  refine lv_aload_n hx hb dX5_burns_0 rfl (lv_at hl 0 rfl) ?_
  refine h_su (own := RX5) (As := []) (rest := []) (hK.1 5 _ rfl).2 hx hb hml hown hts (okX6_burns_5 z l D T q fg) (va_cwSU 0 hts gX5_burns_X6_burns_s7 rfl rfl rfl (by decide +kernel) ⟨Nat.le_of_ble_eq_true rfl, Nat.le_of_ble_eq_true rfl⟩) hK hA hX hP hD hS (perm_nil _) (perm_nil2 _) (ci := 5) (q0 := 0) rfl rfl rfl hl.1 rfl (Nat.le_of_ble_eq_true rfl) dX5_burns_1 ⟨Nat.le_of_ble_eq_true rfl, Nat.le_of_ble_eq_true rfl⟩ (fun H locs hP hD hS => ?_)
  refine lv_iconst (v := (2 : Int32)) hx hb dX5_burns_4 (by decide) ?_
  refine lv_idiv hx hb dX5_burns_5 (by decide) ?_
  exact hret 6 H locs ls hP hD hS rfl dX5_burns_6
set_option maxRecDepth 20000 in
theorem ggX5_init_X6_init : GoodIn wsX5_init wsX6_init := goodIn_r _ [4, 5, 6, 7, 8, 9, 10, 11, 12, 13, 14, 15, 16, 17, 18, 19, 20] (by decide +kernel) (by decide +kernel)
set_option maxRecDepth 20000 in
theorem gX5_init_X6_init : GoodIn wsX5_init (wsX6_init) := ggX5_init_X6_init
theorem dX5_init_0 : decode cX5_init 0 = .ok (.aload_n 0, 1) := by decide +kernel
theorem dX5_init_1 : decode cX5_init 1 = .ok (.iload_n 1, 1) := by decide +kernel
theorem dX5_init_2 : decode cX5_init 2 = .ok (.invokespecial 1, 3) := by decide +kernel
theorem dX5_init_5 : decode cX5_init 5 = .ok (.return_, 1) := by decide +kernel
abbrev rmX5_init : Room := { frames := 3, cells := 0, slots := 0, locals := 54 }
theorem hdX5_init : yX5_init.cls = RX5 ∧ yX5_init.cls ≠ "java/lang/invoke/MethodHandle" ∧ yX5_init.cls ≠ "java/lang/invoke/VarHandle" ∧ (parseMethodDescriptor yX5_init.desc).map (fun d => d.parameters.length) = some 1 := by decide +kernel
set_option maxRecDepth 100000 in
set_option maxHeartbeats 4000000 in
theorem okX5_init_5 (z : Nat → Nat) (l : Launch) (D : va_G) (T : mT3) (q : Nat) (fg v1 : Int32) : hCv z l D (cT T) yX5_init wsX5_init rmX5_init [.ref q, .int v1] [(q, .inr (5, [.int fg]))] [(q, .inr (5, [.int v1]))] := by
  refine h_body_v (plainFor_of_name (by decide)) rfl (Nat.le_of_ble_eq_true rfl) (fun p e s m args below meth c A Q hx hb hml hown hts hK hA hX hin hret ls hP hD hS hl => ?_)
  have hin : meth.name = "<init>" := hin
  have hl : lv_has ls 2 [(0, .ref q), (1, .int v1)] := hl
  obtain ⟨H, hH⟩ : ∃ H, H = s.heap := ⟨_, rfl⟩
  obtain ⟨locs, hlocs⟩ : ∃ z : List Loc, z = [] := ⟨_, rfl⟩
  have hS : va_S A s.heap H locs := by rw [hH, hlocs]; exact hS
  have hP : va_P D vwCl [(q, .inr (5, [.int fg]))] H := by rw [hH]; exact hP
  suffices h9 : W p l e rmX5_init s m args below meth c H locs 0 0 Q (F0 m 0 ls []) by rw [hH, hlocs] at h9; exact h9
  clear hH hlocs
  refine lv_aload_n hx hb dX5_init_0 rfl (lv_at hl 0 rfl) ?_
  refine lv_iload_n hx hb dX5_init_1 rfl (lv_at hl 1 rfl) ?_
  refine h_in (own := RX5) (As := [.int v1]) (rest := []) hx hb hml hown hts (okX6_init_5 z l D T q fg v1) (cwI 1 hts gX5_init_X6_init rfl rfl rfl (hts (.initialized RX6) (by decide +kernel)) (hts (.methodLink RX5 1 yX6_init) (by decide +kernel)) (hts (.instanceMethod yX6_init) (by decide +kernel)) rfl (by decide +kernel) ⟨Nat.le_of_ble_eq_true rfl, Nat.le_of_ble_eq_true rfl⟩) hK hA hX hP hD hS (perm_nil _) (perm_nil2 _) rfl hl.1 rfl (Nat.le_of_ble_eq_true rfl) dX5_init_2 ⟨Nat.le_of_ble_eq_true rfl, Nat.le_of_ble_eq_true rfl⟩ (fun H locs hP hD hS => ?_)
  exact hret 5 H locs ls hP hD hS dX5_init_5
theorem dX5_kind_0 : decode cX5_kind 0 = .ok (.bipush 6, 2) := by decide +kernel
theorem dX5_kind_2 : decode cX5_kind 2 = .ok (.ireturn, 1) := by decide +kernel
abbrev rmX5_kind : Room := { frames := 0, cells := 0, slots := 0, locals := 0 }
theorem hdX5_kind : yX5_kind.cls = RX5 ∧ yX5_kind.cls ≠ "java/lang/invoke/MethodHandle" ∧ yX5_kind.cls ≠ "java/lang/invoke/VarHandle" ∧ (parseMethodDescriptor yX5_kind.desc).map (fun d => d.parameters.length) = some 0 := by decide +kernel
def X_X5_kind (fg : Int32) : Int32 := (6 : Int32)
set_option maxRecDepth 100000 in
set_option maxHeartbeats 4000000 in
theorem okX5_kind_5 (z : Nat → Nat) (l : Launch) (D : va_G) (T : mT3) (q : Nat) (fg : Int32) : hCi z l D (cT T) yX5_kind wsX5_kind rmX5_kind [.ref q] [(q, .inr (5, [.int fg]))] (X_X5_kind fg) [(q, .inr (5, [.int fg]))] := by
  refine h_body_i (plainFor_of_name (by decide)) rfl (Nat.le_of_ble_eq_true rfl) (fun p e s m args below meth c A Q hx hb hml hown hts hK hA hX hret ls hP hD hS hl => ?_)
  have hl : lv_has ls 1 [(0, .ref q)] := hl
  obtain ⟨H, hH⟩ : ∃ H, H = s.heap := ⟨_, rfl⟩
  obtain ⟨locs, hlocs⟩ : ∃ z : List Loc, z = [] := ⟨_, rfl⟩
  have hS : va_S A s.heap H locs := by rw [hH, hlocs]; exact hS
  have hP : va_P D vwCl [(q, .inr (5, [.int fg]))] H := by rw [hH]; exact hP
  suffices h9 : W p l e rmX5_kind s m args below meth c H locs 0 0 Q (F0 m 0 ls []) by rw [hH, hlocs] at h9; exact h9
  clear hH hlocs
  refine lv_bipush (v := (6 : Int32)) hx hb dX5_kind_0 (by decide) ?_
  exact hret 2 H locs ls hP hD hS rfl dX5_kind_2
set_option maxRecDepth 20000 in
theorem ggX5_price_X6_price : GoodIn wsX5_price wsX6_price := goodIn_r _ [6, 7, 8, 9, 10, 11, 12, 13, 14, 15, 16, 17, 18, 19, 20, 21, 22] (by decide +kernel) (by decide +kernel)
set_option maxRecDepth 20000 in
theorem gX5_price_X6_price_s11 : GoodIn wsX5_price (va_wsSU RX5 11 yX6_price wsX6_price) := goodIn_app (goodIn_of _ (by decide +kernel)) ggX5_price_X6_price
theorem dX5_price_0 : decode cX5_price 0 = .ok (.aload_n 0, 1) := by decide +kernel
theorem dX5_price_1 : decode cX5_price 1 = .ok (.invokespecial 11, 3) := by decide +kernel
theorem dX5_price_4 : decode cX5_price 4 = .ok (.iconst 2, 1) := by decide +kernel
theorem dX5_price_5 : decode cX5_price 5 = .ok (.imul, 1) := by decide +kernel
theorem dX5_price_6 : decode cX5_price 6 = .ok (.ireturn, 1) := by decide +kernel
abbrev rmX5_price : Room := { frames := 2, cells := 0, slots := 0, locals := 40 }
theorem hdX5_price : yX5_price.cls = RX5 ∧ yX5_price.cls ≠ "java/lang/invoke/MethodHandle" ∧ yX5_price.cls ≠ "java/lang/invoke/VarHandle" ∧ (parseMethodDescriptor yX5_price.desc).map (fun d => d.parameters.length) = some 0 := by decide +kernel
def X_X5_price (fg : Int32) : Int32 := ((X_X6_price fg) * (2 : Int32))
set_option maxRecDepth 100000 in
set_option maxHeartbeats 4000000 in
theorem okX5_price_5 (z : Nat → Nat) (l : Launch) (D : va_G) (T : mT3) (q : Nat) (fg : Int32) : hCi z l D (cT T) yX5_price wsX5_price rmX5_price [.ref q] [(q, .inr (5, [.int fg]))] (X_X5_price fg) [(q, .inr (5, [.int fg]))] := by
  refine h_body_i (plainFor_of_name (by decide)) rfl (Nat.le_of_ble_eq_true rfl) (fun p e s m args below meth c A Q hx hb hml hown hts hK hA hX hret ls hP hD hS hl => ?_)
  have hl : lv_has ls 1 [(0, .ref q)] := hl
  obtain ⟨H, hH⟩ : ∃ H, H = s.heap := ⟨_, rfl⟩
  obtain ⟨locs, hlocs⟩ : ∃ z : List Loc, z = [] := ⟨_, rfl⟩
  have hS : va_S A s.heap H locs := by rw [hH, hlocs]; exact hS
  have hP : va_P D vwCl [(q, .inr (5, [.int fg]))] H := by rw [hH]; exact hP
  suffices h9 : W p l e rmX5_price s m args below meth c H locs 0 0 Q (F0 m 0 ls []) by rw [hH, hlocs] at h9; exact h9
  clear hH hlocs
  refine lv_aload_n hx hb dX5_price_0 rfl (lv_at hl 0 rfl) ?_
  refine h_su (own := RX5) (As := []) (rest := []) (hK.1 5 _ rfl).2 hx hb hml hown hts (okX6_price_5 z l D T q fg) (va_cwSU 0 hts gX5_price_X6_price_s11 rfl rfl rfl (by decide +kernel) ⟨Nat.le_of_ble_eq_true rfl, Nat.le_of_ble_eq_true rfl⟩) hK hA hX hP hD hS (perm_nil _) (perm_nil2 _) (ci := 5) (q0 := 0) rfl rfl rfl hl.1 rfl (Nat.le_of_ble_eq_true rfl) dX5_price_1 ⟨Nat.le_of_ble_eq_true rfl, Nat.le_of_ble_eq_true rfl⟩ (fun H locs hP hD hS => ?_)
  refine lv_iconst (v := (2 : Int32)) hx hb dX5_price_4 (by decide) ?_
  refine lv_imul hx hb dX5_price_5 ?_
  exact hret 6 H locs ls hP hD hS rfl dX5_price_6
theorem dX6_kind_0 : decode cX6_kind 0 = .ok (.iconst 2, 1) := by decide +kernel
theorem dX6_kind_1 : decode cX6_kind 1 = .ok (.ireturn, 1) := by decide +kernel
abbrev rmX6_kind : Room := { frames := 0, cells := 0, slots := 0, locals := 0 }
theorem hdX6_kind : yX6_kind.cls = RX6 ∧ yX6_kind.cls ≠ "java/lang/invoke/MethodHandle" ∧ yX6_kind.cls ≠ "java/lang/invoke/VarHandle" ∧ (parseMethodDescriptor yX6_kind.desc).map (fun d => d.parameters.length) = some 0 := by decide +kernel
def X_X6_kind (fg : Int32) : Int32 := (2 : Int32)
set_option maxRecDepth 100000 in
set_option maxHeartbeats 4000000 in
theorem okX6_kind_6 (z : Nat → Nat) (l : Launch) (D : va_G) (T : mT3) (q : Nat) (fg : Int32) : hCi z l D (cT T) yX6_kind wsX6_kind rmX6_kind [.ref q] [(q, .inr (6, [.int fg]))] (X_X6_kind fg) [(q, .inr (6, [.int fg]))] := by
  refine h_body_i (plainFor_of_name (by decide)) rfl (Nat.le_of_ble_eq_true rfl) (fun p e s m args below meth c A Q hx hb hml hown hts hK hA hX hret ls hP hD hS hl => ?_)
  have hl : lv_has ls 1 [(0, .ref q)] := hl
  obtain ⟨H, hH⟩ : ∃ H, H = s.heap := ⟨_, rfl⟩
  obtain ⟨locs, hlocs⟩ : ∃ z : List Loc, z = [] := ⟨_, rfl⟩
  have hS : va_S A s.heap H locs := by rw [hH, hlocs]; exact hS
  have hP : va_P D vwCl [(q, .inr (6, [.int fg]))] H := by rw [hH]; exact hP
  suffices h9 : W p l e rmX6_kind s m args below meth c H locs 0 0 Q (F0 m 0 ls []) by rw [hH, hlocs] at h9; exact h9
  clear hH hlocs
  refine lv_iconst (v := (2 : Int32)) hx hb dX6_kind_0 (by decide) ?_
  exact hret 1 H locs ls hP hD hS rfl dX6_kind_1
set_option maxRecDepth 20000 in
theorem ggX9_bears_X0_bears : GoodIn wsX9_bears wsX0_bears := goodIn_r _ [6] (by decide +kernel) (by decide +kernel)
set_option maxRecDepth 20000 in
theorem gX9_bears_X0_bears_s7 : GoodIn wsX9_bears (va_wsSU RX9 7 yX0_bears wsX0_bears) := goodIn_app (goodIn_of _ (by decide +kernel)) ggX9_bears_X0_bears
theorem dX9_bears_0 : decode cX9_bears 0 = .ok (.aload_n 0, 1) := by decide +kernel
theorem dX9_bears_1 : decode cX9_bears 1 = .ok (.invokespecial 7, 3) := by decide +kernel
theorem dX9_bears_4 : decode cX9_bears 4 = .ok (.iconst 2, 1) := by decide +kernel
theorem dX9_bears_5 : decode cX9_bears 5 = .ok (.iadd, 1) := by decide +kernel
theorem dX9_bears_6 : decode cX9_bears 6 = .ok (.ireturn, 1) := by decide +kernel
abbrev rmX9_bears : Room := { frames := 1, cells := 0, slots := 0, locals := 20 }
theorem hdX9_bears : yX9_bears.cls = RX9 ∧ yX9_bears.cls ≠ "java/lang/invoke/MethodHandle" ∧ yX9_bears.cls ≠ "java/lang/invoke/VarHandle" ∧ (parseMethodDescriptor yX9_bears.desc).map (fun d => d.parameters.length) = some 0 := by decide +kernel
def X_X9_bears (fg : Int32) : Int32 := ((X_X0_bears fg) + (2 : Int32))
set_option maxRecDepth 100000 in
set_option maxHeartbeats 4000000 in
theorem okX9_bears_9 (z : Nat → Nat) (l : Launch) (D : va_G) (T : mT3) (q : Nat) (fg : Int32) : hCi z l D (cT T) yX9_bears wsX9_bears rmX9_bears [.ref q] [(q, .inr (9, [.int fg]))] (X_X9_bears fg) [(q, .inr (9, [.int fg]))] := by
  refine h_body_i (plainFor_of_name (by decide)) rfl (Nat.le_of_ble_eq_true rfl) (fun p e s m args below meth c A Q hx hb hml hown hts hK hA hX hret ls hP hD hS hl => ?_)
  have hl : lv_has ls 1 [(0, .ref q)] := hl
  obtain ⟨H, hH⟩ : ∃ H, H = s.heap := ⟨_, rfl⟩
  obtain ⟨locs, hlocs⟩ : ∃ z : List Loc, z = [] := ⟨_, rfl⟩
  have hS : va_S A s.heap H locs := by rw [hH, hlocs]; exact hS
  have hP : va_P D vwCl [(q, .inr (9, [.int fg]))] H := by rw [hH]; exact hP
  suffices h9 : W p l e rmX9_bears s m args below meth c H locs 0 0 Q (F0 m 0 ls []) by rw [hH, hlocs] at h9; exact h9
  clear hH hlocs
  refine lv_aload_n hx hb dX9_bears_0 rfl (lv_at hl 0 rfl) ?_
  refine h_su (own := RX9) (As := []) (rest := []) (hK.1 9 _ rfl).2 hx hb hml hown hts (okX0_bears_9 z l D T q fg) (va_cwSU 0 hts gX9_bears_X0_bears_s7 rfl rfl rfl (by decide +kernel) ⟨Nat.le_of_ble_eq_true rfl, Nat.le_of_ble_eq_true rfl⟩) hK hA hX hP hD hS (perm_nil _) (perm_nil2 _) (ci := 9) (q0 := 0) rfl rfl rfl hl.1 rfl (Nat.le_of_ble_eq_true rfl) dX9_bears_1 ⟨Nat.le_of_ble_eq_true rfl, Nat.le_of_ble_eq_true rfl⟩ (fun H locs hP hD hS => ?_)
  refine lv_iconst (v := (2 : Int32)) hx hb dX9_bears_4 (by decide) ?_
  refine lv_iadd hx hb dX9_bears_5 ?_
  exact hret 6 H locs ls hP hD hS rfl dX9_bears_6
set_option maxRecDepth 20000 in
theorem ggX9_init_X0_init : GoodIn wsX9_init wsX0_init := goodIn_r _ [4, 5, 6, 7, 8, 9, 10, 11, 12, 13, 14, 15, 16] (by decide +kernel) (by decide +kernel)
set_option maxRecDepth 20000 in
theorem gX9_init_X0_init : GoodIn wsX9_init (wsX0_init) := ggX9_init_X0_init
theorem dX9_init_0 : decode cX9_init 0 = .ok (.aload_n 0, 1) := by decide +kernel
theorem dX9_init_1 : decode cX9_init 1 = .ok (.iload_n 1, 1) := by decide +kernel
theorem dX9_init_2 : decode cX9_init 2 = .ok (.invokespecial 1, 3) := by decide +kernel
theorem dX9_init_5 : decode cX9_init 5 = .ok (.return_, 1) := by decide +kernel
abbrev rmX9_init : Room := { frames := 2, cells := 0, slots := 0, locals := 33 }
theorem hdX9_init : yX9_init.cls = RX9 ∧ yX9_init.cls ≠ "java/lang/invoke/MethodHandle" ∧ yX9_init.cls ≠ "java/lang/invoke/VarHandle" ∧ (parseMethodDescriptor yX9_init.desc).map (fun d => d.parameters.length) = some 1 := by decide +kernel
set_option maxRecDepth 100000 in
set_option maxHeartbeats 4000000 in
theorem okX9_init_9 (z : Nat → Nat) (l : Launch) (D : va_G) (T : mT3) (q : Nat) (fg v1 : Int32) : hCv z l D (cT T) yX9_init wsX9_init rmX9_init [.ref q, .int v1] [(q, .inr (9, [.int fg]))] [(q, .inr (9, [.int v1]))] := by
  refine h_body_v (plainFor_of_name (by decide)) rfl (Nat.le_of_ble_eq_true rfl) (fun p e s m args below meth c A Q hx hb hml hown hts hK hA hX hin hret ls hP hD hS hl => ?_)
  have hin : meth.name = "<init>" := hin
  have hl : lv_has ls 2 [(0, .ref q), (1, .int v1)] := hl
  obtain ⟨H, hH⟩ : ∃ H, H = s.heap := ⟨_, rfl⟩
  obtain ⟨locs, hlocs⟩ : ∃ z : List Loc, z = [] := ⟨_, rfl⟩
  have hS : va_S A s.heap H locs := by rw [hH, hlocs]; exact hS
  have hP : va_P D vwCl [(q, .inr (9, [.int fg]))] H := by rw [hH]; exact hP
  suffices h9 : W p l e rmX9_init s m args below meth c H locs 0 0 Q (F0 m 0 ls []) by rw [hH, hlocs] at h9; exact h9
  clear hH hlocs
  refine lv_aload_n hx hb dX9_init_0 rfl (lv_at hl 0 rfl) ?_
  refine lv_iload_n hx hb dX9_init_1 rfl (lv_at hl 1 rfl) ?_
  refine h_in (own := RX9) (As := [.int v1]) (rest := []) hx hb hml hown hts (okX0_init_9 z l D T q fg v1) (cwI 1 hts gX9_init_X0_init rfl rfl rfl (hts (.initialized RX0) (by decide +kernel)) (hts (.methodLink RX9 1 yX0_init) (by decide +kernel)) (hts (.instanceMethod yX0_init) (by decide +kernel)) rfl (by decide +kernel) ⟨Nat.le_of_ble_eq_true rfl, Nat.le_of_ble_eq_true rfl⟩) hK hA hX hP hD hS (perm_nil _) (perm_nil2 _) rfl hl.1 rfl (Nat.le_of_ble_eq_true rfl) dX9_init_2 ⟨Nat.le_of_ble_eq_true rfl, Nat.le_of_ble_eq_true rfl⟩ (fun H locs hP hD hS => ?_)
  exact hret 5 H locs ls hP hD hS dX9_init_5
theorem dX9_kind_0 : decode cX9_kind 0 = .ok (.bipush 7, 2) := by decide +kernel
theorem dX9_kind_2 : decode cX9_kind 2 = .ok (.ireturn, 1) := by decide +kernel
abbrev rmX9_kind : Room := { frames := 0, cells := 0, slots := 0, locals := 0 }
theorem hdX9_kind : yX9_kind.cls = RX9 ∧ yX9_kind.cls ≠ "java/lang/invoke/MethodHandle" ∧ yX9_kind.cls ≠ "java/lang/invoke/VarHandle" ∧ (parseMethodDescriptor yX9_kind.desc).map (fun d => d.parameters.length) = some 0 := by decide +kernel
def X_X9_kind (fg : Int32) : Int32 := (7 : Int32)
set_option maxRecDepth 100000 in
set_option maxHeartbeats 4000000 in
theorem okX9_kind_9 (z : Nat → Nat) (l : Launch) (D : va_G) (T : mT3) (q : Nat) (fg : Int32) : hCi z l D (cT T) yX9_kind wsX9_kind rmX9_kind [.ref q] [(q, .inr (9, [.int fg]))] (X_X9_kind fg) [(q, .inr (9, [.int fg]))] := by
  refine h_body_i (plainFor_of_name (by decide)) rfl (Nat.le_of_ble_eq_true rfl) (fun p e s m args below meth c A Q hx hb hml hown hts hK hA hX hret ls hP hD hS hl => ?_)
  have hl : lv_has ls 1 [(0, .ref q)] := hl
  obtain ⟨H, hH⟩ : ∃ H, H = s.heap := ⟨_, rfl⟩
  obtain ⟨locs, hlocs⟩ : ∃ z : List Loc, z = [] := ⟨_, rfl⟩
  have hS : va_S A s.heap H locs := by rw [hH, hlocs]; exact hS
  have hP : va_P D vwCl [(q, .inr (9, [.int fg]))] H := by rw [hH]; exact hP
  suffices h9 : W p l e rmX9_kind s m args below meth c H locs 0 0 Q (F0 m 0 ls []) by rw [hH, hlocs] at h9; exact h9
  clear hH hlocs
  refine lv_bipush (v := (7 : Int32)) hx hb dX9_kind_0 (by decide) ?_
  exact hret 2 H locs ls hP hD hS rfl dX9_kind_2
set_option maxRecDepth 20000 in
theorem ggX9_price_X0_price : GoodIn wsX9_price wsX0_price := goodIn_r _ [8] (by decide +kernel) (by decide +kernel)
set_option maxRecDepth 20000 in
theorem gX9_price_X0_price_s11 : GoodIn wsX9_price (va_wsSU RX9 11 yX0_price wsX0_price) := goodIn_app (goodIn_of _ (by decide +kernel)) ggX9_price_X0_price
theorem dX9_price_0 : decode cX9_price 0 = .ok (.aload_n 0, 1) := by decide +kernel
theorem dX9_price_1 : decode cX9_price 1 = .ok (.invokespecial 11, 3) := by decide +kernel
theorem dX9_price_4 : decode cX9_price 4 = .ok (.bipush 8, 2) := by decide +kernel
theorem dX9_price_6 : decode cX9_price 6 = .ok (.iadd, 1) := by decide +kernel
theorem dX9_price_7 : decode cX9_price 7 = .ok (.aload_n 0, 1) := by decide +kernel
theorem dX9_price_8 : decode cX9_price 8 = .ok (.getfield 14, 3) := by decide +kernel
theorem dX9_price_11 : decode cX9_price 11 = .ok (.iadd, 1) := by decide +kernel
theorem dX9_price_12 : decode cX9_price 12 = .ok (.ireturn, 1) := by decide +kernel
abbrev rmX9_price : Room := { frames := 1, cells := 0, slots := 0, locals := 20 }
theorem hdX9_price : yX9_price.cls = RX9 ∧ yX9_price.cls ≠ "java/lang/invoke/MethodHandle" ∧ yX9_price.cls ≠ "java/lang/invoke/VarHandle" ∧ (parseMethodDescriptor yX9_price.desc).map (fun d => d.parameters.length) = some 0 := by decide +kernel
def X_X9_price (fg : Int32) : Int32 := (((X_X0_price fg) + (8 : Int32)) + fg)
set_option maxRecDepth 100000 in
set_option maxHeartbeats 4000000 in
theorem okX9_price_9 (z : Nat → Nat) (l : Launch) (D : va_G) (T : mT3) (q : Nat) (fg : Int32) : hCi z l D (cT T) yX9_price wsX9_price rmX9_price [.ref q] [(q, .inr (9, [.int fg]))] (X_X9_price fg) [(q, .inr (9, [.int fg]))] := by
  refine h_body_i (plainFor_of_name (by decide)) rfl (Nat.le_of_ble_eq_true rfl) (fun p e s m args below meth c A Q hx hb hml hown hts hK hA hX hret ls hP hD hS hl => ?_)
  have hl : lv_has ls 1 [(0, .ref q)] := hl
  obtain ⟨H, hH⟩ : ∃ H, H = s.heap := ⟨_, rfl⟩
  obtain ⟨locs, hlocs⟩ : ∃ z : List Loc, z = [] := ⟨_, rfl⟩
  have hS : va_S A s.heap H locs := by rw [hH, hlocs]; exact hS
  have hP : va_P D vwCl [(q, .inr (9, [.int fg]))] H := by rw [hH]; exact hP
  suffices h9 : W p l e rmX9_price s m args below meth c H locs 0 0 Q (F0 m 0 ls []) by rw [hH, hlocs] at h9; exact h9
  clear hH hlocs
  refine lv_aload_n hx hb dX9_price_0 rfl (lv_at hl 0 rfl) ?_
  refine h_su (own := RX9) (As := []) (rest := []) (hK.1 9 _ rfl).2 hx hb hml hown hts (okX0_price_9 z l D T q fg) (va_cwSU 0 hts gX9_price_X0_price_s11 rfl rfl rfl (by decide +kernel) ⟨Nat.le_of_ble_eq_true rfl, Nat.le_of_ble_eq_true rfl⟩) hK hA hX hP hD hS (perm_nil _) (perm_nil2 _) (ci := 9) (q0 := 0) rfl rfl rfl hl.1 rfl (Nat.le_of_ble_eq_true rfl) dX9_price_1 ⟨Nat.le_of_ble_eq_true rfl, Nat.le_of_ble_eq_true rfl⟩ (fun H locs hP hD hS => ?_)
  refine lv_bipush (v := (8 : Int32)) hx hb dX9_price_4 (by decide) ?_
  refine lv_iadd hx hb dX9_price_6 ?_
  refine lv_aload_n hx hb dX9_price_7 rfl (lv_at hl 0 rfl) ?_
  refine va_get (D := D) (ci := 9) (v := .int fg) (C := RX9) (T := TX9) (N := 1) hx hb hts (by decide +kernel) hown hK hP 0 rfl rfl 0 (by decide) (hts (.fieldLink RX9 14 RX9 "figure" "I") (by decide +kernel)) (fun x9 h9 => u_same (hts (.sameField RX9 RX0 "figure" "I") (by decide +kernel)) x9 h9) rfl dX9_price_8 ?_
  refine lv_iadd hx hb dX9_price_11 ?_
  exact hret 12 H locs ls hP hD hS rfl dX9_price_12
abbrev BK : Type := Nat × Int32
def kiB (k : BK) : Int32 := match k.1 with
  | 0 => X_X0_kind k.2
  | 1 => X_X2_kind k.2
  | 2 => X_X6_kind k.2
  | 3 => X_X4_kind k.2
  | 4 => X_X1_kind k.2
  | 5 => X_X3_kind k.2
  | 6 => X_X5_kind k.2
  | _ => X_X9_kind k.2
def beB (k : BK) : Int32 := match k.1 with
  | 0 => X_X0_bears k.2
  | 1 => X_X2_bears k.2
  | 2 => X_X6_bears k.2
  | 3 => X_X4_bears k.2
  | 4 => X_X1_bears k.2
  | 5 => X_X3_bears k.2
  | 6 => X_X6_bears k.2
  | _ => X_X9_bears k.2
def buB (k : BK) : Int32 := match k.1 with
  | 0 => X_X0_burns k.2
  | 1 => X_X0_burns k.2
  | 2 => X_X6_burns k.2
  | 3 => X_X4_burns k.2
  | 4 => X_X0_burns k.2
  | 5 => X_X0_burns k.2
  | 6 => X_X5_burns k.2
  | _ => X_X0_burns k.2
def prB (k : BK) : Int32 := match k.1 with
  | 0 => X_X0_price k.2
  | 1 => X_X2_price k.2
  | 2 => X_X6_price k.2
  | 3 => X_X4_price k.2
  | 4 => X_X1_price k.2
  | 5 => X_X3_price k.2
  | 6 => X_X5_price k.2
  | _ => X_X9_price k.2
