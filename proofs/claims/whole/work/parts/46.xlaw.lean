theorem hdX10_element : yX10_element.cls = RX10 ∧ yX10_element.cls ≠ "java/lang/invoke/MethodHandle" ∧ yX10_element.cls ≠ "java/lang/invoke/VarHandle" ∧ (parseMethodDescriptor yX10_element.desc).map (fun d => d.parameters.length) = some 2 := by decide +kernel
section YCALL
variable {p : Program} {l : Launch} {e : Env} {R : Room} {s : State} {m : MethodId} {args : Array Value} {below : List Frame} {meth : Method} {c : Code} {H : Heap} {locs : List Loc} {cells slots : Nat} {Q : State → Prop}
variable {pc : Nat} {ls : Array Slot} {rest st0 : List Value} {A : Nat → Prop} {cc bytes : ByteArray} {nL maxL index n : Nat} {ret : Option FieldType} {Ts ws : List Cond} {rm : Room} {own host : String} {y : MethodName} {D : va_G} {As : List Value} {b0 : Nat} {z e0 b : Nat → Nat} {T : mT3} {xa : XA} {xs xs' : XS} {S : XA → XA → Prop} {wd wr : va_W}
theorem y_vi {r : Int32} {ci q0 : Nat} {fs : List Value} {qc : vw_C} (hx : p.tables.exec = Jvm.exec) (hb : c.code = cc) (hml : c.maxLocals = nL) (hown : s.vm.findClass own = some m.cls) (hts : ∀ w ∈ Ts, w.before args s = true)
    (hM : hXi S z l D T b y ws rm (.ref b0 :: As) xa xs r xs') (cw : CallW R s args own qc.1 index y bytes maxL ret ws rm rm.cells rm.slots n)
    (hK0 : va_K D vwCl (cT T) s) (hA : ∀ q : Nat, s.heap.size ≤ q → A q) (hX : xS z A s s.heap) (hP : va_P D vwCl wd H) (hD : va_D A wd) (hS : va_S A s.heap H locs) (hp : wd.Perm (xW b T xa xs ++ wr)) (hc : vwCl[ci]? = some qc) (he : (xW b T xa xs)[q0]? = some (b0, .inr (ci, fs)))
    (hn : As.length = n) (hsize : ls.size = nL) (hstack : st0 = As.reverse ++ .ref b0 :: rest) (hW : (rest.map fun v => v.category).sum ≤ 8) (hdg : decode cc pc = .ok (.invokevirtual index, 3)) (hf : cells + rm.cells ≤ R.cells ∧ slots + rm.slots ≤ R.slots)
    (kk : ∀ (xa' : XA) (H1 : Heap) (locs1 : List Loc), xRel b xa' xs' → S xa xa' → va_P D vwCl (xW b T xa' xs' ++ wr) H1 → va_D A (xW b T xa' xs' ++ wr) → va_S A s.heap H1 locs1 → W p l e R s m args below meth c H1 locs1 (cells + rm.cells) (slots + rm.slots) Q (F0 m (pc + 3) ls (.int r :: rest))) :
    W p l e R s m args below meth c H locs cells slots Q (F0 m pc ls st0) := by
  have hs0 : ∀ q ∈ xW b T xa xs, q ∈ wd := fun q hq => hp.mem_iff.mpr (List.mem_append_left _ hq)
  have hF := h_freeS (w0 := xW b T xa xs) hD hS hA hs0
  have hP0 : va_P D vwCl (xW b T xa xs) H := hP.mono hs0
  have hD0 := hD.sub2 hp
  refine va_calli (va_runV (As := As) (rest := rest) ⟨hx, hb, hml, hown, hts⟩ (hM H.size) cw ⟨h_blind, va_recv hK0 hP0 hc he, h_pre hX hS hK0 hP0 hD0 hF⟩ rfl hn hsize hstack (lv_room hW) hdg hf) hS (fun q _ h => hF q h) hF (fun r' u t H1 locs1 ht hvm hw hB hz1 hk1 hS1 => ?_)
  obtain ⟨hP1, -, hD1⟩ := hB
  rw [ht] at hP1
  obtain ⟨h1, h2⟩ := h_after hP hD hp (List.Perm.refl _) hF hk1 hP1 hD1
  obtain ⟨hw0, hw1, hw2⟩ := hw
  subst hw0
  exact kk u H1 locs1 hw1 hw2 h1 h2 hS1
theorem y_vl {r : Int64} {ci q0 : Nat} {fs : List Value} {qc : vw_C} (hx : p.tables.exec = Jvm.exec) (hb : c.code = cc) (hml : c.maxLocals = nL) (hown : s.vm.findClass own = some m.cls) (hts : ∀ w ∈ Ts, w.before args s = true)
    (hM : hXl S z l D T b y ws rm (.ref b0 :: As) xa xs r xs') (cw : CallW R s args own qc.1 index y bytes maxL ret ws rm rm.cells rm.slots n)
    (hK0 : va_K D vwCl (cT T) s) (hA : ∀ q : Nat, s.heap.size ≤ q → A q) (hX : xS z A s s.heap) (hP : va_P D vwCl wd H) (hD : va_D A wd) (hS : va_S A s.heap H locs) (hp : wd.Perm (xW b T xa xs ++ wr)) (hc : vwCl[ci]? = some qc) (he : (xW b T xa xs)[q0]? = some (b0, .inr (ci, fs)))
    (hn : As.length = n) (hsize : ls.size = nL) (hstack : st0 = As.reverse ++ .ref b0 :: rest) (hW : (rest.map fun v => v.category).sum ≤ 8) (hdg : decode cc pc = .ok (.invokevirtual index, 3)) (hf : cells + rm.cells ≤ R.cells ∧ slots + rm.slots ≤ R.slots)
    (kk : ∀ (xa' : XA) (H1 : Heap) (locs1 : List Loc), xRel b xa' xs' → S xa xa' → va_P D vwCl (xW b T xa' xs' ++ wr) H1 → va_D A (xW b T xa' xs' ++ wr) → va_S A s.heap H1 locs1 → W p l e R s m args below meth c H1 locs1 (cells + rm.cells) (slots + rm.slots) Q (F0 m (pc + 3) ls (.long r :: rest))) :
    W p l e R s m args below meth c H locs cells slots Q (F0 m pc ls st0) := by
  have hs0 : ∀ q ∈ xW b T xa xs, q ∈ wd := fun q hq => hp.mem_iff.mpr (List.mem_append_left _ hq)
  have hF := h_freeS (w0 := xW b T xa xs) hD hS hA hs0
  have hP0 : va_P D vwCl (xW b T xa xs) H := hP.mono hs0
  have hD0 := hD.sub2 hp
  refine va_calll (va_runV (As := As) (rest := rest) ⟨hx, hb, hml, hown, hts⟩ (hM H.size) cw ⟨h_blind, va_recv hK0 hP0 hc he, h_pre hX hS hK0 hP0 hD0 hF⟩ rfl hn hsize hstack (lv_room hW) hdg hf) hS (fun q _ h => hF q h) hF (fun r' u t H1 locs1 ht hvm hw hB hz1 hk1 hS1 => ?_)
  obtain ⟨hP1, -, hD1⟩ := hB
  rw [ht] at hP1
  obtain ⟨h1, h2⟩ := h_after hP hD hp (List.Perm.refl _) hF hk1 hP1 hD1
  obtain ⟨hw0, hw1, hw2⟩ := hw
  subst hw0
  exact kk u H1 locs1 hw1 hw2 h1 h2 hS1
theorem y_vv {ci q0 : Nat} {fs : List Value} {qc : vw_C} (hx : p.tables.exec = Jvm.exec) (hb : c.code = cc) (hml : c.maxLocals = nL) (hown : s.vm.findClass own = some m.cls) (hts : ∀ w ∈ Ts, w.before args s = true)
    (hM : hXv S z l D T b y ws rm (.ref b0 :: As) xa xs xs') (cw : CallW R s args own qc.1 index y bytes maxL ret ws rm rm.cells rm.slots n)
    (hK0 : va_K D vwCl (cT T) s) (hA : ∀ q : Nat, s.heap.size ≤ q → A q) (hX : xS z A s s.heap) (hP : va_P D vwCl wd H) (hD : va_D A wd) (hS : va_S A s.heap H locs) (hp : wd.Perm (xW b T xa xs ++ wr)) (hc : vwCl[ci]? = some qc) (he : (xW b T xa xs)[q0]? = some (b0, .inr (ci, fs)))
    (hn : As.length = n) (hsize : ls.size = nL) (hstack : st0 = As.reverse ++ .ref b0 :: rest) (hW : (rest.map fun v => v.category).sum ≤ 8) (hdg : decode cc pc = .ok (.invokevirtual index, 3)) (hf : cells + rm.cells ≤ R.cells ∧ slots + rm.slots ≤ R.slots)
    (kk : ∀ (xa' : XA) (H1 : Heap) (locs1 : List Loc), xRel b xa' xs' → S xa xa' → va_P D vwCl (xW b T xa' xs' ++ wr) H1 → va_D A (xW b T xa' xs' ++ wr) → va_S A s.heap H1 locs1 → W p l e R s m args below meth c H1 locs1 (cells + rm.cells) (slots + rm.slots) Q (F0 m (pc + 3) ls (rest))) :
    W p l e R s m args below meth c H locs cells slots Q (F0 m pc ls st0) := by
  have hs0 : ∀ q ∈ xW b T xa xs, q ∈ wd := fun q hq => hp.mem_iff.mpr (List.mem_append_left _ hq)
  have hF := h_freeS (w0 := xW b T xa xs) hD hS hA hs0
  have hP0 : va_P D vwCl (xW b T xa xs) H := hP.mono hs0
  have hD0 := hD.sub2 hp
  refine va_callv (va_runV (As := As) (rest := rest) ⟨hx, hb, hml, hown, hts⟩ (hM H.size) cw ⟨h_blind, va_recv hK0 hP0 hc he, h_pre hX hS hK0 hP0 hD0 hF⟩ rfl hn hsize hstack (lv_room hW) hdg hf) hS (fun q _ h => hF q h) hF (fun u t H1 locs1 ht hvm hw hB hz1 hk1 hS1 => ?_)
  obtain ⟨hP1, -, hD1⟩ := hB
  rw [ht] at hP1
  obtain ⟨h1, h2⟩ := h_after hP hD hp (List.Perm.refl _) hF hk1 hP1 hD1
  exact kk u H1 locs1 hw.1 hw.2 h1 h2 hS1
theorem y_eX {o : Nat} {r : Int64} {ci q0 : Nat} {fs : List Value} {qc : vw_C} (hx : p.tables.exec = Jvm.exec) (hb : c.code = cc) (hml : c.maxLocals = nL) (hown : s.vm.findClass own = some m.cls) (hts : ∀ w ∈ Ts, w.before args s = true)
    (hM : eX z e0 l D T b y ws rm (.ref b0 :: As) xa xs o r xs') (cw : CallW R s args own qc.1 index y bytes maxL ret ws rm rm.cells rm.slots n) (hE : xE e0 A s s.heap)
    (hK0 : va_K D vwCl (cT T) s) (hA : ∀ q : Nat, s.heap.size ≤ q → A q) (hX : xS z A s s.heap) (hP : va_P D vwCl wd H) (hD : va_D A wd) (hS : va_S A s.heap H locs) (hp : wd.Perm (xW b T xa xs ++ wr)) (hc : vwCl[ci]? = some qc) (he : (xW b T xa xs)[q0]? = some (b0, .inr (ci, fs)))
    (hn : As.length = n) (hsize : ls.size = nL) (hstack : st0 = As.reverse ++ .ref b0 :: rest) (hW : (rest.map fun v => v.category).sum ≤ 8) (hdg : decode cc pc = .ok (.invokevirtual index, 3)) (hf : cells + rm.cells ≤ R.cells ∧ slots + rm.slots ≤ R.slots)
    (kx : ∀ (E : String) (ce : Cell) (q9 : Addr) (xa' : XA) (H1 : Heap) (locs1 : List Loc), ((o = 1 ∧ E = "java/lang/IllegalArgumentException") ∨ (o = 2 ∧ E = "java/lang/IllegalStateException")) → xRel b xa' xs' → xSub xa xa' → va_P D vwCl (xW b T xa' xs' ++ wr) H1 → va_D A (xW b T xa' xs' ++ wr) → va_S A s.heap H1 locs1 → H1[q9]? = some ce → ce.vm = .none → s.vm.findClass E = some ce.cls → vx_W p l e R s m args below meth c H1 locs1 (cells + rm.cells) (slots + rm.slots) Q (F0 m pc ls rest) q9)
    (kk : ∀ (xa' : XA) (H1 : Heap) (locs1 : List Loc), o = 0 → xRel b xa' xs' → xSub xa xa' → va_P D vwCl (xW b T xa' xs' ++ wr) H1 → va_D A (xW b T xa' xs' ++ wr) → va_S A s.heap H1 locs1 → W p l e R s m args below meth c H1 locs1 (cells + rm.cells) (slots + rm.slots) Q (F0 m (pc + 3) ls (.long r :: rest))) :
    W p l e R s m args below meth c H locs cells slots Q (F0 m pc ls st0) := by
  have hs0 : ∀ q ∈ xW b T xa xs, q ∈ wd := fun q hq => hp.mem_iff.mpr (List.mem_append_left _ hq)
  have hF := h_freeS (w0 := xW b T xa xs) hD hS hA hs0
  have hP0 : va_P D vwCl (xW b T xa xs) H := hP.mono hs0
  have hD0 := hD.sub2 hp
  refine vx_calll (vx_runV (As := As) (rest := rest) ⟨hx, hb, hml, hown, hts⟩ (hM H.size) cw ⟨hxE_blind, va_recv hK0 hP0 hc he, hE_pre (p := p) (l := l) hX hE hS hK0 hP0 hD0 hF⟩ rfl hn hsize hstack (lv_room hW) hdg hf) hS (fun q _ h => hF q h) hF (fun q _ h => hF q h) (fun E ce q9 u t H1 locs1 ht _ hn hB hz1 hk1 hS1 hce hcv hcl => ?_) (fun r' u t H1 locs1 ht hvm hw hB hz1 hk1 hS1 => ?_)
  · obtain ⟨hEX, hP1, hD1⟩ := hB
    rw [ht] at hP1
    obtain ⟨h1, h2⟩ := h_after hP hD hp (List.Perm.refl _) hF hk1 hP1 hD1
    exact kx E ce q9 u H1 locs1 hEX hn.1 hn.2 h1 h2 hS1 hce hcv hcl
  · obtain ⟨hP1, -, hD1⟩ := hB
    rw [ht] at hP1
    obtain ⟨h1, h2⟩ := h_after hP hD hp (List.Perm.refl _) hF hk1 hP1 hD1
    obtain ⟨hw0, hw1, hw2, hw3⟩ := hw
    subst hw1
    exact kk u H1 locs1 hw0 hw2 hw3 h1 h2 hS1
theorem y_vE {r : Int32} {hh : List (Nat × Nat × Nat × Nat)} {ci q0 : Nat} {fs : List Value} {qc : vw_C} (hx : p.tables.exec = Jvm.exec) (hb : c.code = cc) (hml : c.maxLocals = nL) (hown : s.vm.findClass own = some m.cls) (hts : ∀ w ∈ Ts, w.before args s = true)
    (hM : hXE S z e0 l D T b y ws rm (.ref b0 :: As) xa xs r xs') (cw : vx_CVW R s args own qc.1 index y bytes maxL ret hh ws rm rm.cells rm.slots n) (hE : xE e0 A s s.heap)
    (hK0 : va_K D vwCl (cT T) s) (hA : ∀ q : Nat, s.heap.size ≤ q → A q) (hX : xS z A s s.heap) (hP : va_P D vwCl wd H) (hD : va_D A wd) (hS : va_S A s.heap H locs) (hp : wd.Perm (xW b T xa xs ++ wr)) (hc : vwCl[ci]? = some qc) (he : (xW b T xa xs)[q0]? = some (b0, .inr (ci, fs)))
    (hn : As.length = n) (hsize : ls.size = nL) (hstack : st0 = As.reverse ++ .ref b0 :: rest) (hW : (rest.map fun v => v.category).sum ≤ 8) (hdg : decode cc pc = .ok (.invokevirtual index, 3)) (hf : cells + rm.cells ≤ R.cells ∧ slots + rm.slots ≤ R.slots)
    (kk : ∀ (xa' : XA) (H1 : Heap) (locs1 : List Loc), xRel b xa' xs' → S xa xa' → va_P D vwCl (xW b T xa' xs' ++ wr) H1 → va_D A (xW b T xa' xs' ++ wr) → va_S A s.heap H1 locs1 → W p l e R s m args below meth c H1 locs1 (cells + rm.cells) (slots + rm.slots) Q (F0 m (pc + 3) ls (.int r :: rest))) :
    W p l e R s m args below meth c H locs cells slots Q (F0 m pc ls st0) := by
  have hs0 : ∀ q ∈ xW b T xa xs, q ∈ wd := fun q hq => hp.mem_iff.mpr (List.mem_append_left _ hq)
  have hF := h_freeS (w0 := xW b T xa xs) hD hS hA hs0
  have hP0 : va_P D vwCl (xW b T xa xs) H := hP.mono hs0
  have hD0 := hD.sub2 hp
  refine va_calli (vx_runVW (As := As) (rest := rest) ⟨hx, hb, hml, hown, hts⟩ (hM H.size) cw ⟨hxE_blind, va_recv hK0 hP0 hc he, hE_pre (p := p) (l := l) hX hE hS hK0 hP0 hD0 hF⟩ rfl hn hsize hstack (lv_room hW) hdg hf) hS (fun q _ h => hF q h) hF (fun r' u t H1 locs1 ht hvm hw hB hz1 hk1 hS1 => ?_)
  obtain ⟨hP1, -, hD1⟩ := hB
  rw [ht] at hP1
  obtain ⟨h1, h2⟩ := h_after hP hD hp (List.Perm.refl _) hF hk1 hP1 hD1
  obtain ⟨hw0, hw1, hw2⟩ := hw
  subst hw0
  exact kk u H1 locs1 hw1 hw2 h1 h2 hS1
end YCALL
section MCALL
variable {p : Program} {l : Launch} {e : Env} {R : Room} {s : State} {m : MethodId} {args : Array Value} {below : List Frame} {meth : Method} {c : Code} {H : Heap} {locs : List Loc} {cells slots : Nat} {Q : State → Prop}
variable {pc : Nat} {ls : Array Slot} {rest st0 : List Value} {A : Nat → Prop} {cc bytes : ByteArray} {nL maxL index n : Nat} {ret : Option FieldType} {Ts ws : List Cond} {rm : Room} {own : String} {y : MethodName} {D : va_G} {tys0 : List (ClassId × FieldType)} {w0 w1 wd wr wd' : va_W} {As : List Value} {b : Nat}
theorem y_mi {r : Int32} {ci q0 : Nat} {fs : List Value} {qc : vw_C} (hx : p.tables.exec = Jvm.exec) (hb : c.code = cc) (hml : c.maxLocals = nL) (hown : s.vm.findClass own = some m.cls) (hts : ∀ w ∈ Ts, w.before args s = true)
    (hM : gCi l D tys0 y ws rm (.ref b :: As) w0 r w1) (cw : CallW R s args own qc.1 index y bytes maxL ret ws rm rm.cells rm.slots n)
    (hK0 : va_K D vwCl tys0 s) (hA : ∀ q : Nat, s.heap.size ≤ q → A q) (hP : va_P D vwCl wd H) (hD : va_D A wd) (hS : va_S A s.heap H locs) (hp : wd.Perm (w0 ++ wr)) (hp' : (w1 ++ wr).Perm wd') (hc : vwCl[ci]? = some qc) (he : w0[q0]? = some (b, .inr (ci, fs)))
    (hn : As.length = n) (hsize : ls.size = nL) (hstack : st0 = As.reverse ++ .ref b :: rest) (hW : (rest.map fun v => v.category).sum ≤ 8) (hdg : decode cc pc = .ok (.invokevirtual index, 3)) (hf : cells + rm.cells ≤ R.cells ∧ slots + rm.slots ≤ R.slots)
    (kk : ∀ (H1 : Heap) (locs1 : List Loc), va_P D vwCl wd' H1 → va_D A wd' → va_S A s.heap H1 locs1 → W p l e R s m args below meth c H1 locs1 (cells + rm.cells) (slots + rm.slots) Q (F0 m (pc + 3) ls (.int r :: rest))) :
    W p l e R s m args below meth c H locs cells slots Q (F0 m pc ls st0) := by
  have hs0 : ∀ q ∈ w0, q ∈ wd := fun q hq => hp.mem_iff.mpr (List.mem_append_left _ hq)
  have hF := h_freeS (w0 := w0) hD hS hA hs0
  have hP0 : va_P D vwCl w0 H := hP.mono hs0
  have hD0 := hD.sub2 hp
  refine va_calli (va_runV (As := As) (rest := rest) ⟨hx, hb, hml, hown, hts⟩ (hM H.size) cw ⟨g_blind, va_recv hK0 hP0 hc he, g_pre hK0 hP0 hD0⟩ rfl hn hsize hstack (lv_room hW) hdg hf) hS (fun q _ h => hF q h) hF (fun r' u t H1 locs1 ht hvm hw hB hz1 hk1 hS1 => ?_)
  obtain ⟨hP1, -, hD1⟩ := hB
  rw [ht] at hP1
  subst hw
  obtain ⟨h1, h2⟩ := h_after hP hD hp hp' hF hk1 hP1 hD1
  exact kk H1 locs1 h1 h2 hS1
theorem y_ml {r : Int64} {ci q0 : Nat} {fs : List Value} {qc : vw_C} (hx : p.tables.exec = Jvm.exec) (hb : c.code = cc) (hml : c.maxLocals = nL) (hown : s.vm.findClass own = some m.cls) (hts : ∀ w ∈ Ts, w.before args s = true)
    (hM : gCl l D tys0 y ws rm (.ref b :: As) w0 r w1) (cw : CallW R s args own qc.1 index y bytes maxL ret ws rm rm.cells rm.slots n)
    (hK0 : va_K D vwCl tys0 s) (hA : ∀ q : Nat, s.heap.size ≤ q → A q) (hP : va_P D vwCl wd H) (hD : va_D A wd) (hS : va_S A s.heap H locs) (hp : wd.Perm (w0 ++ wr)) (hp' : (w1 ++ wr).Perm wd') (hc : vwCl[ci]? = some qc) (he : w0[q0]? = some (b, .inr (ci, fs)))
    (hn : As.length = n) (hsize : ls.size = nL) (hstack : st0 = As.reverse ++ .ref b :: rest) (hW : (rest.map fun v => v.category).sum ≤ 8) (hdg : decode cc pc = .ok (.invokevirtual index, 3)) (hf : cells + rm.cells ≤ R.cells ∧ slots + rm.slots ≤ R.slots)
    (kk : ∀ (H1 : Heap) (locs1 : List Loc), va_P D vwCl wd' H1 → va_D A wd' → va_S A s.heap H1 locs1 → W p l e R s m args below meth c H1 locs1 (cells + rm.cells) (slots + rm.slots) Q (F0 m (pc + 3) ls (.long r :: rest))) :
    W p l e R s m args below meth c H locs cells slots Q (F0 m pc ls st0) := by
  have hs0 : ∀ q ∈ w0, q ∈ wd := fun q hq => hp.mem_iff.mpr (List.mem_append_left _ hq)
  have hF := h_freeS (w0 := w0) hD hS hA hs0
  have hP0 : va_P D vwCl w0 H := hP.mono hs0
  have hD0 := hD.sub2 hp
  refine va_calll (va_runV (As := As) (rest := rest) ⟨hx, hb, hml, hown, hts⟩ (hM H.size) cw ⟨g_blind, va_recv hK0 hP0 hc he, g_pre hK0 hP0 hD0⟩ rfl hn hsize hstack (lv_room hW) hdg hf) hS (fun q _ h => hF q h) hF (fun r' u t H1 locs1 ht hvm hw hB hz1 hk1 hS1 => ?_)
  obtain ⟨hP1, -, hD1⟩ := hB
  rw [ht] at hP1
  subst hw
  obtain ⟨h1, h2⟩ := h_after hP hD hp hp' hF hk1 hP1 hD1
  exact kk H1 locs1 h1 h2 hS1
theorem y_mv {ci q0 : Nat} {fs : List Value} {qc : vw_C} (hx : p.tables.exec = Jvm.exec) (hb : c.code = cc) (hml : c.maxLocals = nL) (hown : s.vm.findClass own = some m.cls) (hts : ∀ w ∈ Ts, w.before args s = true)
    (hM : gCv l D tys0 y ws rm (.ref b :: As) w0 w1) (cw : CallW R s args own qc.1 index y bytes maxL ret ws rm rm.cells rm.slots n)
    (hK0 : va_K D vwCl tys0 s) (hA : ∀ q : Nat, s.heap.size ≤ q → A q) (hP : va_P D vwCl wd H) (hD : va_D A wd) (hS : va_S A s.heap H locs) (hp : wd.Perm (w0 ++ wr)) (hp' : (w1 ++ wr).Perm wd') (hc : vwCl[ci]? = some qc) (he : w0[q0]? = some (b, .inr (ci, fs)))
    (hn : As.length = n) (hsize : ls.size = nL) (hstack : st0 = As.reverse ++ .ref b :: rest) (hW : (rest.map fun v => v.category).sum ≤ 8) (hdg : decode cc pc = .ok (.invokevirtual index, 3)) (hf : cells + rm.cells ≤ R.cells ∧ slots + rm.slots ≤ R.slots)
    (kk : ∀ (H1 : Heap) (locs1 : List Loc), va_P D vwCl wd' H1 → va_D A wd' → va_S A s.heap H1 locs1 → W p l e R s m args below meth c H1 locs1 (cells + rm.cells) (slots + rm.slots) Q (F0 m (pc + 3) ls (rest))) :
    W p l e R s m args below meth c H locs cells slots Q (F0 m pc ls st0) := by
  have hs0 : ∀ q ∈ w0, q ∈ wd := fun q hq => hp.mem_iff.mpr (List.mem_append_left _ hq)
  have hF := h_freeS (w0 := w0) hD hS hA hs0
  have hP0 : va_P D vwCl w0 H := hP.mono hs0
  have hD0 := hD.sub2 hp
  refine va_callv (va_runV (As := As) (rest := rest) ⟨hx, hb, hml, hown, hts⟩ (hM H.size) cw ⟨g_blind, va_recv hK0 hP0 hc he, g_pre hK0 hP0 hD0⟩ rfl hn hsize hstack (lv_room hW) hdg hf) hS (fun q _ h => hF q h) hF (fun u t H1 locs1 ht hvm hw hB hz1 hk1 hS1 => ?_)
  obtain ⟨hP1, -, hD1⟩ := hB
  rw [ht] at hP1
  obtain ⟨h1, h2⟩ := h_after hP hD hp hp' hF hk1 hP1 hD1
  exact kk H1 locs1 h1 h2 hS1
end MCALL
theorem dL_element_0 : decode cL_element 0 = .ok (.aload_n 3, 1) := by decide +kernel
theorem dL_element_1 : decode cL_element 1 = .ok (.iconst 0, 1) := by decide +kernel
theorem dL_element_2 : decode cL_element 2 = .ok (.aload_n 0, 1) := by decide +kernel
theorem dL_element_3 : decode cL_element 3 = .ok (.iload_n 1, 1) := by decide +kernel
theorem dL_element_4 : decode cL_element 4 = .ok (.iload_n 2, 1) := by decide +kernel
theorem dL_element_5 : decode cL_element 5 = .ok (.invokevirtual 7, 3) := by decide +kernel
theorem dL_element_8 : decode cL_element 8 = .ok (.lastore, 1) := by decide +kernel
theorem dL_element_9 : decode cL_element 9 = .ok (.goto 11, 3) := by decide +kernel
theorem dL_element_12 : decode cL_element 12 = .ok (.astore 4, 2) := by decide +kernel
theorem dL_element_14 : decode cL_element 14 = .ok (.iconst 1, 1) := by decide +kernel
theorem dL_element_15 : decode cL_element 15 = .ok (.ireturn, 1) := by decide +kernel
theorem dL_element_16 : decode cL_element 16 = .ok (.astore 4, 2) := by decide +kernel
theorem dL_element_18 : decode cL_element 18 = .ok (.iconst 2, 1) := by decide +kernel
theorem dL_element_19 : decode cL_element 19 = .ok (.ireturn, 1) := by decide +kernel
theorem dL_element_20 : decode cL_element 20 = .ok (.iconst 0, 1) := by decide +kernel
theorem dL_element_21 : decode cL_element 21 = .ok (.ireturn, 1) := by decide +kernel
set_option maxRecDepth 20000 in
theorem ggL_element_X10_element : GoodIn wsL_element wsX10_element := goodIn_ca (goodIn_ca (goodIn_r _ [7, 8, 9, 10, 11, 12, 13, 14, 6, 15, 16, 17, 18, 19, 20, 21, 22, 23, 24, 25, 26, 27, 28, 29, 30, 31, 32, 33, 34, 35] (by decide +kernel) (by decide +kernel)) (goodIn_sub (fun _ h => List.mem_cons_of_mem _ (List.mem_append_left _ (List.mem_append_right _ h))) (by decide +kernel))) (goodIn_sub (fun _ h => List.mem_cons_of_mem _ (List.mem_append_right _ h)) (by decide +kernel))
set_option maxRecDepth 20000 in
theorem gL_element_X10_element : GoodIn wsL_element (wsV RL 7 RX10 yX10_element wsX10_element) := goodIn_app (goodIn_of _ (by decide +kernel)) ggL_element_X10_element
/-! the law's element -/
def lO (cL : ClassId) (o : Nat) (f : Nat → Int64) : va_W := [(o, .inl (cL, 1, .inr (.inl f)))]
abbrev rmL_element : Room := { frames := 7, cells := 1, slots := 6, locals := 105 }
set_option maxRecDepth 100000 in
set_option maxHeartbeats 8000000 in
theorem okL_element (z e0 : Nat → Nat) (l : Launch) (hl0 : l.stackTraces = false) (D : va_G) (T : mT3) (cL : ClassId) (b : Nat → Nat) (o : Nat) (f : Nat → Int64) {xa : XA} {xs : XS} {v1 v2 : Int32} {r : Nat × Int64} {xs' : XS} (hR : xRel b xa xs) (heq : X10_element xs v1 v2 = some (r, xs')) :
    ∀ sz : Nat, Met l yL_element wsL_element rmL_element (va_Pc [.ref (b 0), .int v1, .int v2, .ref o] (fun U => U.heap.size = sz ∧ va_P D vwCl (xW b T xa xs ++ lO cL o f) U.heap ∧ va_K D vwCl (cT T ++ [(cL, .long)]) U ∧ va_D (fun _ => True) (xW b T xa xs ++ lO cL o f) ∧ xS z (va_A (xW b T xa xs ++ lO cL o f) sz) U U.heap ∧ xE e0 (va_A (xW b T xa xs ++ lO cL o f) sz) U U.heap))
      (va_Qi (fun (x : Int32) (xa' : XA) => x = Int32.ofNat r.1 ∧ xRel b xa' xs' ∧ xSub xa xa') (fun xa' t => va_P D vwCl (xW b T xa' xs' ++ lO cL o (if r.1 = 0 then vp_updL f 0 r.2 else f)) t.heap ∧ va_K D vwCl (cT T ++ [(cL, .long)]) t ∧ va_D (va_A (xW b T xa xs ++ lO cL o f) sz) (xW b T xa' xs' ++ lO cL o (if r.1 = 0 then vp_updL f 0 r.2 else f))) (va_A (xW b T xa xs ++ lO cL o f) sz)) rmL_element.cells rmL_element.slots (va_A (xW b T xa xs ++ lO cL o f) sz) := by
  intro sz
  refine va_MetW (cc := cL_element) (maxL := 5) (ret := some .int) (hh := [(0, 9, 12, 13), (0, 9, 16, 15)]) (by decide) rfl ?_
  intro p e s m args below meth c s₁ B hml hv
  obtain ⟨rfl, hsz, hP, hK, hD0, hX, hE⟩ := hv
  have hr := B.returns
  have hlocks := B.notSynchronized
  subst hsz
  have hle := lv_entry [.ref (b 0), .int v1, .int v2, .ref o] (n := 5) (Nat.le_of_ble_eq_true rfl)
  rw [lg_entry_eq]
  have hx := B.exec
  have hb := B.bytes
  have hown : s.vm.findClass RL = some m.cls := findClass_of_methodNamed B.named
  have hts : ∀ w ∈ wsL_element, w.before _ s = true := atoms_spec (ws := wsL_element) B.pre
  have hcw : (Cond.codeWith yL_element cL_element 5 (some .int) [(0, 9, 12, 13), (0, 9, 16, 15)]).before _ s = true := hts _ List.mem_cons_self
  have hTab : c.exceptionTable.toList = [⟨0, 9, 12, 13⟩, ⟨0, 9, 16, 15⟩] := vx_table (x := yL_element) B hcw
  obtain ⟨A, eA⟩ : ∃ A, A = va_A (xW b T xa xs ++ lO cL o f) s.heap.size := ⟨_, rfl⟩
  have hA : ∀ q : Nat, s.heap.size ≤ q → A q := fun q h => by rw [eA]; exact Or.inr h
  have hD : va_D A (xW b T xa xs ++ lO cL o f) := by rw [eA]; exact hD0.self
  rw [← eA] at hX hE ⊢
  have hret : ∀ (x : Int32) (pc : Nat) (H : Heap) (locs : List Loc) (ls : Array Slot) (xa' : XA) (f' : Nat → Int64), x = Int32.ofNat r.1 → f' = (if r.1 = 0 then vp_updL f 0 r.2 else f) → xRel b xa' xs' → xSub xa xa' → va_P D vwCl (xW b T xa' xs' ++ lO cL o f') H → va_D A (xW b T xa' xs' ++ lO cL o f') → va_S A s.heap H locs → narrow .int (.int x) = .int x → decode cL_element pc = .ok (.ireturn, 1) →
      W p l e (headSpec wsL_element rmL_element).room s m #[Value.ref (b 0), Value.int v1, Value.int v2, Value.ref o] below meth c H locs rmL_element.cells rmL_element.slots (MQ below (va_Qi (fun (x : Int32) (xa' : XA) => x = Int32.ofNat r.1 ∧ xRel b xa' xs' ∧ xSub xa xa') (fun xa' t => va_P D vwCl (xW b T xa' xs' ++ lO cL o (if r.1 = 0 then vp_updL f 0 r.2 else f)) t.heap ∧ va_K D vwCl (cT T ++ [(cL, .long)]) t ∧ va_D A (xW b T xa' xs' ++ lO cL o (if r.1 = 0 then vp_updL f 0 r.2 else f))) A) #[Value.ref (b 0), Value.int v1, Value.int v2, Value.ref o] s rmL_element.cells rmL_element.slots A) (F0 m pc ls [.int x]) := fun x pc H locs ls xa' f' hx1 hf1 hR hSS hP1 hD1 hS hn hdg =>
    W.zret (v := x) (ty := .int) B.exec B.bytes hr hn (fun t ht hW => ⟨⟨x, xa', rfl, ⟨hx1, hR, hSS⟩, by rw [ht, ← hf1]; exact hP1, va_K.moved hW.alike hK, by rw [← hf1]; exact hD1⟩, hS.F ht⟩) hS.2.2 hdg
  obtain ⟨ls, els⟩ : ∃ ls, ls = (lg_sl [.ref (b 0), .int v1, .int v2, .ref o] ++ List.replicate (5 - (lg_sl [.ref (b 0), .int v1, .int v2, .ref o]).length) Slot.unset).toArray := ⟨_, rfl⟩
  have hl : lv_has ls 5 [(0, .ref (b 0)), (1, .int v1), (2, .int v2), (3, .ref o)] := by rw [els]; exact hle
  rw [← els]
  refine lv_aload_n hx hb dL_element_0 rfl (lv_at hl 3 rfl) ?_
  refine lv_iconst (v := (0 : Int32)) hx hb dL_element_1 (by decide) ?_
  refine lv_aload_n hx hb dL_element_2 rfl (lv_at hl 0 rfl) ?_
  refine lv_iload_n hx hb dL_element_3 rfl (lv_at hl 1 rfl) ?_
  refine lv_iload_n hx hb dL_element_4 rfl (lv_at hl 2 rfl) ?_
  refine y_eX (own := RL) (As := [.int v1, .int v2]) (rest := [.int 0, .ref o]) (wr := lO cL o f) hx hb hml hown hts (okX10_element z e0 l hl0 D T b hR heq) (cwV 2 hts gL_element_X10_element rfl rfl rfl hdX10_element ⟨Nat.le_of_ble_eq_true rfl, Nat.le_of_ble_eq_true rfl⟩) hE (hK.sub [0, 1, 2] rfl) hA hX hP hD va_S.rf (List.Perm.refl _) (ci := 10) (q0 := 0) rfl rfl rfl hl.1 rfl (Nat.le_of_ble_eq_true rfl) dL_element_5 ⟨Nat.le_of_ble_eq_true rfl, Nat.le_of_ble_eq_true rfl⟩ ?_ ?_
  · intro E ce q9 xa' H locs ho hR hSS hP hD hS hce hcv hcl
    rcases ho with ⟨ho, hEx⟩ | ⟨ho, hEx⟩
    · subst hEx
      refine vx_catch (own := RL) (name := "java/lang/IllegalArgumentException") (E := "java/lang/IllegalArgumentException") hown [] ⟨0, 9, 12, 13⟩ [⟨0, 9, 16, 15⟩] hTab (fun w hw => nomatch hw) (by decide) (by decide) (hts (.classLink RL 13 "java/lang/IllegalArgumentException") (by decide +kernel)) (va_Nw.use rfl (hE.1 (.castable "java/lang/IllegalArgumentException" "java/lang/IllegalArgumentException") (by decide +kernel))) hce hcv hcl ?_
      refine lv_astore (lv' := [(4, .ref q9), (0, .ref (b 0)), (1, .int v1), (2, .int v2), (3, .ref o)]) hx hb dL_element_12 hl (by decide) rfl (fun ls hl => ?_)
      refine lv_iconst (v := (1 : Int32)) hx hb dL_element_14 (by decide) ?_
      exact hret 1 15 H locs ls xa' f (by rw [ho]; rfl) (by rw [ho]; rfl) hR hSS hP hD hS rfl dL_element_15
    · subst hEx
      refine vx_catch (own := RL) (name := "java/lang/IllegalStateException") (E := "java/lang/IllegalStateException") hown [⟨0, 9, 12, 13⟩] ⟨0, 9, 16, 15⟩ [] hTab (fun w hw => by rw [List.mem_singleton.mp hw]; exact Or.inr ⟨by decide, _, hts (.classLink RL 13 "java/lang/IllegalArgumentException") (by decide +kernel), hE.2.2.2.2.2.2.2.2.1⟩) (by decide) (by decide) (hts (.classLink RL 15 "java/lang/IllegalStateException") (by decide +kernel)) (va_Nw.use rfl (hE.1 (.castable "java/lang/IllegalStateException" "java/lang/IllegalStateException") (by decide +kernel))) hce hcv hcl ?_
      refine lv_astore (lv' := [(4, .ref q9), (0, .ref (b 0)), (1, .int v1), (2, .int v2), (3, .ref o)]) hx hb dL_element_16 hl (by decide) rfl (fun ls hl => ?_)
      refine lv_iconst (v := (2 : Int32)) hx hb dL_element_18 (by decide) ?_
      exact hret 2 19 H locs ls xa' f (by rw [ho]; rfl) (by rw [ho]; rfl) hR hSS hP hD hS rfl dL_element_19
  · intro xa' H locs ho hR hSS hP hD hS
    have hP := hP.perm List.perm_append_comm
    have hD := hD.perm List.perm_append_comm
    refine va_last hx hb hK hP hD hS 0 3 rfl rfl (i := 0) (show ¬ ((0 : Int32) < 0 ∨ 1 ≤ (0 : Int32).toNatClampNeg) by decide) dL_element_8 (fun H locs hP hD hS => ?_)
    refine lv_goto (tgt := 20) hx hb dL_element_9 (by decide) ?_
    refine lv_iconst (v := (0 : Int32)) hx hb dL_element_20 (by decide) ?_
    have hP2 : va_P D vwCl (lO cL o (vp_updL f 0 r.2) ++ xW b T xa' xs') H := hP
    have hD2 : va_D A (lO cL o (vp_updL f 0 r.2) ++ xW b T xa' xs') := hD
    exact hret 0 21 H locs ls xa' _ (by rw [ho]; rfl) (by rw [ho]; rfl) hR hSS (hP2.perm List.perm_append_comm) (hD2.perm List.perm_append_comm) hS rfl dL_element_21
