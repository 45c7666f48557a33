/-! own rows: nullable locals, stores of bricks, constructors and calls of bricks in the class's world -/
theorem in_lt {i : Int32} {n : Nat} (h : vp_in i n) : i.toNatClampNeg < n := Nat.lt_of_not_le fun g => h (Or.inr g)
def oR (xs : XS) (d : Nat) : Option Nat := (xR xs d).map (fun _ => d)
theorem onR_of {b : Nat → Nat} {xa : XA} {xs : XS} (h : xRel b xa xs) {d : Nat} (hd : d < 8) : onR xa (oR xs d) (xRo xa d) := by
  have := h.2.2.1 d hd
  unfold oR
  cases hz : xR xs d with
  | none => rw [hz] at this; exact this
  | some z => rw [hz] at this; exact ⟨hd, this⟩
def ob {α γ : Type} (o : Option α) (A : Option γ) (B : α → Option γ) : Option γ := match o with
  | none => A
  | some k => B k
theorem obB_h {γ : Type} {pl : List (Nat × BK)} {o : Option BK} {oa : Option Nat} {A : Option γ} {B : BK → Option γ} {r : γ} (h : onB pl o oa) (heq : ob o A B = some r) : (oa = none ∧ A = some r) ∨ ∃ k, (∃ q, oa = some q ∧ (q, k) ∈ pl) ∧ B k = some r := by
  cases o with
  | none => exact Or.inl ⟨h, heq⟩
  | some k => exact Or.inr ⟨k, h, heq⟩
theorem obR_h {γ : Type} {xa : XA} {o : Option Nat} {oa : Option Nat} {A : Option γ} {B : Nat → Option γ} {r : γ} (h : onR xa o oa) (heq : ob o A B = some r) : (oa = none ∧ A = some r) ∨ ∃ d, (oa = some (xRa xa d 0) ∧ d < 8) ∧ B d = some r := by
  cases o with
  | none => exact Or.inl ⟨h, heq⟩
  | some d => exact Or.inr ⟨d, ⟨h.2, h.1⟩, heq⟩
/-- a foot's cell gets a brick at q -/
def xFoot (xa : XA) (i j q : Nat) : XA := ((fun i' => if i' = i then (fun j' => if j' = j then q else xa.1 i j') else xa.1 i'), xa.2)
theorem xSub.foot {xa : XA} {i j q : Nat} : xSub xa (xFoot xa i j q) := ⟨fun _ h => h, rfl, rfl⟩
theorem xRel.foot {b : Nat → Nat} {xa : XA} {xs : XS} (h : xRel b xa xs) {i j q : Nat} {k : BK} (hq : (q, k) ∈ xPl xa) : xRel b (xFoot xa i j q) (uB xs i j k) := by
  refine ⟨fun i' hi j' hj => ?_, h.2⟩
  show ((if i' = i then (fun j' => if j' = j then q else xa.1 i j') else xa.1 i') j', (if i' = i then (fun j' => if j' = j then k else xs.2.1 i j') else xs.2.1 i') j') ∈ xPl xa
  by_cases h1 : i' = i
  · subst h1
    rw [if_pos rfl, if_pos rfl]
    show ((if j' = j then q else xa.1 i' j'), (if j' = j then k else xs.2.1 i' j')) ∈ xPl xa
    by_cases h2 : j' = j
    · rw [if_pos h2, if_pos h2]; exact hq
    · rw [if_neg h2, if_neg h2]; exact h.1 i' hi j' hj
  · rw [if_neg h1, if_neg h1]
    exact h.1 i' hi j' hj
theorem xfo_up (f : Nat → Nat) (j q : Nat) : va_up (fun x => some (f x)) j (some q) = fun x => some (if x = j then q else f x) := by
  funext x
  unfold va_up
  by_cases h : x = j
  · rw [if_pos h, if_pos h]
  · rw [if_neg h, if_neg h]
theorem xset_f0 (b : Nat → Nat) (T : mT3) (xa : XA) (xs : XS) (j q : Nat) (k : BK) : (xW b T xa xs).set 4 (b 4, .inl (T.2.1, 12, .inr (.inr (.inr (.inr (va_up (fun x => some (xFo xa 0 x)) j (some q))))))) = xW b T (xFoot xa 0 j q) (uB xs 0 j k) := by
  rw [xfo_up]; rfl
theorem xset_f1 (b : Nat → Nat) (T : mT3) (xa : XA) (xs : XS) (j q : Nat) (k : BK) : (xW b T xa xs).set 11 (b 11, .inl (T.2.1, 12, .inr (.inr (.inr (.inr (va_up (fun x => some (xFo xa 1 x)) j (some q))))))) = xW b T (xFoot xa 1 j q) (uB xs 1 j k) := by
  rw [xfo_up]; rfl
theorem xset_f2 (b : Nat → Nat) (T : mT3) (xa : XA) (xs : XS) (j q : Nat) (k : BK) : (xW b T xa xs).set 18 (b 18, .inl (T.2.1, 12, .inr (.inr (.inr (.inr (va_up (fun x => some (xFo xa 2 x)) j (some q))))))) = xW b T (xFoot xa 2 j q) (uB xs 2 j k) := by
  rw [xfo_up]; rfl
section XROWS
variable {p : Program} {l : Launch} {e : Env} {R : Room} {s : State} {m : MethodId} {args : Array Value} {below : List Frame} {meth : Method} {c : Code} {H : Heap} {locs : List Loc} {cells slots : Nat} {Q : State → Prop}
variable {pc : Nat} {ls : Array Slot} {rest st0 : List Value} {A : Nat → Prop} {cc bytes : ByteArray} {nL maxL index n : Nat} {ret : Option FieldType} {Ts ws : List Cond} {rm : Room} {own : String} {y : MethodName} {D : va_G} {tys0 : List (ClassId × FieldType)} {wd : va_W} {As : List Value} {z b : Nat → Nat} {T : mT3} {xa : XA} {xs : XS}
theorem lv_aloadQ_n (hx : p.tables.exec = Jvm.exec) (hb : c.code = cc) {k : Fin 4} {i : Nat} {r : Option Nat} (hdg : decode cc pc = .ok (.aload_n k, 1)) (hi : (k : Nat) = i) (hl : ls[i]? = some (.val (va_rf r)))
    (kk : W p l e R s m args below meth c H locs cells slots Q (F0 m (pc + 1) ls (va_rf r :: rest))) : W p l e R s m args below meth c H locs cells slots Q (F0 m pc ls rest) := by
  cases r with
  | none => exact lv_aload_nN hx hb hdg hi hl kk
  | some a => exact lv_aload_n hx hb hdg hi hl kk
theorem lv_aloadQ (hx : p.tables.exec = Jvm.exec) (hb : c.code = cc) {i : Nat} {r : Option Nat} (hdg : decode cc pc = .ok (.aload i, 2)) (hl : ls[i]? = some (.val (va_rf r)))
    (kk : W p l e R s m args below meth c H locs cells slots Q (F0 m (pc + 2) ls (va_rf r :: rest))) : W p l e R s m args below meth c H locs cells slots Q (F0 m pc ls rest) := by
  cases r with
  | none => exact lv_aloadN hx hb hdg hl kk
  | some a => exact lv_aload hx hb hdg hl kk
theorem lv_astoreQ_n (hx : p.tables.exec = Jvm.exec) (hb : c.code = cc) {k : Fin 4} {i nL : Nat} {r : Option Nat} {lv lv' : List (Nat × Value)} (hdg : decode cc pc = .ok (.astore_n k, 1)) (hi : (k : Nat) = i) (h : lv_has ls nL lv) (hn : i < nL) (hl : (i, va_rf r) :: lv.filter (fun q => !(q.1 == i) && !(q.1 + 1 == i && q.2.category == 2)) = lv')
    (kk : ∀ ls' : Array Slot, lv_has ls' nL lv' → W p l e R s m args below meth c H locs cells slots Q (F0 m (pc + 1) ls' rest)) : W p l e R s m args below meth c H locs cells slots Q (F0 m pc ls (va_rf r :: rest)) := by
  cases r with
  | none => exact lv_astore_nN hx hb hdg hi h hn hl kk
  | some a => exact lv_astore_n hx hb hdg hi h hn hl kk
theorem lv_astoreQ (hx : p.tables.exec = Jvm.exec) (hb : c.code = cc) {i nL : Nat} {r : Option Nat} {lv lv' : List (Nat × Value)} (hdg : decode cc pc = .ok (.astore i, 2)) (h : lv_has ls nL lv) (hn : i < nL) (hl : (i, va_rf r) :: lv.filter (fun q => !(q.1 == i) && !(q.1 + 1 == i && q.2.category == 2)) = lv')
    (kk : ∀ ls' : Array Slot, lv_has ls' nL lv' → W p l e R s m args below meth c H locs cells slots Q (F0 m (pc + 2) ls' rest)) : W p l e R s m args below meth c H locs cells slots Q (F0 m pc ls (va_rf r :: rest)) := by
  cases r with
  | none => exact lv_astoreN hx hb hdg h hn hl kk
  | some a => exact lv_astore hx hb hdg h hn hl kk
/-- a brick of the pool, of any kind, comes into a row of bricks -/
theorem x_aast (hx : p.tables.exec = Jvm.exec) (hb : c.code = cc) (hK : va_K D vwCl (cT T) s) (hX : xS z A s s.heap) {w : va_W} (hP : va_P D vwCl w H) (hD : va_D A w) (hS : va_S A s.heap H locs) (q0 : Nat) {a q : Nat} {k : BK} (hm : (q, (.inr (ciK k.1, [.int k.2]) : va_E)) ∈ w) (h8 : k.1 < 8) {nn : Nat} {f : Nat → Option Nat} (ha : w[q0]? = some (a, .inl (T.2.1, nn, .inr (.inr (.inr (.inr f)))))) {i : Int32} (hin : vp_in i nn) (hdg : decode cc pc = .ok (.aastore, 1))
    (kk : ∀ (H1 : Heap) (locs1 : List Loc), va_P D vwCl (w.set q0 (a, .inl (T.2.1, nn, .inr (.inr (.inr (.inr (va_up f i.toNatClampNeg (some q)))))))) H1 → va_D A (w.set q0 (a, .inl (T.2.1, nn, .inr (.inr (.inr (.inr (va_up f i.toNatClampNeg (some q)))))))) → va_S A s.heap H1 locs1 → W p l e R s m args below meth c H1 locs1 cells slots Q (F0 m (pc + 1) ls rest)) : W p l e R s m args below meth c H locs cells slots Q (F0 m pc ls (.ref q :: .int i :: .ref a :: rest)) := by
  obtain ⟨j, hj⟩ := List.getElem?_of_mem hm
  obtain ⟨kd, fg⟩ := k
  rcases (show kd = 0 ∨ kd = 1 ∨ kd = 2 ∨ kd = 3 ∨ kd = 4 ∨ kd = 5 ∨ kd = 6 ∨ kd = 7 from by have := h8; simp only at this; omega) with rfl | rfl | rfl | rfl | rfl | rfl | rfl | rfl
  · exact va_astq (r := (RX0, TX0, 1)) hx hb hK hP hD hS q0 1 j 0 ha rfl hj rfl hin hdg kk
  · exact va_astqO (E := RX0) (r := (RX2, TX2, 1)) hx hb hK hP hD hS q0 1 j 2 ha rfl (hX.nest 7 rfl) hj rfl hin hdg kk
  · exact va_astqO (E := RX0) (r := (RX6, TX6, 1)) hx hb hK hP hD hS q0 1 j 6 ha rfl (hX.nest 11 rfl) hj rfl hin hdg kk
  · exact va_astqO (E := RX0) (r := (RX4, TX4, 1)) hx hb hK hP hD hS q0 1 j 4 ha rfl (hX.nest 9 rfl) hj rfl hin hdg kk
  · exact va_astqO (E := RX0) (r := (RX1, TX1, 1)) hx hb hK hP hD hS q0 1 j 1 ha rfl (hX.nest 6 rfl) hj rfl hin hdg kk
  · exact va_astqO (E := RX0) (r := (RX3, TX3, 1)) hx hb hK hP hD hS q0 1 j 3 ha rfl (hX.nest 8 rfl) hj rfl hin hdg kk
  · exact va_astqO (E := RX0) (r := (RX5, TX5, 1)) hx hb hK hP hD hS q0 1 j 5 ha rfl (hX.nest 10 rfl) hj rfl hin hdg kk
  · exact va_astqO (E := RX0) (r := (RX9, TX9, 1)) hx hb hK hP hD hS q0 1 j 9 ha rfl (hX.nest 12 rfl) hj rfl hin hdg kk
theorem x_aast0 (hx : p.tables.exec = Jvm.exec) (hb : c.code = cc) (hK : va_K D vwCl (cT T) s) (hX : xS z A s s.heap) (hP : va_P D vwCl (xW b T xa xs) H) (hD : va_D A (xW b T xa xs)) (hS : va_S A s.heap H locs) {q : Nat} {k : BK} (hq : (q, k) ∈ xPl xa) (hR : xRel b xa xs) {i : Int32} (hin : vp_in i 12) (hdg : decode cc pc = .ok (.aastore, 1))
    (kk : ∀ (H1 : Heap) (locs1 : List Loc), va_P D vwCl (xW b T (xFoot xa 0 i.toNatClampNeg q) (uB xs 0 i.toNatClampNeg k)) H1 → va_D A (xW b T (xFoot xa 0 i.toNatClampNeg q) (uB xs 0 i.toNatClampNeg k)) → va_S A s.heap H1 locs1 → W p l e R s m args below meth c H1 locs1 cells slots Q (F0 m (pc + 1) ls rest)) : W p l e R s m args below meth c H locs cells slots Q (F0 m pc ls (.ref q :: .int i :: .ref (b 4) :: rest)) :=
  x_aast hx hb hK hX hP hD hS 4 (xMem b T xs hq) (hR.2.2.2.2 _ hq) rfl hin hdg (fun H1 locs1 h1 h2 h3 => kk H1 locs1 (by rw [← xset_f0]; exact h1) (by rw [← xset_f0]; exact h2) h3)
theorem x_aast1 (hx : p.tables.exec = Jvm.exec) (hb : c.code = cc) (hK : va_K D vwCl (cT T) s) (hX : xS z A s s.heap) (hP : va_P D vwCl (xW b T xa xs) H) (hD : va_D A (xW b T xa xs)) (hS : va_S A s.heap H locs) {q : Nat} {k : BK} (hq : (q, k) ∈ xPl xa) (hR : xRel b xa xs) {i : Int32} (hin : vp_in i 12) (hdg : decode cc pc = .ok (.aastore, 1))
    (kk : ∀ (H1 : Heap) (locs1 : List Loc), va_P D vwCl (xW b T (xFoot xa 1 i.toNatClampNeg q) (uB xs 1 i.toNatClampNeg k)) H1 → va_D A (xW b T (xFoot xa 1 i.toNatClampNeg q) (uB xs 1 i.toNatClampNeg k)) → va_S A s.heap H1 locs1 → W p l e R s m args below meth c H1 locs1 cells slots Q (F0 m (pc + 1) ls rest)) : W p l e R s m args below meth c H locs cells slots Q (F0 m pc ls (.ref q :: .int i :: .ref (b 11) :: rest)) :=
  x_aast hx hb hK hX hP hD hS 11 (xMem b T xs hq) (hR.2.2.2.2 _ hq) rfl hin hdg (fun H1 locs1 h1 h2 h3 => kk H1 locs1 (by rw [← xset_f1]; exact h1) (by rw [← xset_f1]; exact h2) h3)
theorem x_aast2 (hx : p.tables.exec = Jvm.exec) (hb : c.code = cc) (hK : va_K D vwCl (cT T) s) (hX : xS z A s s.heap) (hP : va_P D vwCl (xW b T xa xs) H) (hD : va_D A (xW b T xa xs)) (hS : va_S A s.heap H locs) {q : Nat} {k : BK} (hq : (q, k) ∈ xPl xa) (hR : xRel b xa xs) {i : Int32} (hin : vp_in i 12) (hdg : decode cc pc = .ok (.aastore, 1))
    (kk : ∀ (H1 : Heap) (locs1 : List Loc), va_P D vwCl (xW b T (xFoot xa 2 i.toNatClampNeg q) (uB xs 2 i.toNatClampNeg k)) H1 → va_D A (xW b T (xFoot xa 2 i.toNatClampNeg q) (uB xs 2 i.toNatClampNeg k)) → va_S A s.heap H1 locs1 → W p l e R s m args below meth c H1 locs1 cells slots Q (F0 m (pc + 1) ls rest)) : W p l e R s m args below meth c H locs cells slots Q (F0 m pc ls (.ref q :: .int i :: .ref (b 18) :: rest)) :=
  x_aast hx hb hK hX hP hD hS 18 (xMem b T xs hq) (hR.2.2.2.2 _ hq) rfl hin hdg (fun H1 locs1 h1 h2 h3 => kk H1 locs1 (by rw [← xset_f2]; exact h1) (by rw [← xset_f2]; exact h2) h3)
/-- a brick's constructor, behind 'new' -/
theorem x_init {k : Nat} {v : Int32} {q : Nat} (hx : p.tables.exec = Jvm.exec) (hb : c.code = cc) (hml : c.maxLocals = nL) (hown : s.vm.findClass own = some m.cls) (hts : ∀ w ∈ Ts, w.before args s = true)
    (hM : hCv z l D (cT T) y ws rm [.ref q, .int v] [(q, .inr (ciK k, [.int 0]))] [(q, .inr (ciK k, [.int v]))]) (cw : CallB R s args own index y bytes maxL none ws rm rm.cells rm.slots 1 ∧ y.name = "<init>" ∧ (Cond.instanceMethod y).before args s = true)
    (hK : va_K D vwCl (cT T) s) (hA : ∀ q : Nat, s.heap.size ≤ q → A q) (hX : xS z A s s.heap) (hP : va_P D vwCl (xW b T xa xs ++ [(q, .inr (ciK k, [.int 0]))]) H) (hD : va_D A (xW b T xa xs ++ [(q, .inr (ciK k, [.int 0]))])) (hS : va_S A s.heap H locs)
    (hsize : ls.size = nL) (hW : (rest.map fun v => v.category).sum ≤ 8) (hdg : decode cc pc = .ok (.invokespecial index, 3)) (hf : cells + rm.cells ≤ R.cells ∧ slots + rm.slots ≤ R.slots)
    (kk : ∀ (H1 : Heap) (locs1 : List Loc), va_P D vwCl (xW b T (xGrow xa q (k, v)) xs) H1 → va_D A (xW b T (xGrow xa q (k, v)) xs) → va_S A s.heap H1 locs1 → W p l e R s m args below meth c H1 locs1 (cells + rm.cells) (slots + rm.slots) Q (F0 m (pc + 3) ls rest)) :
    W p l e R s m args below meth c H locs cells slots Q (F0 m pc ls (.int v :: .ref q :: rest)) :=
  h_in (As := [.int v]) (wr := xW b T xa xs) hx hb hml hown hts hM cw hK hA hX hP hD hS List.perm_append_comm (xqG b T xa xs q (k, v)) rfl hsize rfl hW hdg hf kk
/-- a brick asked: the world stays -/
theorem x_brick {r : Int32} {q ci : Nat} {fs : List Value} {qc : vw_C} (hx : p.tables.exec = Jvm.exec) (hb : c.code = cc) (hml : c.maxLocals = nL) (hown : s.vm.findClass own = some m.cls) (hts : ∀ w ∈ Ts, w.before args s = true)
    (hM : hCi z l D (cT T) y ws rm [.ref q] [(q, .inr (ci, fs))] r [(q, .inr (ci, fs))]) (cw : CallW R s args own qc.1 index y bytes maxL ret ws rm rm.cells rm.slots 0 ∨ ∃ owner x, va_CU R s args own qc.1 owner index x y bytes maxL ret ws rm rm.cells rm.slots 0)
    (hK : va_K D vwCl (cT T) s) (hA : ∀ q : Nat, s.heap.size ≤ q → A q) (hX : xS z A s s.heap) (hP : va_P D vwCl wd H) (hD : va_D A wd) (hS : va_S A s.heap H locs) (hm : (q, (.inr (ci, fs) : va_E)) ∈ wd) (hc : vwCl[ci]? = some qc)
    (hsize : ls.size = nL) (hW : (rest.map fun v => v.category).sum ≤ 8) (hdg : decode cc pc = .ok (.invokevirtual index, 3)) (hf : cells + rm.cells ≤ R.cells ∧ slots + rm.slots ≤ R.slots)
    (kk : ∀ (H1 : Heap) (locs1 : List Loc), va_P D vwCl wd H1 → va_S A s.heap H1 locs1 → W p l e R s m args below meth c H1 locs1 (cells + rm.cells) (slots + rm.slots) Q (F0 m (pc + 3) ls (.int r :: rest))) :
    W p l e R s m args below meth c H locs cells slots Q (F0 m pc ls (.ref q :: rest)) := by
  have hs : ∀ w ∈ [(q, (.inr (ci, fs) : va_E))], w ∈ wd := fun w hw => by rw [List.mem_singleton.mp hw]; exact hm
  have hF := h_freeS (w0 := [(q, .inr (ci, fs))]) hD hS hA hs
  have hP0 : va_P D vwCl [(q, .inr (ci, fs))] H := hP.mono hs
  have hD0 : va_D A [(q, (.inr (ci, fs) : va_E))] := va_D_nodup.mpr ⟨by simp, fun w hw => (va_D_nodup.mp hD).2 w (hs w hw)⟩
  have hrun : va_Run p l e R s m args below meth c H locs cells slots rm.cells rm.slots (F0 m pc ls (.ref q :: rest)) rest (va_Qi (fun (x : Int32) (_ : Unit) => x = r) (fun _ t => va_P D vwCl [(q, .inr (ci, fs))] t.heap ∧ va_K D vwCl (cT T) t ∧ va_D (va_A [(q, .inr (ci, fs))] H.size) [(q, .inr (ci, fs))]) (va_A [(q, .inr (ci, fs))] H.size) (Value.ref q :: ([] : List Value)).toArray) (va_A [(q, .inr (ci, fs))] H.size) := by
    rcases cw with cw | ⟨owner, x, cw⟩
    · exact va_runV (As := []) (rest := rest) ⟨hx, hb, hml, hown, hts⟩ (hM H.size) cw ⟨h_blind, va_recv (q0 := 0) hK hP0 hc rfl, h_pre hX hS hK hP0 hD0 hF⟩ rfl rfl hsize rfl (lv_room hW) hdg hf
    · exact va_runU (As := []) (rest := rest) ⟨hx, hb, hml, hown, hts⟩ (hM H.size) cw ⟨h_blind, va_recv (q0 := 0) hK hP0 hc rfl, h_pre hX hS hK hP0 hD0 hF⟩ rfl rfl hsize rfl (lv_room hW) hdg hf
  refine va_calli hrun hS (fun q _ h => hF q h) hF (fun r' u t H1 locs1 ht hvm hw hB hz1 hk1 hS1 => ?_)
  obtain ⟨hP1, -, -⟩ := hB
  rw [ht] at hP1
  subst hw
  exact kk H1 locs1 (h_same hP hD hs hk1 hP1) hS1
end XROWS
theorem lk_ne {x k : Int32} {a : Int} (ha : k = Int32.ofInt a) (h : ¬ x = k) : ¬ a = x.toInt := fun e => h (by rw [ha, e, Int32.ofInt_toInt])
