/-! ===== BEGIN a method of a class above, found by the receiver, that may throw (follows va_callVU, va_runU of this kit) ===== -/
section
variable {p : Program} {l : Launch} {e : Env} {R : Room} {s : State} {m : MethodId} {args : Array Value} {below : List Frame} {meth : Method} {c : Code} {H : Heap} {locs : List Loc} {cells slots : Nat}
theorem vx_callVU {T : State} {locs : List Loc} {cells slots : Nat} (X : Stand p l e R s m args below meth c T locs cells slots) (hexec : p.tables.exec = Jvm.exec) {own C owner : String} {index : Nat} {x y : MethodName} {bytes : ByteArray} {maxL : Nat} {ret : Option FieldType}
    (hown : s.vm.findClass own = some m.cls) (hlink : (Cond.methodLink own index x).before args s = true) (hsame : (Cond.sameMethod x.cls owner x.name x.desc).before args s = true)
    (hd0 : va_Decl s ⟨owner, x.name, x.desc⟩) (howner : owner ≠ "java/lang/invoke/MethodHandle" ∧ owner ≠ "java/lang/invoke/VarHandle")
    (hsel : (Cond.selects C x y).before args s = true) (hinst : (Cond.instanceMethod y).before args s = true) (hcode : (Cond.code y bytes maxL ret).before args s = true)
    {W : Nat} {Pre : Pt → Array Value → Prop} {Post : Pt → Array Value → Option Value → Pt → Prop} {PostX : Pt → Array Value → Addr → Pt → Prop} (hK : vx_Back l R p e below s args y 3 W Pre Post PostX)
    {b : Addr} {cellB : Cell} (hcell : T.heap[b]? = some cellB) (hobj : cellB.vm.isStatics = false) (hcls : s.vm.findClass C = some cellB.cls)
    {g : JFrame} (hg : g.method = m) (hsize : g.locals.size = c.maxLocals) {argsL rest : List Value} (hlen : ∀ sig, parseMethodDescriptor x.desc = some sig → argsL.length = sig.parameters.length)
    (hstack : g.stack = argsL.reverse ++ .ref b :: rest) (hW : 2 * g.monitorRoom + (rest.map fun v => v.category).sum ≤ W) (hdg : decode c.code g.pc = .ok (.invokevirtual index, 3))
    (hpre : ∀ vm₁, s.WarmedH vm₁ → Pre ⟨T.setVm vm₁, locs, cells, slots⟩ (Value.ref b :: argsL).toArray) :
    (∃ (v : Option Value) (vm₁ : Vm) (B : Pt), s.WarmedH vm₁ ∧ Stand p l e R s m args below meth c B.U B.locs B.cells B.slots ∧ Post ⟨T.setVm vm₁, locs, cells, slots⟩ (Value.ref b :: argsL).toArray v B ∧
      ∀ target, Steps p.tables e below (B.U.setTop { g with pc := g.pc + 3, stack := v.toList ++ rest }) target → Steps p.tables e below (T.setTop g) target) ∨
    (∃ (q : Addr) (vm₁ : Vm) (B : Pt), s.WarmedH vm₁ ∧ Stand p l e R s m args below meth c B.U B.locs B.cells B.slots ∧ PostX ⟨T.setVm vm₁, locs, cells, slots⟩ (Value.ref b :: argsL).toArray q B ∧
      Steps p.tables e below (T.setTop g) ((B.U.setTop { g with stack := rest }).pushFrame (.throwing q))) := by
  obtain ⟨r0, r, hn, hrm, hstR, hsigR⟩ := hd0
  obtain ⟨cn, ck, r1, hcn, hck, hni, hf, hn1⟩ := Cond.sameMethod_found hsame
  cases hn.symm.trans hn1
  obtain ⟨mk, methM, hnamed, hmethM, -, habM⟩ := Cond.instanceMethod_spec hinst
  obtain ⟨c2, r2, m2, q1, q2, q3, q4, kP, hkP, hkPi⟩ := Cond.selects_spec hsel
  cases hcls.symm.trans q1
  cases hf.symm.trans q2
  cases hnamed.symm.trans q3
  have hselP : selectMethod e.platform s.vm cellB.cls r0 = .method mk := by rw [Launch.admits_selectMethod X.admits]; exact q4
  obtain ⟨vm₁, X₁, hstep₁⟩ := X.invokevirtualUp hexec hown hlink hsame howner hn hrm hstR (a := b) (cell := cellB) hcell
    (fun z h => by rw [h] at hobj; cases hobj) hselP hmethM habM hkP hkPi (g := g) hg (argsL := argsL) (rest := rest) (hlen _ hsigR) hstack hdg
  rcases hK m meth c ⟨T.setVm vm₁, locs, cells, slots⟩ { g with stack := rest } (.invokevirtual index) mk (Value.ref b :: argsL).toArray X₁ hg hsize hdg hW (X₁.named hnamed) (hpre vm₁ X₁.warmed) with ⟨v, B, X', hpost, hsteps⟩ | ⟨q, B, X', hpost, hsteps⟩
  · exact Or.inl ⟨v, vm₁, B, X₁.warmed, X', hpost, fun target h => hstep₁ _ fun acts => by rw [doInvoke_state]; exact hsteps.trans h⟩
  · exact Or.inr ⟨q, vm₁, B, X₁.warmed, X', hpost, hstep₁ _ fun acts => by rw [doInvoke_state]; exact hsteps⟩
theorem vx_runU {x y : MethodName} {bytes cc : ByteArray} {maxL nL mc ms n index : Nat} {ret : Option FieldType} {ws : List Cond} {rm : Room} {Pc : Array Value → State → Prop} {Qc : Array Value → State → Outcome → State → Prop} {XC : String → State → State → Prop} {free : Addr → Prop} {Ts : List Cond} {own C owner : String} {b : Addr} {As rest : List Value} {g : JFrame}
    (S : CallFix p m c cc nL s args Ts own) (hM : vx_Met l y ws rm Pc Qc XC mc ms free) (cw : va_CU R s args own C owner index x y bytes maxL ret ws rm mc ms n) (hp : PreV s H C b Pc As)
    (hg : g.method = m) (hn : As.length = n) (hsize : g.locals.size = nL) (hstack : g.stack = As.reverse ++ .ref b :: rest) (hW : 2 * g.monitorRoom + (rest.map fun v => v.category).sum ≤ 8) (hdg : decode cc g.pc = .ok (.invokevirtual index, 3)) (hf : cells + mc ≤ R.cells ∧ slots + ms ≤ R.slots) :
    vx_Run p l e R s m args below meth c H locs cells slots mc ms g rest (Qc (Value.ref b :: As).toArray) XC free := by
  obtain ⟨hrc, hrs, hfr, hlo, hws, hcw⟩ := cw.back
  have hini := cw.init
  have hK : vx_Back l R p e below s args y 3 8 (PreOf R mc ms Pc) (PostOf Qc mc ms free) (vx_Post XC mc ms free) := vx_back (bytes := bytes) (maxL := maxL) (ret := ret) hM hp.1 hrc hrs hfr hlo hws hcw (fun a' U hW => word_at hW (Or.inl (by first | rfl | simp [Cond.onTables, Cond.keeps, Cond.steady])) hini)
  obtain ⟨hx, hb, hml, ho, -⟩ := S
  obtain ⟨-, ⟨cellB, hcB, hoB, hclB⟩, hPc⟩ := hp
  intro T hT X
  rcases vx_callVU X hx (C := C) (owner := owner) (bytes := bytes) (maxL := maxL) (ret := ret) ho cw.link cw.same cw.decl cw.notMH cw.sel cw.inst cw.code hK (by rw [hT]; exact hcB) hoB hclB hg (hsize.trans hml.symm) (argsL := As) (rest := rest) (fun sig h => hn.trans (cw.len sig h)) hstack hW (by rw [hb]; exact hdg)
    (fun vm₁ hW₁ => ⟨hf.1, hf.2, hPc (T.setVm vm₁) hT hW₁⟩) with ⟨v, vm₁, ⟨U', l2, c2, s2⟩, hW₁, X', ⟨g', mk, t, L, e1, e2, hq, h1, hL, h2, h3⟩, st⟩ | ⟨q, vm₁, ⟨U', l2, c2, s2⟩, hW₁, X', ⟨g', mk, t, L, E, ce, e1, e2, hq, hce, hcv, hcl, h1, hL, h2, h3⟩, st⟩
  · dsimp only [Pt.U, Pt.locs, Pt.cells, Pt.slots] at X' e1 e2 h1 h2 h3 st
    subst h1; subst h2; subst h3
    exact Or.inl ⟨v, (T.setVm vm₁).calling g' mk (Value.ref b :: As).toArray, t, U', L, hT, X', hL, e1, e2, hq, st⟩
  · dsimp only [Pt.U, Pt.locs, Pt.cells, Pt.slots] at X' e1 e2 h1 h2 h3 st hcl
    subst h1; subst h2; subst h3
    exact Or.inr ⟨q, (T.setVm vm₁).calling g' mk (Value.ref b :: As).toArray, t, U', L, E, ce, hT, X', hL, e1, e2, hq, hce, hcv, vx_cls hW₁ hcl, st⟩
end
/-! ===== END ===== -/
theorem hE_pre {p : Program} {l : Launch} {D : va_G} {tys : List (ClassId × FieldType)} {z e0 : Nat → Nat} {A : Nat → Prop} {s : State} {H : Heap} {locs : List Loc} {w : va_W} {av : List Value} (hX : xS z A s s.heap) (hE : xE e0 A s s.heap) (hS : va_S A s.heap H locs) (hK : va_K D vwCl tys s) (hP : va_P D vwCl w H) (hD : va_D A w) (hF : ∀ q, va_A w H.size q → A q) : ∀ U : State, U.heap = H → s.WarmedH U.vm → va_Pc av (fun U => U.heap.size = H.size ∧ va_P D vwCl w U.heap ∧ va_K D vwCl tys U ∧ va_D (fun _ => True) w ∧ xS z (va_A w H.size) U U.heap ∧ xE e0 (va_A w H.size) U U.heap) av.toArray U := fun U hU hW => ⟨rfl, by rw [hU], by rw [hU]; exact hP, va_K.moved hW.alike hK, hD.weaken (fun _ _ _ _ => trivial), by rw [hU]; exact hX.pass hS hW hF, by rw [hU]; exact hE.pass hS hW hF⟩
section XF
variable {p : Program} {l : Launch} {e : Env} {R : Room} {s : State} {m : MethodId} {args : Array Value} {below : List Frame} {meth : Method} {c : Code} {H : Heap} {locs : List Loc} {cells slots : Nat} {Q : State → Prop}
variable {pc : Nat} {ls : Array Slot} {rest : List Value} {A : Nat → Prop} {cc bytes : ByteArray} {nL maxL index : Nat} {ret : Option FieldType} {Ts ws : List Cond} {rm : Room} {own : String} {y : MethodName} {D : va_G} {wd : va_W} {z e0 : Nat → Nat} {T : mT3}
theorem x_fail {no : Prop} {X : String} {q ci : Nat} {fs : List Value} {qc : vw_C} (hx : p.tables.exec = Jvm.exec) (hb : c.code = cc) (hml : c.maxLocals = nL) (hown : s.vm.findClass own = some m.cls) (hts : ∀ w ∈ Ts, w.before args s = true)
    (hM : fX no X z e0 l D (cT T) y ws rm [.ref q] [(q, .inr (ci, fs))]) (cw : CallW R s args own qc.1 index y bytes maxL ret ws rm rm.cells rm.slots 0 ∨ ∃ owner x, va_CU R s args own qc.1 owner index x y bytes maxL ret ws rm rm.cells rm.slots 0)
    (hK : va_K D vwCl (cT T) s) (hA : ∀ q : Nat, s.heap.size ≤ q → A q) (hX : xS z A s s.heap) (hE : xE e0 A s s.heap) (hP : va_P D vwCl wd H) (hD : va_D A wd) (hS : va_S A s.heap H locs) (hm : (q, (.inr (ci, fs) : va_E)) ∈ wd) (hc : vwCl[ci]? = some qc)
    (hsize : ls.size = nL) (hW : (rest.map fun v => v.category).sum ≤ 8) (hdg : decode cc pc = .ok (.invokevirtual index, 3)) (hf : cells + rm.cells ≤ R.cells ∧ slots + rm.slots ≤ R.slots)
    (kx : ¬ no → ∀ (H1 : Heap) (locs1 : List Loc) (q9 : Addr) (ce : Cell), va_P D vwCl wd H1 → va_S A s.heap H1 locs1 → H1[q9]? = some ce → ce.vm = .none → s.vm.findClass X = some ce.cls → vx_W p l e R s m args below meth c H1 locs1 (cells + rm.cells) (slots + rm.slots) Q (F0 m pc ls rest) q9)
    (kk : no → ∀ (H1 : Heap) (locs1 : List Loc), va_P D vwCl wd H1 → va_S A s.heap H1 locs1 → W p l e R s m args below meth c H1 locs1 (cells + rm.cells) (slots + rm.slots) Q (F0 m (pc + 3) ls rest)) :
    W p l e R s m args below meth c H locs cells slots Q (F0 m pc ls (.ref q :: rest)) := by
  have hs : ∀ w ∈ [(q, (.inr (ci, fs) : va_E))], w ∈ wd := fun w hw => by rw [List.mem_singleton.mp hw]; exact hm
  have hF := h_freeS (w0 := [(q, .inr (ci, fs))]) hD hS hA hs
  have hP0 : va_P D vwCl [(q, .inr (ci, fs))] H := hP.mono hs
  have hD0 : va_D A [(q, (.inr (ci, fs) : va_E))] := va_D_nodup.mpr ⟨by simp, fun w hw => (va_D_nodup.mp hD).2 w (hs w hw)⟩
  have hrun : vx_Run p l e R s m args below meth c H locs cells slots rm.cells rm.slots (F0 m pc ls (.ref q :: rest)) rest (va_Qv (fun (_ : Unit) => no) (fun _ t => va_P D vwCl [(q, .inr (ci, fs))] t.heap ∧ va_K D vwCl (cT T) t ∧ va_D (va_A [(q, .inr (ci, fs))] H.size) [(q, .inr (ci, fs))]) (va_A [(q, .inr (ci, fs))] H.size) (Value.ref q :: ([] : List Value)).toArray) (vx_X (fun (_ : Unit) => ¬ no) (fun E _ t => E = X ∧ va_P D vwCl [(q, .inr (ci, fs))] t.heap) (va_A [(q, .inr (ci, fs))] H.size)) (va_A [(q, .inr (ci, fs))] H.size) := by
    rcases cw with cw | ⟨owner, x, cw⟩
    · exact vx_runV (As := []) (rest := rest) ⟨hx, hb, hml, hown, hts⟩ (hM H.size) cw ⟨hxE_blind, va_recv (q0 := 0) hK hP0 hc rfl, hE_pre (p := p) (l := l) hX hE hS hK hP0 hD0 hF⟩ rfl rfl hsize rfl (lv_room hW) hdg hf
    · exact vx_runU (As := []) (rest := rest) ⟨hx, hb, hml, hown, hts⟩ (hM H.size) cw ⟨hxE_blind, va_recv (q0 := 0) hK hP0 hc rfl, hE_pre (p := p) (l := l) hX hE hS hK hP0 hD0 hF⟩ rfl rfl hsize rfl (lv_room hW) hdg hf
  refine vx_callv hrun hS (fun q _ h => hF q h) hF (fun q _ h => hF q h) (fun E ce q9 u t H1 locs1 ht _ hn hB hz1 hk1 hS1 hce hcv hcl => ?_) (fun u t H1 locs1 ht _ hn hB hz1 hk1 hS1 => ?_)
  · obtain ⟨hEX, hP1⟩ := hB
    rw [ht] at hP1
    subst hEX
    exact kx hn H1 locs1 q9 ce (h_same hP hD hs hk1 hP1) hS1 hce hcv hcl
  · obtain ⟨hP1, -, -⟩ := hB
    rw [ht] at hP1
    exact kk hn H1 locs1 (h_same hP hD hs hk1 hP1) hS1
end XF
/-- a call in the class's world that may want exceptions -/
def hXE (S : XA → XA → Prop) (z e0 : Nat → Nat) (l : Launch) (D : va_G) (T : mT3) (b : Nat → Nat) (y : MethodName) (ws : List Cond) (rm : Room) (As : List Value) (xa : XA) (xs : XS) (r : Int32) (xs' : XS) : Prop :=
  ∀ sz : Nat, Met l y ws rm (va_Pc As (fun U => U.heap.size = sz ∧ va_P D vwCl (xW b T xa xs) U.heap ∧ va_K D vwCl (cT T) U ∧ va_D (fun _ => True) (xW b T xa xs) ∧ xS z (va_A (xW b T xa xs) sz) U U.heap ∧ xE e0 (va_A (xW b T xa xs) sz) U U.heap))
    (va_Qi (fun (x : Int32) (xa' : XA) => x = r ∧ xRel b xa' xs' ∧ S xa xa') (fun xa' t => va_P D vwCl (xW b T xa' xs') t.heap ∧ va_K D vwCl (cT T) t ∧ va_D (va_A (xW b T xa xs) sz) (xW b T xa' xs')) (va_A (xW b T xa xs) sz)) rm.cells rm.slots (va_A (xW b T xa xs) sz)
set_option maxHeartbeats 4000000 in
theorem xbody_E {S : XA → XA → Prop} {z e0 : Nat → Nat} {l : Launch} {D : va_G} {T : mT3} {b : Nat → Nat} {y : MethodName} {ws ws' : List Cond} {rm : Room} {As : List Value} {xa : XA} {xs xs' : XS} {r : Int32} {bytes : ByteArray} {maxL : Nat} {rt : FieldType} {hh : List (Nat × Nat × Nat × Nat)}
    (hy : plainName y.cls = true) (hws : ws = Cond.codeWith y bytes maxL (some rt) hh :: ws') (hlen : (lg_sl As).length ≤ maxL)
    (body : ∀ (p : Program) (e : Env) (s : State) (m : MethodId) (args : Array Value) (below : List Frame) (meth : Method) (c : Code) (A : Nat → Prop) (Q : State → Prop),
      p.tables.exec = Jvm.exec → c.code = bytes → c.maxLocals = maxL → s.vm.findClass y.cls = some m.cls → (∀ w ∈ ws, w.before args s = true) → va_K D vwCl (cT T) s → (∀ q : Nat, s.heap.size ≤ q → A q) → xS z A s s.heap → xE e0 A s s.heap → c.exceptionTable.toList = tableOf hh →
      (∀ (pc : Nat) (H : Heap) (locs : List Loc) (ls : Array Slot) (xa' : XA) (ce sl : Nat), ce ≤ rm.cells → sl ≤ rm.slots → xRel b xa' xs' → S xa xa' → va_P D vwCl (xW b T xa' xs') H → va_D A (xW b T xa' xs') → va_S A s.heap H locs → narrow rt (.int r) = .int r → decode bytes pc = .ok (.ireturn, 1) → W p l e rm s m args below meth c H locs ce sl Q (F0 m pc ls [.int r])) →
      ∀ ls : Array Slot, va_P D vwCl (xW b T xa xs) s.heap → va_D A (xW b T xa xs) → va_S A s.heap s.heap [] → lv_has ls maxL (lv_args 0 As) → W p l e rm s m args below meth c s.heap [] 0 0 Q (F0 m 0 ls [])) :
    hXE S z e0 l D T b y ws rm As xa xs r xs' := by
  intro sz
  refine va_MetW (cc := bytes) (maxL := maxL) (ret := some rt) (hh := hh) hy hws ?_
  intro p e s m args below meth c s₁ B hml hv
  obtain ⟨rfl, hsz, hP, hK, hD0, hX, hE⟩ := hv
  have hr := B.returns
  have hlocks := B.notSynchronized
  subst hsz
  have hl := lv_entry As (n := maxL) hlen
  rw [lg_entry_eq]
  have hcw : (Cond.codeWith y bytes maxL (some rt) hh).before As.toArray s = true := atoms_spec (ws := ws) B.pre _ (by rw [hws]; exact List.mem_cons_self)
  have htab : c.exceptionTable.toList = tableOf hh := vx_table (x := y) B hcw
  refine body p e s m _ below meth c (va_A (xW b T xa xs) s.heap.size) _ B.exec B.bytes hml (findClass_of_methodNamed B.named) (atoms_spec (ws := ws) B.pre) hK (fun q h => Or.inr h) hX hE htab ?_ _ hP hD0.self va_S.rf hl
  intro pc H locs ls xa' ce sl hce hsl hR hSS hP1 hD1 hS hn hdg
  have kk : W p l e rm s m As.toArray below meth c H locs rm.cells rm.slots (MQ below (va_Qi (fun (x : Int32) (xa' : XA) => x = r ∧ xRel b xa' xs' ∧ S xa xa') (fun xa' t => va_P D vwCl (xW b T xa' xs') t.heap ∧ va_K D vwCl (cT T) t ∧ va_D (va_A (xW b T xa xs) s.heap.size) (xW b T xa' xs')) (va_A (xW b T xa xs) s.heap.size)) As.toArray s rm.cells rm.slots (va_A (xW b T xa xs) s.heap.size)) (F0 m pc ls [.int r]) :=
    W.zret (v := r) (ty := rt) B.exec B.bytes hr hn (fun t ht hW => ⟨⟨r, xa', rfl, ⟨rfl, hR, hSS⟩, by rw [ht]; exact hP1, va_K.moved hW.alike hK, hD1⟩, hS.F ht⟩) hS.2.2 hdg
  exact fun T hT X' => kk T hT (stand_widen X' hce hsl)
