/-! own rows for the class's side: what is read off static rows, links among nest mates, what may be stored where: all go with every contract -/
def cAh : Nat → Int32 := fun k => ([0, 5, 9, 10, 9, 5, 0, -5, -9, -10, -9, -5] : List Int32).getD k 0
def cAs : Nat → Int32 := fun k => ([10, 9, 5, 0, -5, -9, -10, -9, -5, 0, 5, 9] : List Int32).getD k 0
def cLe : Nat → Int32 := fun k => ([0, 0, 0, 0, 0, 20, 0] : List Int32).getD k 0
def cMo : Nat → Int32 := fun k => ([11, 20, 11, 20, 400, 200, 11] : List Int32).getD k 0
def cLs : Nat → Int32 := fun k => ([-128, -32768, -2147483648] : List Int32).getD k 0
noncomputable def xNest : List Cond := [.methodLinkNest RX8 67 yX10_isSide RX10, .methodLinkNest RX8 63 yX10_isAsTold RX10, .methodLinkNest RX8 109 yX10_around RX10, .fieldLinkNest RX8 75 RX10 "AHEAD" "[I" RX10, .fieldLinkNest RX8 78 RX10 "ASIDE" "[I" RX10, .fieldLinkNest RX7 27 RX10 "LEAST_OF_SORT" "[I" RX10, .castable RX1 RX0, .castable RX2 RX0, .castable RX3 RX0, .castable RX4 RX0, .castable RX5 RX0, .castable RX6 RX0, .castable RX9 RX0]
/-- the statics: five rows of numbers at the cells z -/
def xS (z : Nat → Nat) (A : Nat → Prop) (U : State) (H : Heap) : Prop := (∀ w ∈ xNest, va_Nw w U) ∧
  (va_Z RX10 "AHEAD" "[I" (.ref (z 0)) A U H ∧ va_T .int (z 0) 12 (fun j => .int (cAh j)) A U H) ∧
  (va_Z RX10 "ASIDE" "[I" (.ref (z 1)) A U H ∧ va_T .int (z 1) 12 (fun j => .int (cAs j)) A U H) ∧
  (va_Z RX10 "LEAST" "[I" (.ref (z 2)) A U H ∧ va_T .int (z 2) 7 (fun j => .int (cLe j)) A U H) ∧
  (va_Z RX10 "MOST" "[I" (.ref (z 3)) A U H ∧ va_T .int (z 3) 7 (fun j => .int (cMo j)) A U H) ∧
  (va_Z RX10 "LEAST_OF_SORT" "[I" (.ref (z 4)) A U H ∧ va_T .int (z 4) 3 (fun j => .int (cLs j)) A U H)
theorem xNest_on : ∀ w ∈ xNest, w.onTables = true := by decide +kernel
theorem xNest_warm {s U : State} (hW : s.WarmedH U.vm) (h : ∀ w ∈ xNest, va_Nw w s) : ∀ w ∈ xNest, va_Nw w U := by
  exact List.forall_mem_cons.mpr ⟨va_Nw.warmM hW (h _ (List.mem_of_getElem? (i := 0) rfl)), List.forall_mem_cons.mpr ⟨va_Nw.warmM hW (h _ (List.mem_of_getElem? (i := 1) rfl)), List.forall_mem_cons.mpr ⟨va_Nw.warmM hW (h _ (List.mem_of_getElem? (i := 2) rfl)), List.forall_mem_cons.mpr ⟨va_Nw.warmF hW (h _ (List.mem_of_getElem? (i := 3) rfl)), List.forall_mem_cons.mpr ⟨va_Nw.warmF hW (h _ (List.mem_of_getElem? (i := 4) rfl)), List.forall_mem_cons.mpr ⟨va_Nw.warmF hW (h _ (List.mem_of_getElem? (i := 5) rfl)), List.forall_mem_cons.mpr ⟨va_Nw.warmC hW (h _ (List.mem_of_getElem? (i := 6) rfl)), List.forall_mem_cons.mpr ⟨va_Nw.warmC hW (h _ (List.mem_of_getElem? (i := 7) rfl)), List.forall_mem_cons.mpr ⟨va_Nw.warmC hW (h _ (List.mem_of_getElem? (i := 8) rfl)), List.forall_mem_cons.mpr ⟨va_Nw.warmC hW (h _ (List.mem_of_getElem? (i := 9) rfl)), List.forall_mem_cons.mpr ⟨va_Nw.warmC hW (h _ (List.mem_of_getElem? (i := 10) rfl)), List.forall_mem_cons.mpr ⟨va_Nw.warmC hW (h _ (List.mem_of_getElem? (i := 11) rfl)), List.forall_mem_cons.mpr ⟨va_Nw.warmC hW (h _ (List.mem_of_getElem? (i := 12) rfl)), fun _ h => absurd h List.not_mem_nil⟩⟩⟩⟩⟩⟩⟩⟩⟩⟩⟩⟩⟩
theorem xS.blind {z : Nat → Nat} {A : Nat → Prop} {U : State} {H : Heap} (h : xS z A U H) (g : JFrame) (mk : MethodId) (a : Array Value) : xS z A (U.calling g mk a) H := by
  obtain ⟨hn, ⟨a0, b0⟩, ⟨a1, b1⟩, ⟨a2, b2⟩, ⟨a3, b3⟩, ⟨a4, b4⟩⟩ := h
  have hv : U.vm = (U.calling g mk a).vm := rfl
  exact ⟨fun w hw => va_Nw.same (xNest_on w hw) hv (hn w hw), ⟨va_Z.moved (Vm.Alike.refl U.vm) a0, va_T.moved (Vm.Alike.refl U.vm) b0⟩, ⟨va_Z.moved (Vm.Alike.refl U.vm) a1, va_T.moved (Vm.Alike.refl U.vm) b1⟩, ⟨va_Z.moved (Vm.Alike.refl U.vm) a2, va_T.moved (Vm.Alike.refl U.vm) b2⟩, ⟨va_Z.moved (Vm.Alike.refl U.vm) a3, va_T.moved (Vm.Alike.refl U.vm) b3⟩, ⟨va_Z.moved (Vm.Alike.refl U.vm) a4, va_T.moved (Vm.Alike.refl U.vm) b4⟩⟩
theorem xS.pass {z : Nat → Nat} {A B : Nat → Prop} {s U : State} {H : Heap} {locs : List Loc} (h : xS z A s s.heap) (hS : va_S A s.heap H locs) (hW : s.WarmedH U.vm) (hB : ∀ q, B q → A q) : xS z B U H := by
  obtain ⟨hn, ⟨a0, b0⟩, ⟨a1, b1⟩, ⟨a2, b2⟩, ⟨a3, b3⟩, ⟨a4, b4⟩⟩ := h
  exact ⟨xNest_warm hW hn, ⟨((va_Z.moved hW.alike a0).kept hS.2.1).narrow hB, ((va_T.moved hW.alike b0).kept hS.2.1).narrow hB⟩, ⟨((va_Z.moved hW.alike a1).kept hS.2.1).narrow hB, ((va_T.moved hW.alike b1).kept hS.2.1).narrow hB⟩, ⟨((va_Z.moved hW.alike a2).kept hS.2.1).narrow hB, ((va_T.moved hW.alike b2).kept hS.2.1).narrow hB⟩, ⟨((va_Z.moved hW.alike a3).kept hS.2.1).narrow hB, ((va_T.moved hW.alike b3).kept hS.2.1).narrow hB⟩, ⟨((va_Z.moved hW.alike a4).kept hS.2.1).narrow hB, ((va_T.moved hW.alike b4).kept hS.2.1).narrow hB⟩⟩
theorem xS.nest {z : Nat → Nat} {A : Nat → Prop} {s : State} {H : Heap} (h : xS z A s H) (k : Nat) {w : Cond} (hk : xNest[k]? = some w) : va_Nw w s := h.1 w (List.mem_of_getElem? hk)
theorem Met_ofWF {l : Launch} {y : MethodName} {ws ws' : List Cond} {rm : Room} {Pc : Array Value → State → Prop} {Qc : Array Value → State → Outcome → State → Prop} {mc ms : Nat} {free : Addr → Prop} {cc : ByteArray} {maxL : Nat} {ret : Option FieldType}
    (hy : plainFor y = true) (hw : ws = Cond.code y cc maxL ret :: ws')
    (body : ∀ p e s m args below meth c s₁, BodyLoose p l y (headSpec ws rm) cc maxL ret e s m args below meth c s₁ → c.maxLocals = maxL → Pc args s →
      W p l e (headSpec ws rm).room s m args below meth c s.heap [] 0 0 (MQ below Qc args s mc ms free) (entryFrame m args maxL)) : Met l y ws rm Pc Qc mc ms free := by
  refine MetFree.of_bodySF (code := cc) (maxLocals := maxL) (ret := ret) hy ?_ ?_
  · intro args s m h hn
    obtain ⟨meth, c, h1, h2, h3, h4, h5, h6, -, -⟩ := Cond.code_spec hn (atoms_spec (ws := ws) h _ (by rw [hw]; exact List.mem_cons_self))
    exact ⟨meth, c, h1, h2, h3, h4, h5, h6⟩
  · intro p e s m args below meth c s₁ B hml hP _
    have hh0 : s₁.heap = s.heap := by rw [B.state]; rfl
    obtain ⟨t, a1, o, b1, b2, b3⟩ := body p e s m args below meth c s₁ B hml hP s₁ hh0 (Stand.of_body B)
    exact ⟨t, o, a1, b1, b2, ⟨b3.1, b3.2⟩⟩
def hCi (z : Nat → Nat) (l : Launch) (D : va_G) (tys : List (ClassId × FieldType)) (y : MethodName) (ws : List Cond) (rm : Room) (As : List Value) (w0 : va_W) (r : Int32) (w1 : va_W) : Prop :=
  ∀ sz : Nat, Met l y ws rm (va_Pc As (fun U => U.heap.size = sz ∧ va_P D vwCl w0 U.heap ∧ va_K D vwCl tys U ∧ va_D (fun _ => True) w0 ∧ xS z (va_A w0 sz) U U.heap))
    (va_Qi (fun (x : Int32) (_ : Unit) => x = r) (fun _ t => va_P D vwCl w1 t.heap ∧ va_K D vwCl tys t ∧ va_D (va_A w0 sz) w1) (va_A w0 sz)) rm.cells rm.slots (va_A w0 sz)
def hCl (z : Nat → Nat) (l : Launch) (D : va_G) (tys : List (ClassId × FieldType)) (y : MethodName) (ws : List Cond) (rm : Room) (As : List Value) (w0 : va_W) (r : Int64) (w1 : va_W) : Prop :=
  ∀ sz : Nat, Met l y ws rm (va_Pc As (fun U => U.heap.size = sz ∧ va_P D vwCl w0 U.heap ∧ va_K D vwCl tys U ∧ va_D (fun _ => True) w0 ∧ xS z (va_A w0 sz) U U.heap))
    (va_Ql (fun (x : Int64) (_ : Unit) => x = r) (fun _ t => va_P D vwCl w1 t.heap ∧ va_K D vwCl tys t ∧ va_D (va_A w0 sz) w1) (va_A w0 sz)) rm.cells rm.slots (va_A w0 sz)
def hCv (z : Nat → Nat) (l : Launch) (D : va_G) (tys : List (ClassId × FieldType)) (y : MethodName) (ws : List Cond) (rm : Room) (As : List Value) (w0 : va_W) (w1 : va_W) : Prop :=
  ∀ sz : Nat, Met l y ws rm (va_Pc As (fun U => U.heap.size = sz ∧ va_P D vwCl w0 U.heap ∧ va_K D vwCl tys U ∧ va_D (fun _ => True) w0 ∧ xS z (va_A w0 sz) U U.heap))
    (va_Qv (fun (_ : Unit) => True) (fun _ t => va_P D vwCl w1 t.heap ∧ va_K D vwCl tys t ∧ va_D (va_A w0 sz) w1) (va_A w0 sz)) rm.cells rm.slots (va_A w0 sz)
set_option maxHeartbeats 4000000 in
theorem h_body_i {z : Nat → Nat} {l : Launch} {D : va_G} {tys : List (ClassId × FieldType)} {y : MethodName} {ws ws' : List Cond} {rm : Room} {As : List Value} {w0 w1 : va_W} {r : Int32} {bytes : ByteArray} {maxL : Nat} {rt : FieldType}
    (hy : plainFor y = true) (hws : ws = Cond.code y bytes maxL (some rt) :: ws') (hlen : (lg_sl As).length ≤ maxL)
    (body : ∀ (p : Program) (e : Env) (s : State) (m : MethodId) (args : Array Value) (below : List Frame) (meth : Method) (c : Code) (A : Nat → Prop) (Q : State → Prop),
      p.tables.exec = Jvm.exec → c.code = bytes → c.maxLocals = maxL → s.vm.findClass y.cls = some m.cls → (∀ w ∈ ws, w.before args s = true) → va_K D vwCl tys s → (∀ q : Nat, s.heap.size ≤ q → A q) → xS z A s s.heap →
      (∀ (pc : Nat) (H : Heap) (locs : List Loc) (ls : Array Slot), va_P D vwCl w1 H → va_D A w1 → va_S A s.heap H locs → narrow rt (.int r) = .int r → decode bytes pc = .ok (.ireturn, 1) → W p l e rm s m args below meth c H locs rm.cells rm.slots Q (F0 m pc ls [.int r])) →
      ∀ ls : Array Slot, va_P D vwCl w0 s.heap → va_D A w0 → va_S A s.heap s.heap [] → lv_has ls maxL (lv_args 0 As) → W p l e rm s m args below meth c s.heap [] 0 0 Q (F0 m 0 ls [])) :
    hCi z l D tys y ws rm As w0 r w1 := by
  intro sz
  refine Met_ofWF (cc := bytes) (maxL := maxL) (ret := some rt) hy hws ?_
  intro p e s m args below meth c s₁ B hml hv
  obtain ⟨rfl, hsz, hP, hK, hD0, hX⟩ := hv
  have hr := B.returns
  have hlocks := B.notSynchronized
  subst hsz
  have hl := lv_entry As (n := maxL) hlen
  rw [lg_entry_eq]
  refine body p e s m _ below meth c (va_A w0 s.heap.size) _ B.exec B.bytes hml (findClass_of_methodNamed B.named) (atoms_spec (ws := ws) B.pre) hK (fun q h => Or.inr h) hX ?_ _ hP hD0.self va_S.rf hl
  intro pc H locs ls hP1 hD1 hS hn hdg
  exact W.zret (v := r) (ty := rt) B.exec B.bytes hr hn (fun t ht hW => ⟨⟨r, (), rfl, rfl, by rw [ht]; exact hP1, va_K.moved hW.alike hK, hD1⟩, hS.F ht⟩) hS.2.2 hdg
set_option maxHeartbeats 4000000 in
theorem h_body_l {z : Nat → Nat} {l : Launch} {D : va_G} {tys : List (ClassId × FieldType)} {y : MethodName} {ws ws' : List Cond} {rm : Room} {As : List Value} {w0 w1 : va_W} {r : Int64} {bytes : ByteArray} {maxL : Nat}
    (hy : plainFor y = true) (hws : ws = Cond.code y bytes maxL (some .long) :: ws') (hlen : (lg_sl As).length ≤ maxL)
    (body : ∀ (p : Program) (e : Env) (s : State) (m : MethodId) (args : Array Value) (below : List Frame) (meth : Method) (c : Code) (A : Nat → Prop) (Q : State → Prop),
      p.tables.exec = Jvm.exec → c.code = bytes → c.maxLocals = maxL → s.vm.findClass y.cls = some m.cls → (∀ w ∈ ws, w.before args s = true) → va_K D vwCl tys s → (∀ q : Nat, s.heap.size ≤ q → A q) → xS z A s s.heap →
      (∀ (pc : Nat) (H : Heap) (locs : List Loc) (ls : Array Slot), va_P D vwCl w1 H → va_D A w1 → va_S A s.heap H locs → decode bytes pc = .ok (.lreturn, 1) → W p l e rm s m args below meth c H locs rm.cells rm.slots Q (F0 m pc ls [.long r])) →
      ∀ ls : Array Slot, va_P D vwCl w0 s.heap → va_D A w0 → va_S A s.heap s.heap [] → lv_has ls maxL (lv_args 0 As) → W p l e rm s m args below meth c s.heap [] 0 0 Q (F0 m 0 ls [])) :
    hCl z l D tys y ws rm As w0 r w1 := by
  intro sz
  refine Met_ofWF (cc := bytes) (maxL := maxL) (ret := some .long) hy hws ?_
  intro p e s m args below meth c s₁ B hml hv
  obtain ⟨rfl, hsz, hP, hK, hD0, hX⟩ := hv
  have hr := B.returns
  have hlocks := B.notSynchronized
  subst hsz
  have hl := lv_entry As (n := maxL) hlen
  rw [lg_entry_eq]
  refine body p e s m _ below meth c (va_A w0 s.heap.size) _ B.exec B.bytes hml (findClass_of_methodNamed B.named) (atoms_spec (ws := ws) B.pre) hK (fun q h => Or.inr h) hX ?_ _ hP hD0.self va_S.rf hl
  intro pc H locs ls hP1 hD1 hS hdg
  exact W.lret (v := r) B.exec B.bytes hr (fun t ht hW => ⟨⟨r, (), rfl, rfl, by rw [ht]; exact hP1, va_K.moved hW.alike hK, hD1⟩, hS.F ht⟩) hS.2.2 hdg
set_option maxHeartbeats 4000000 in
theorem h_body_v {z : Nat → Nat} {l : Launch} {D : va_G} {tys : List (ClassId × FieldType)} {y : MethodName} {ws ws' : List Cond} {rm : Room} {As : List Value} {w0 w1 : va_W} {bytes : ByteArray} {maxL : Nat}
    (hy : plainFor y = true) (hws : ws = Cond.code y bytes maxL (none) :: ws') (hlen : (lg_sl As).length ≤ maxL)
    (body : ∀ (p : Program) (e : Env) (s : State) (m : MethodId) (args : Array Value) (below : List Frame) (meth : Method) (c : Code) (A : Nat → Prop) (Q : State → Prop),
      p.tables.exec = Jvm.exec → c.code = bytes → c.maxLocals = maxL → s.vm.findClass y.cls = some m.cls → (∀ w ∈ ws, w.before args s = true) → va_K D vwCl tys s → (∀ q : Nat, s.heap.size ≤ q → A q) → xS z A s s.heap → meth.name = y.name →
      (∀ (pc : Nat) (H : Heap) (locs : List Loc) (ls : Array Slot), va_P D vwCl w1 H → va_D A w1 → va_S A s.heap H locs → decode bytes pc = .ok (.return_, 1) → W p l e rm s m args below meth c H locs rm.cells rm.slots Q (F0 m pc ls [])) →
      ∀ ls : Array Slot, va_P D vwCl w0 s.heap → va_D A w0 → va_S A s.heap s.heap [] → lv_has ls maxL (lv_args 0 As) → W p l e rm s m args below meth c s.heap [] 0 0 Q (F0 m 0 ls [])) :
    hCv z l D tys y ws rm As w0 w1 := by
  intro sz
  refine Met_ofWF (cc := bytes) (maxL := maxL) (ret := none) hy hws ?_
  intro p e s m args below meth c s₁ B hml hv
  obtain ⟨rfl, hsz, hP, hK, hD0, hX⟩ := hv
  have hr := B.returns
  have hlocks := B.notSynchronized
  have hin := (name_of_methodNamed B.named B.method).1
  subst hsz
  have hl := lv_entry As (n := maxL) hlen
  rw [lg_entry_eq]
  refine body p e s m _ below meth c (va_A w0 s.heap.size) _ B.exec B.bytes hml (findClass_of_methodNamed B.named) (atoms_spec (ws := ws) B.pre) hK (fun q h => Or.inr h) hX hin ?_ _ hP hD0.self va_S.rf hl
  intro pc H locs ls hP1 hD1 hS hdg
  exact W.vret B.exec B.bytes hr (fun t ht hW => ⟨⟨(), rfl, trivial, by rw [ht]; exact hP1, va_K.moved hW.alike hK, hD1⟩, hS.F ht⟩) hS.2.2 hdg
/-! worlds as sets: order doesn't matter -/
theorem va_P.mono {D : va_G} {cl : List vw_C} {ws ws' : va_W} {H : Heap} (h : va_P D cl ws H) (hs : ∀ q ∈ ws', q ∈ ws) : va_P D cl ws' H := by
  intro k q hk
  obtain ⟨i, hi⟩ := List.getElem?_of_mem (hs q (List.mem_of_getElem? hk))
  exact h i q hi
theorem va_D_nodup {A : Nat → Prop} {ws : va_W} : va_D A ws ↔ (ws.map Prod.fst).Nodup ∧ ∀ q ∈ ws, A q.1 := by
  constructor
  · intro h
    refine ⟨?_, fun q hq => ?_⟩
    · refine List.pairwise_iff_getElem.mpr fun i j hi hj hij => ?_
      have hi' : i < ws.length := by simpa using hi
      have hj' : j < ws.length := by simpa using hj
      intro he
      rw [List.getElem_map, List.getElem_map] at he
      have := h.1 i j _ _ (List.getElem?_eq_getElem hi') (List.getElem?_eq_getElem hj') he
      omega
    · obtain ⟨i, hi⟩ := List.getElem?_of_mem hq
      exact h.2 i q hi
  · intro h
    have h1 := List.pairwise_iff_getElem.mp h.1
    refine ⟨fun i j p q hi hj he => ?_, fun k q hk => h.2 q (List.mem_of_getElem? hk)⟩
    obtain ⟨hi', ei⟩ := List.getElem?_eq_some_iff.mp hi
    obtain ⟨hj', ej⟩ := List.getElem?_eq_some_iff.mp hj
    rcases Nat.lt_trichotomy i j with hlt | heq | hlt
    · exact absurd (by rw [List.getElem_map, List.getElem_map, ei, ej, he]) (h1 i j (by simpa using hi') (by simpa using hj') hlt)
    · exact heq
    · exact absurd (by rw [List.getElem_map, List.getElem_map, ei, ej, he]) (h1 j i (by simpa using hj') (by simpa using hi') hlt)
theorem va_D.perm {A : Nat → Prop} {ws ws' : va_W} (h : va_D A ws) (hp : ws.Perm ws') : va_D A ws' := by
  rw [va_D_nodup] at h ⊢
  exact ⟨(hp.map Prod.fst).nodup_iff.mp h.1, fun q hq => h.2 q (hp.mem_iff.mpr hq)⟩
theorem va_P.perm {D : va_G} {cl : List vw_C} {ws ws' : va_W} {H : Heap} (h : va_P D cl ws H) (hp : ws.Perm ws') : va_P D cl ws' H := h.mono fun _ hq => hp.mem_iff.mpr hq
section HCALL
variable {p : Program} {l : Launch} {e : Env} {R : Room} {s : State} {m : MethodId} {args : Array Value} {below : List Frame} {meth : Method} {c : Code} {H : Heap} {locs : List Loc} {cells slots : Nat} {Q : State → Prop}
variable {pc : Nat} {ls : Array Slot} {rest st0 : List Value} {A : Nat → Prop} {cc bytes : ByteArray} {nL maxL index n : Nat} {ret : Option FieldType} {Ts ws : List Cond} {rm : Room} {own host : String} {y : MethodName} {D : va_G} {tys tys0 : List (ClassId × FieldType)} {w0 w1 wd wr wd' : va_W} {As : List Value} {b : Nat} {z : Nat → Nat}
theorem h_blind {w : va_W} {sz : Nat} {av : List Value} : FrameBlind (va_Pc av (fun U => U.heap.size = sz ∧ va_P D vwCl w U.heap ∧ va_K D vwCl tys U ∧ va_D (fun _ => True) w ∧ xS z (va_A w sz) U U.heap)) := fun a U g mk q => by
  obtain ⟨q0, q1, qP, qK, qD, qX⟩ := q
  exact ⟨q0, q1, qP, va_K.moved (u := U) (U := U.calling g mk a) (Vm.Alike.refl U.vm) qK, qD, qX.blind g mk a⟩
theorem h_pre {w : va_W} {av : List Value} (hX : xS z A s s.heap) (hS : va_S A s.heap H locs) (hK : va_K D vwCl tys s) (hP : va_P D vwCl w H) (hD : va_D A w) (hF : ∀ q, va_A w H.size q → A q) : ∀ U : State, U.heap = H → s.WarmedH U.vm → va_Pc av (fun U => U.heap.size = H.size ∧ va_P D vwCl w U.heap ∧ va_K D vwCl tys U ∧ va_D (fun _ => True) w ∧ xS z (va_A w H.size) U U.heap) av.toArray U := fun U hU hW => ⟨rfl, by rw [hU], by rw [hU]; exact hP, va_K.moved hW.alike hK, hD.weaken (fun _ _ _ _ => trivial), by rw [hU]; exact hX.pass hS hW hF⟩
/-- behind a call: the callee's world w0 became w1, the rest wr stays -/
theorem h_after (hP : va_P D vwCl wd H) (hD : va_D A wd) (hp : wd.Perm (w0 ++ wr)) (hp' : (w1 ++ wr).Perm wd') {H1 : Heap} (hF : ∀ q, va_A w0 H.size q → A q) (hk1 : ∀ q : Nat, q < H.size → ¬ va_A w0 H.size q → H1[q]? = H[q]?) (hP1 : va_P D vwCl w1 H1) (hD1 : va_D (va_A w0 H.size) w1) : va_P D vwCl wd' H1 ∧ va_D A wd' := by
  have hPa := hP.perm hp
  have hDa := va_D_nodup.mp (hD.perm hp)
  rw [List.map_append, List.nodup_append] at hDa
  obtain ⟨⟨n0, n1, n2⟩, n3⟩ := hDa
  have hlt : ∀ q ∈ wr, q.1 < H.size := fun q hq => by
    obtain ⟨i, hi⟩ := List.getElem?_of_mem (List.mem_append_right w0 hq)
    exact (hPa i q hi).lt
  have hout : ∀ q ∈ wr, ¬ va_A w0 H.size q.1 := by
    intro q hq h
    rcases h with ⟨k, e', hk⟩ | h
    · exact n2 q.1 (List.mem_map.mpr ⟨_, List.mem_of_getElem? hk, rfl⟩) q.1 (List.mem_map.mpr ⟨_, hq, rfl⟩) rfl
    · have := hlt q hq; omega
  have hPr : va_P D vwCl wr H1 := by
    intro k q hk
    have hm := List.mem_of_getElem? hk
    have h0 : va_at D vwCl q H := (hPa.mono (fun q hq => List.mem_append_right w0 hq)) k q hk
    exact h0.kept (hk1 q.1 (hlt q hm) (hout q hm))
  refine ⟨(va_P.app hP1 hPr).perm hp', va_D.perm (va_D_nodup.mpr ?_) hp'⟩
  have hd1 := va_D_nodup.mp hD1
  rw [List.map_append, List.nodup_append]
  refine ⟨⟨hd1.1, n1, fun a ha b hb hab => ?_⟩, fun q hq => ?_⟩
  · obtain ⟨q1, m1, rfl⟩ := List.mem_map.mp ha
    obtain ⟨q2, m2, rfl⟩ := List.mem_map.mp hb
    exact hout q2 m2 (hab ▸ hd1.2 q1 m1)
  · rcases List.mem_append.mp hq with h | h
    · exact hF _ (hd1.2 q h)
    · exact n3 q (List.mem_append_right _ h)
/-- behind a call that leaves its world as it was -/
theorem h_same (hP : va_P D vwCl wd H) (hD : va_D A wd) (hs : ∀ q ∈ w0, q ∈ wd) {H1 : Heap} (hk1 : ∀ q : Nat, q < H.size → ¬ va_A w0 H.size q → H1[q]? = H[q]?) (hP1 : va_P D vwCl w0 H1) : va_P D vwCl wd H1 := by
  intro k q hk
  have h0 := hP k q hk
  by_cases hq : va_A w0 H.size q.1
  · rcases hq with ⟨k2, e2, h2⟩ | hq
    · have hm := hs _ (List.mem_of_getElem? h2)
      obtain ⟨i, hi⟩ := List.getElem?_of_mem hm
      have hik := hD.1 i k _ _ hi hk rfl
      subst hik
      have hqe : (q.1, e2) = q := Option.some.inj (hi.symm.trans hk)
      rw [← hqe]
      exact hP1 k2 _ h2
    · have := h0.lt; omega
  · exact h0.kept (hk1 q.1 h0.lt hq)
theorem h_freeS (hD : va_D A wd) (hS : va_S A s.heap H locs) (hA : ∀ q, s.heap.size ≤ q → A q) (hs : ∀ q ∈ w0, q ∈ wd) : ∀ q, va_A w0 H.size q → A q := by
  intro q h
  rcases h with ⟨k, e', h⟩ | h
  · obtain ⟨i, hi⟩ := List.getElem?_of_mem (hs _ (List.mem_of_getElem? h))
    exact hD.2 i (q, e') hi
  · exact hA q (Nat.le_trans hS.1 h)
theorem va_D.sub2 (hD : va_D A wd) (hp : wd.Perm (w0 ++ wr)) : va_D A w0 := by
  have h := va_D_nodup.mp (hD.perm hp)
  rw [List.map_append, List.nodup_append] at h
  exact va_D_nodup.mpr ⟨h.1.1, fun q hq => h.2 q (List.mem_append_left _ hq)⟩
theorem h_vi {r : Int32} {ci q0 : Nat} {fs : List Value} {qc : vw_C} (hx : p.tables.exec = Jvm.exec) (hb : c.code = cc) (hml : c.maxLocals = nL) (hown : s.vm.findClass own = some m.cls) (hts : ∀ w ∈ Ts, w.before args s = true)
    (hM : hCi z l D tys0 y ws rm (.ref b :: As) w0 r w1) (cw : CallW R s args own qc.1 index y bytes maxL ret ws rm rm.cells rm.slots n)
    (hK0 : va_K D vwCl tys0 s) (hA : ∀ q : Nat, s.heap.size ≤ q → A q) (hX : xS z A s s.heap) (hP : va_P D vwCl wd H) (hD : va_D A wd) (hS : va_S A s.heap H locs) (hp : wd.Perm (w0 ++ wr)) (hp' : (w1 ++ wr).Perm wd') (hc : vwCl[ci]? = some qc) (he : w0[q0]? = some (b, .inr (ci, fs)))
    (hn : As.length = n) (hsize : ls.size = nL) (hstack : st0 = As.reverse ++ .ref b :: rest) (hW : (rest.map fun v => v.category).sum ≤ 8) (hdg : decode cc pc = .ok (.invokevirtual index, 3)) (hf : cells + rm.cells ≤ R.cells ∧ slots + rm.slots ≤ R.slots)
    (kk : ∀ (H1 : Heap) (locs1 : List Loc), va_P D vwCl wd' H1 → va_D A wd' → va_S A s.heap H1 locs1 → W p l e R s m args below meth c H1 locs1 (cells + rm.cells) (slots + rm.slots) Q (F0 m (pc + 3) ls (.int r :: rest))) :
    W p l e R s m args below meth c H locs cells slots Q (F0 m pc ls st0) := by
  have hF := h_freeS (w0 := w0) hD hS hA (fun q hq => hp.mem_iff.mpr (List.mem_append_left _ hq))
  have hP0 : va_P D vwCl w0 H := hP.mono (fun q hq => hp.mem_iff.mpr (List.mem_append_left _ hq))
  have hD0 := hD.sub2 hp
  refine va_calli (va_runV (As := As) (rest := rest) ⟨hx, hb, hml, hown, hts⟩ (hM H.size) cw ⟨h_blind, va_recv hK0 hP0 hc he, h_pre hX hS hK0 hP0 hD0 hF⟩ rfl hn hsize hstack (lv_room hW) hdg hf) hS (fun q _ h => hF q h) hF (fun r' u t H1 locs1 ht hvm hw hB hz1 hk1 hS1 => ?_)
  obtain ⟨hP1, -, hD1⟩ := hB
  rw [ht] at hP1
  subst hw
  obtain ⟨h1, h2⟩ := h_after hP hD hp hp' hF hk1 hP1 hD1
  exact kk H1 locs1 h1 h2 hS1
theorem h_si {r : Int32} (hx : p.tables.exec = Jvm.exec) (hb : c.code = cc) (hml : c.maxLocals = nL) (hown : s.vm.findClass own = some m.cls) (hts : ∀ w ∈ Ts, w.before args s = true)
    (hM : hCi z l D tys0 y ws rm As w0 r w1) (cw : CallB R s args own index y bytes maxL ret ws rm rm.cells rm.slots n ∧ (Cond.static y).before args s = true)
    (hK0 : va_K D vwCl tys0 s) (hA : ∀ q : Nat, s.heap.size ≤ q → A q) (hX : xS z A s s.heap) (hP : va_P D vwCl wd H) (hD : va_D A wd) (hS : va_S A s.heap H locs) (hp : wd.Perm (w0 ++ wr)) (hp' : (w1 ++ wr).Perm wd')
    (hn : As.length = n) (hsize : ls.size = nL) (hstack : st0 = As.reverse ++ rest) (hW : (rest.map fun v => v.category).sum ≤ 8) (hdg : decode cc pc = .ok (.invokestatic index, 3)) (hf : cells + rm.cells ≤ R.cells ∧ slots + rm.slots ≤ R.slots)
    (kk : ∀ (H1 : Heap) (locs1 : List Loc), va_P D vwCl wd' H1 → va_D A wd' → va_S A s.heap H1 locs1 → W p l e R s m args below meth c H1 locs1 (cells + rm.cells) (slots + rm.slots) Q (F0 m (pc + 3) ls (.int r :: rest))) :
    W p l e R s m args below meth c H locs cells slots Q (F0 m pc ls st0) := by
  have hF := h_freeS (w0 := w0) hD hS hA (fun q hq => hp.mem_iff.mpr (List.mem_append_left _ hq))
  have hP0 : va_P D vwCl w0 H := hP.mono (fun q hq => hp.mem_iff.mpr (List.mem_append_left _ hq))
  have hD0 := hD.sub2 hp
  refine va_calli (va_runS (As := As) (rest := rest) ⟨hx, hb, hml, hown, hts⟩ (hM H.size) cw ⟨h_blind, h_pre hX hS hK0 hP0 hD0 hF⟩ rfl hn hsize hstack (lv_room hW) hdg hf) hS (fun q _ h => hF q h) hF (fun r' u t H1 locs1 ht hvm hw hB hz1 hk1 hS1 => ?_)
  obtain ⟨hP1, -, hD1⟩ := hB
  rw [ht] at hP1
  subst hw
  obtain ⟨h1, h2⟩ := h_after hP hD hp hp' hF hk1 hP1 hD1
  exact kk H1 locs1 h1 h2 hS1
theorem h_sni {r : Int32} (hx : p.tables.exec = Jvm.exec) (hb : c.code = cc) (hml : c.maxLocals = nL) (hown : s.vm.findClass own = some m.cls) (hts : ∀ w ∈ Ts, w.before args s = true)
    (hM : hCi z l D tys0 y ws rm As w0 r w1) (cw : va_CN R s args own index y host bytes maxL ret ws rm rm.cells rm.slots n ∧ (Cond.static y).before args s = true ∧ True)
    (hK0 : va_K D vwCl tys0 s) (hA : ∀ q : Nat, s.heap.size ≤ q → A q) (hX : xS z A s s.heap) (hP : va_P D vwCl wd H) (hD : va_D A wd) (hS : va_S A s.heap H locs) (hp : wd.Perm (w0 ++ wr)) (hp' : (w1 ++ wr).Perm wd')
    (hn : As.length = n) (hsize : ls.size = nL) (hstack : st0 = As.reverse ++ rest) (hW : (rest.map fun v => v.category).sum ≤ 8) (hdg : decode cc pc = .ok (.invokestatic index, 3)) (hf : cells + rm.cells ≤ R.cells ∧ slots + rm.slots ≤ R.slots)
    (kk : ∀ (H1 : Heap) (locs1 : List Loc), va_P D vwCl wd' H1 → va_D A wd' → va_S A s.heap H1 locs1 → W p l e R s m args below meth c H1 locs1 (cells + rm.cells) (slots + rm.slots) Q (F0 m (pc + 3) ls (.int r :: rest))) :
    W p l e R s m args below meth c H locs cells slots Q (F0 m pc ls st0) := by
  have hF := h_freeS (w0 := w0) hD hS hA (fun q hq => hp.mem_iff.mpr (List.mem_append_left _ hq))
  have hP0 : va_P D vwCl w0 H := hP.mono (fun q hq => hp.mem_iff.mpr (List.mem_append_left _ hq))
  have hD0 := hD.sub2 hp
  refine va_calli (va_runSN (As := As) (rest := rest) ⟨hx, hb, hml, hown, hts⟩ (hM H.size) cw ⟨h_blind, h_pre hX hS hK0 hP0 hD0 hF⟩ rfl hn hsize hstack (lv_room hW) hdg hf) hS (fun q _ h => hF q h) hF (fun r' u t H1 locs1 ht hvm hw hB hz1 hk1 hS1 => ?_)
  obtain ⟨hP1, -, hD1⟩ := hB
  rw [ht] at hP1
  subst hw
  obtain ⟨h1, h2⟩ := h_after hP hD hp hp' hF hk1 hP1 hD1
  exact kk H1 locs1 h1 h2 hS1
theorem h_vl {r : Int64} {ci q0 : Nat} {fs : List Value} {qc : vw_C} (hx : p.tables.exec = Jvm.exec) (hb : c.code = cc) (hml : c.maxLocals = nL) (hown : s.vm.findClass own = some m.cls) (hts : ∀ w ∈ Ts, w.before args s = true)
    (hM : hCl z l D tys0 y ws rm (.ref b :: As) w0 r w1) (cw : CallW R s args own qc.1 index y bytes maxL ret ws rm rm.cells rm.slots n)
    (hK0 : va_K D vwCl tys0 s) (hA : ∀ q : Nat, s.heap.size ≤ q → A q) (hX : xS z A s s.heap) (hP : va_P D vwCl wd H) (hD : va_D A wd) (hS : va_S A s.heap H locs) (hp : wd.Perm (w0 ++ wr)) (hp' : (w1 ++ wr).Perm wd') (hc : vwCl[ci]? = some qc) (he : w0[q0]? = some (b, .inr (ci, fs)))
    (hn : As.length = n) (hsize : ls.size = nL) (hstack : st0 = As.reverse ++ .ref b :: rest) (hW : (rest.map fun v => v.category).sum ≤ 8) (hdg : decode cc pc = .ok (.invokevirtual index, 3)) (hf : cells + rm.cells ≤ R.cells ∧ slots + rm.slots ≤ R.slots)
    (kk : ∀ (H1 : Heap) (locs1 : List Loc), va_P D vwCl wd' H1 → va_D A wd' → va_S A s.heap H1 locs1 → W p l e R s m args below meth c H1 locs1 (cells + rm.cells) (slots + rm.slots) Q (F0 m (pc + 3) ls (.long r :: rest))) :
    W p l e R s m args below meth c H locs cells slots Q (F0 m pc ls st0) := by
  have hF := h_freeS (w0 := w0) hD hS hA (fun q hq => hp.mem_iff.mpr (List.mem_append_left _ hq))
  have hP0 : va_P D vwCl w0 H := hP.mono (fun q hq => hp.mem_iff.mpr (List.mem_append_left _ hq))
  have hD0 := hD.sub2 hp
  refine va_calll (va_runV (As := As) (rest := rest) ⟨hx, hb, hml, hown, hts⟩ (hM H.size) cw ⟨h_blind, va_recv hK0 hP0 hc he, h_pre hX hS hK0 hP0 hD0 hF⟩ rfl hn hsize hstack (lv_room hW) hdg hf) hS (fun q _ h => hF q h) hF (fun r' u t H1 locs1 ht hvm hw hB hz1 hk1 hS1 => ?_)
  obtain ⟨hP1, -, hD1⟩ := hB
  rw [ht] at hP1
  subst hw
  obtain ⟨h1, h2⟩ := h_after hP hD hp hp' hF hk1 hP1 hD1
  exact kk H1 locs1 h1 h2 hS1
theorem h_sl {r : Int64} (hx : p.tables.exec = Jvm.exec) (hb : c.code = cc) (hml : c.maxLocals = nL) (hown : s.vm.findClass own = some m.cls) (hts : ∀ w ∈ Ts, w.before args s = true)
    (hM : hCl z l D tys0 y ws rm As w0 r w1) (cw : CallB R s args own index y bytes maxL ret ws rm rm.cells rm.slots n ∧ (Cond.static y).before args s = true)
    (hK0 : va_K D vwCl tys0 s) (hA : ∀ q : Nat, s.heap.size ≤ q → A q) (hX : xS z A s s.heap) (hP : va_P D vwCl wd H) (hD : va_D A wd) (hS : va_S A s.heap H locs) (hp : wd.Perm (w0 ++ wr)) (hp' : (w1 ++ wr).Perm wd')
    (hn : As.length = n) (hsize : ls.size = nL) (hstack : st0 = As.reverse ++ rest) (hW : (rest.map fun v => v.category).sum ≤ 8) (hdg : decode cc pc = .ok (.invokestatic index, 3)) (hf : cells + rm.cells ≤ R.cells ∧ slots + rm.slots ≤ R.slots)
    (kk : ∀ (H1 : Heap) (locs1 : List Loc), va_P D vwCl wd' H1 → va_D A wd' → va_S A s.heap H1 locs1 → W p l e R s m args below meth c H1 locs1 (cells + rm.cells) (slots + rm.slots) Q (F0 m (pc + 3) ls (.long r :: rest))) :
    W p l e R s m args below meth c H locs cells slots Q (F0 m pc ls st0) := by
  have hF := h_freeS (w0 := w0) hD hS hA (fun q hq => hp.mem_iff.mpr (List.mem_append_left _ hq))
  have hP0 : va_P D vwCl w0 H := hP.mono (fun q hq => hp.mem_iff.mpr (List.mem_append_left _ hq))
  have hD0 := hD.sub2 hp
  refine va_calll (va_runS (As := As) (rest := rest) ⟨hx, hb, hml, hown, hts⟩ (hM H.size) cw ⟨h_blind, h_pre hX hS hK0 hP0 hD0 hF⟩ rfl hn hsize hstack (lv_room hW) hdg hf) hS (fun q _ h => hF q h) hF (fun r' u t H1 locs1 ht hvm hw hB hz1 hk1 hS1 => ?_)
  obtain ⟨hP1, -, hD1⟩ := hB
  rw [ht] at hP1
  subst hw
  obtain ⟨h1, h2⟩ := h_after hP hD hp hp' hF hk1 hP1 hD1
  exact kk H1 locs1 h1 h2 hS1
theorem h_snl {r : Int64} (hx : p.tables.exec = Jvm.exec) (hb : c.code = cc) (hml : c.maxLocals = nL) (hown : s.vm.findClass own = some m.cls) (hts : ∀ w ∈ Ts, w.before args s = true)
    (hM : hCl z l D tys0 y ws rm As w0 r w1) (cw : va_CN R s args own index y host bytes maxL ret ws rm rm.cells rm.slots n ∧ (Cond.static y).before args s = true ∧ True)
    (hK0 : va_K D vwCl tys0 s) (hA : ∀ q : Nat, s.heap.size ≤ q → A q) (hX : xS z A s s.heap) (hP : va_P D vwCl wd H) (hD : va_D A wd) (hS : va_S A s.heap H locs) (hp : wd.Perm (w0 ++ wr)) (hp' : (w1 ++ wr).Perm wd')
    (hn : As.length = n) (hsize : ls.size = nL) (hstack : st0 = As.reverse ++ rest) (hW : (rest.map fun v => v.category).sum ≤ 8) (hdg : decode cc pc = .ok (.invokestatic index, 3)) (hf : cells + rm.cells ≤ R.cells ∧ slots + rm.slots ≤ R.slots)
    (kk : ∀ (H1 : Heap) (locs1 : List Loc), va_P D vwCl wd' H1 → va_D A wd' → va_S A s.heap H1 locs1 → W p l e R s m args below meth c H1 locs1 (cells + rm.cells) (slots + rm.slots) Q (F0 m (pc + 3) ls (.long r :: rest))) :
    W p l e R s m args below meth c H locs cells slots Q (F0 m pc ls st0) := by
  have hF := h_freeS (w0 := w0) hD hS hA (fun q hq => hp.mem_iff.mpr (List.mem_append_left _ hq))
  have hP0 : va_P D vwCl w0 H := hP.mono (fun q hq => hp.mem_iff.mpr (List.mem_append_left _ hq))
  have hD0 := hD.sub2 hp
  refine va_calll (va_runSN (As := As) (rest := rest) ⟨hx, hb, hml, hown, hts⟩ (hM H.size) cw ⟨h_blind, h_pre hX hS hK0 hP0 hD0 hF⟩ rfl hn hsize hstack (lv_room hW) hdg hf) hS (fun q _ h => hF q h) hF (fun r' u t H1 locs1 ht hvm hw hB hz1 hk1 hS1 => ?_)
  obtain ⟨hP1, -, hD1⟩ := hB
  rw [ht] at hP1
  subst hw
  obtain ⟨h1, h2⟩ := h_after hP hD hp hp' hF hk1 hP1 hD1
  exact kk H1 locs1 h1 h2 hS1
theorem h_vv {ci q0 : Nat} {fs : List Value} {qc : vw_C} (hx : p.tables.exec = Jvm.exec) (hb : c.code = cc) (hml : c.maxLocals = nL) (hown : s.vm.findClass own = some m.cls) (hts : ∀ w ∈ Ts, w.before args s = true)
    (hM : hCv z l D tys0 y ws rm (.ref b :: As) w0 w1) (cw : CallW R s args own qc.1 index y bytes maxL ret ws rm rm.cells rm.slots n)
    (hK0 : va_K D vwCl tys0 s) (hA : ∀ q : Nat, s.heap.size ≤ q → A q) (hX : xS z A s s.heap) (hP : va_P D vwCl wd H) (hD : va_D A wd) (hS : va_S A s.heap H locs) (hp : wd.Perm (w0 ++ wr)) (hp' : (w1 ++ wr).Perm wd') (hc : vwCl[ci]? = some qc) (he : w0[q0]? = some (b, .inr (ci, fs)))
    (hn : As.length = n) (hsize : ls.size = nL) (hstack : st0 = As.reverse ++ .ref b :: rest) (hW : (rest.map fun v => v.category).sum ≤ 8) (hdg : decode cc pc = .ok (.invokevirtual index, 3)) (hf : cells + rm.cells ≤ R.cells ∧ slots + rm.slots ≤ R.slots)
    (kk : ∀ (H1 : Heap) (locs1 : List Loc), va_P D vwCl wd' H1 → va_D A wd' → va_S A s.heap H1 locs1 → W p l e R s m args below meth c H1 locs1 (cells + rm.cells) (slots + rm.slots) Q (F0 m (pc + 3) ls (rest))) :
    W p l e R s m args below meth c H locs cells slots Q (F0 m pc ls st0) := by
  have hF := h_freeS (w0 := w0) hD hS hA (fun q hq => hp.mem_iff.mpr (List.mem_append_left _ hq))
  have hP0 : va_P D vwCl w0 H := hP.mono (fun q hq => hp.mem_iff.mpr (List.mem_append_left _ hq))
  have hD0 := hD.sub2 hp
  refine va_callv (va_runV (As := As) (rest := rest) ⟨hx, hb, hml, hown, hts⟩ (hM H.size) cw ⟨h_blind, va_recv hK0 hP0 hc he, h_pre hX hS hK0 hP0 hD0 hF⟩ rfl hn hsize hstack (lv_room hW) hdg hf) hS (fun q _ h => hF q h) hF (fun u t H1 locs1 ht hvm hw hB hz1 hk1 hS1 => ?_)
  obtain ⟨hP1, -, hD1⟩ := hB
  rw [ht] at hP1
  obtain ⟨h1, h2⟩ := h_after hP hD hp hp' hF hk1 hP1 hD1
  exact kk H1 locs1 h1 h2 hS1
theorem h_sv (hx : p.tables.exec = Jvm.exec) (hb : c.code = cc) (hml : c.maxLocals = nL) (hown : s.vm.findClass own = some m.cls) (hts : ∀ w ∈ Ts, w.before args s = true)
    (hM : hCv z l D tys0 y ws rm As w0 w1) (cw : CallB R s args own index y bytes maxL ret ws rm rm.cells rm.slots n ∧ (Cond.static y).before args s = true)
    (hK0 : va_K D vwCl tys0 s) (hA : ∀ q : Nat, s.heap.size ≤ q → A q) (hX : xS z A s s.heap) (hP : va_P D vwCl wd H) (hD : va_D A wd) (hS : va_S A s.heap H locs) (hp : wd.Perm (w0 ++ wr)) (hp' : (w1 ++ wr).Perm wd')
    (hn : As.length = n) (hsize : ls.size = nL) (hstack : st0 = As.reverse ++ rest) (hW : (rest.map fun v => v.category).sum ≤ 8) (hdg : decode cc pc = .ok (.invokestatic index, 3)) (hf : cells + rm.cells ≤ R.cells ∧ slots + rm.slots ≤ R.slots)
    (kk : ∀ (H1 : Heap) (locs1 : List Loc), va_P D vwCl wd' H1 → va_D A wd' → va_S A s.heap H1 locs1 → W p l e R s m args below meth c H1 locs1 (cells + rm.cells) (slots + rm.slots) Q (F0 m (pc + 3) ls (rest))) :
    W p l e R s m args below meth c H locs cells slots Q (F0 m pc ls st0) := by
  have hF := h_freeS (w0 := w0) hD hS hA (fun q hq => hp.mem_iff.mpr (List.mem_append_left _ hq))
  have hP0 : va_P D vwCl w0 H := hP.mono (fun q hq => hp.mem_iff.mpr (List.mem_append_left _ hq))
  have hD0 := hD.sub2 hp
  refine va_callv (va_runS (As := As) (rest := rest) ⟨hx, hb, hml, hown, hts⟩ (hM H.size) cw ⟨h_blind, h_pre hX hS hK0 hP0 hD0 hF⟩ rfl hn hsize hstack (lv_room hW) hdg hf) hS (fun q _ h => hF q h) hF (fun u t H1 locs1 ht hvm hw hB hz1 hk1 hS1 => ?_)
  obtain ⟨hP1, -, hD1⟩ := hB
  rw [ht] at hP1
  obtain ⟨h1, h2⟩ := h_after hP hD hp hp' hF hk1 hP1 hD1
  exact kk H1 locs1 h1 h2 hS1
theorem h_snv (hx : p.tables.exec = Jvm.exec) (hb : c.code = cc) (hml : c.maxLocals = nL) (hown : s.vm.findClass own = some m.cls) (hts : ∀ w ∈ Ts, w.before args s = true)
    (hM : hCv z l D tys0 y ws rm As w0 w1) (cw : va_CN R s args own index y host bytes maxL ret ws rm rm.cells rm.slots n ∧ (Cond.static y).before args s = true ∧ True)
    (hK0 : va_K D vwCl tys0 s) (hA : ∀ q : Nat, s.heap.size ≤ q → A q) (hX : xS z A s s.heap) (hP : va_P D vwCl wd H) (hD : va_D A wd) (hS : va_S A s.heap H locs) (hp : wd.Perm (w0 ++ wr)) (hp' : (w1 ++ wr).Perm wd')
    (hn : As.length = n) (hsize : ls.size = nL) (hstack : st0 = As.reverse ++ rest) (hW : (rest.map fun v => v.category).sum ≤ 8) (hdg : decode cc pc = .ok (.invokestatic index, 3)) (hf : cells + rm.cells ≤ R.cells ∧ slots + rm.slots ≤ R.slots)
    (kk : ∀ (H1 : Heap) (locs1 : List Loc), va_P D vwCl wd' H1 → va_D A wd' → va_S A s.heap H1 locs1 → W p l e R s m args below meth c H1 locs1 (cells + rm.cells) (slots + rm.slots) Q (F0 m (pc + 3) ls (rest))) :
    W p l e R s m args below meth c H locs cells slots Q (F0 m pc ls st0) := by
  have hF := h_freeS (w0 := w0) hD hS hA (fun q hq => hp.mem_iff.mpr (List.mem_append_left _ hq))
  have hP0 : va_P D vwCl w0 H := hP.mono (fun q hq => hp.mem_iff.mpr (List.mem_append_left _ hq))
  have hD0 := hD.sub2 hp
  refine va_callv (va_runSN (As := As) (rest := rest) ⟨hx, hb, hml, hown, hts⟩ (hM H.size) cw ⟨h_blind, h_pre hX hS hK0 hP0 hD0 hF⟩ rfl hn hsize hstack (lv_room hW) hdg hf) hS (fun q _ h => hF q h) hF (fun u t H1 locs1 ht hvm hw hB hz1 hk1 hS1 => ?_)
  obtain ⟨hP1, -, hD1⟩ := hB
  rw [ht] at hP1
  obtain ⟨h1, h2⟩ := h_after hP hD hp hp' hF hk1 hP1 hD1
  exact kk H1 locs1 h1 h2 hS1
end HCALL
theorem perm_nil (ws : va_W) : ws.Perm (ws ++ []) := by rw [List.append_nil]
theorem perm_nil2 (ws : va_W) : (ws ++ []).Perm ws := by rw [List.append_nil]
