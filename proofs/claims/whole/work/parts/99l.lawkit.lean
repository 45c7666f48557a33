/-! the law: its entry (as the skeleton has it), what stands in its loop -/
def R_law : String := "LaidDownTheLaneLaw"
def lw_P (b : Addr) (xs : List Int32) (args : Array Value) (s : State) : Prop := args = #[.ref b] ∧ s.IntsAt b xs ∧ xs.length ≤ 3072 ∧ (Jvm.Cond.and given_1 narrow_1).before args s = true
def lw_Q (_ : Array Value) (s : State) (o : Outcome) (t : State) : Prop := o = .returned (some (.int 1)) ∧ Framed s o t [] 601024 7293034
def lw_Z (below : List Frame) (a : Array Value) (s : State) : State → Prop := fun t => ∃ o, t.status = .running ∧ Ended t below o ∧ lw_Q a s o t
/-- the law's own end, with 1 on the stack, nothing written that was there before, its room as the claim has it -/
theorem lw_ret {p : Program} {l : Launch} {e : Env} {s : State} {m : MethodId} {below : List Frame} {meth : Method} {c : Code} {b : Nat} (hx : p.tables.exec = Jvm.exec) (hb : c.code = code) (hr : meth.sig.returnType = ret) (hlocks : meth.locks = false) {pc : Nat} {H : Heap} {ls : Array Slot} (hdg : decode code pc = .ok (.ireturn, 1)) : W p l e room_1 s m #[Value.ref b] below meth c H [] 601024 7293034 (lw_Z below #[Value.ref b] s) (F0 m pc ls [.int 1]) := by
  intro T hT X
  obtain ⟨fs, hret, hrun, hended, hW, hframe⟩ := X.leave (v := some (.int 1)) (hlocks := hlocks) (fun h => by rw [hr] at h; cases h)
  have hmeth' : T.vm.method? m = some meth := X.method'
  refine ⟨T.setFrames fs, ?_, .returned (some (.int 1)), hrun, hended, rfl, ⟨_, rfl⟩, hW, hframe⟩
  jvm_step X.here [X.here.top, hx, hb, hdg, hmeth', hr, ret, narrow_b1]
  (try refine ⟨rfl, ?_⟩); (try refine ⟨rfl, ?_⟩)
  first | (intro acts; rw [hret _ acts rfl rfl rfl]) | rw [hret _ _ rfl rfl rfl]
  exact Steps.refl _
/-- what holds at the law's entry: the machine, the code, the tables' words (any of lw_tbl by 'hts w (by decide +kernel)'), the script of L ints xs at the cell b, what the Statement gives of the start (any of its parts by flat_of_before) -/
def lw_At (p : Program) (s : State) (m : MethodId) (meth : Method) (c : Code) (b L : Nat) (xs : Nat → Int32) : Prop :=
  p.tables.exec = Jvm.exec ∧ c.code = code ∧ meth.sig.returnType = ret ∧ c.maxLocals = 8 ∧ s.vm.findClass R_law = some m.cls ∧ (∀ w ∈ lw_tbl, w.before #[Value.ref b] s = true) ∧ va_X b L xs s s.heap ∧ b < s.heap.size ∧ meth.locks = false ∧ (Jvm.Cond.and given_1 narrow_1).before #[Value.ref b] s = true
theorem lf1 {c k a n : Nat} (h : c + a ≤ n) (hk : k ≤ a) : c + k ≤ n := Nat.le_trans (Nat.add_le_add_left hk c) h
theorem lf2 {c k j a n : Nat} (h : c + a ≤ n) (hk : k + j ≤ a) : c + k + j ≤ n := by rw [Nat.add_assoc]; exact lf1 h hk
/-- new cells alone are the law's -/
abbrev lwA (s : State) : Nat → Prop := fun q => s.heap.size ≤ q
/-- a call's six places lie in the script -/
def lwI (L : Nat) (i : Int32) : Prop := vp_in i L ∧ vp_in (i + 1) L ∧ vp_in (i + 2) L ∧ vp_in (i + 3) L ∧ vp_in (i + 4) L ∧ vp_in (i + 5) L
theorem lwI_of {L j : Nat} (h : 6 * j + 6 ≤ L) (hL : L ≤ 3072) : lwI L (nI (6 * j)) := by
  have e : ∀ k : Nat, k < 6 → vp_in (nI (6 * j) + nI k) L := fun k hk => by
    rw [nI_add]
    exact vp_in_nI (by omega) (by omega)
  refine ⟨?_, e 1 (by decide), e 2 (by decide), e 3 (by decide), e 4 (by decide), e 5 (by decide)⟩
  exact vp_in_nI (by omega) (by omega)
/-- what stands in every turn of the law's loop -/
def LX (p : Program) (l : Launch) (s : State) (m : MethodId) (meth : Method) (c : Code) (b L : Nat) (sc : Nat → Int32) (D : va_G) (T T' : mT3) (cL : ClassId) (z e0 : Nat → Nat) : Prop :=
  lw_At p s m meth c b L sc ∧ va_K D vwCl (cT T) s ∧ va_K D vwCl (mT T') s ∧ va_K D vwCl (cT T ++ [(cL, .long)]) s ∧ xS z (lwA s) s s.heap ∧ xE e0 (lwA s) s s.heap ∧ l.stackTraces = false
/-- from pc on all goes well: both sides stand alike, at their places -/
def LK (p : Program) (l : Launch) (e : Env) (s : State) (m : MethodId) (below : List Frame) (meth : Method) (c : Code) (Q : State → Prop) (b : Nat) (D : va_G) (T T' : mT3) (cL : ClassId) (bx ba : Nat → Nat) (o : Nat) (i : Int32) (pc cells slots : Nat) : Prop :=
  ∀ (xa : XA) (xs : XS) (ms : MS) (f : Nat → Int64) (H : Heap) (locs : List Loc) (ls : Array Slot), xRel bx xa xs → RR xs ms → va_P D vwCl (xW bx T xa xs ++ (mW ba T' ms ++ lO cL o f)) H → va_D (lwA s) (xW bx T xa xs ++ (mW ba T' ms ++ lO cL o f)) → va_S (lwA s) s.heap H locs → lv_has ls 8 [(0, .ref b), (1, .ref (bx 0)), (2, .ref (ba 0)), (3, .ref o), (4, .int i)] →
    W p l e room_1 s m #[Value.ref b] below meth c H locs cells slots Q (F0 m pc ls [])
