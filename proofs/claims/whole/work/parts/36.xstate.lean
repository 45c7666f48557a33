/-! the class: a brick is its KIND's number and its FIGURE; three towns (0 now, 1 trial, 2 taken), shelves of bricks and of ROWS -/
abbrev XS : Type := (Nat → MS) × (Nat → Nat → BK) × Int32 × (Nat → Option BK) × (Nat → Option (Nat × MS))
def xT (xs : XS) (i : Nat) : MS := xs.1 i
def xB (xs : XS) (i : Nat) : Nat → BK := xs.2.1 i
def xI (xs : XS) : Int32 := xs.2.2.1
def xK (xs : XS) : Nat → Option BK := xs.2.2.2.1
def xR (xs : XS) : Nat → Option (Nat × MS) := xs.2.2.2.2
def uT (xs : XS) (i : Nat) (ms : MS) : XS := (fun j => if j = i then ms else xs.1 j, xs.2)
def uB (xs : XS) (i j : Nat) (k : BK) : XS := (xs.1, (fun i' => if i' = i then (fun j' => if j' = j then k else xs.2.1 i j') else xs.2.1 i'), xs.2.2)
def uI (xs : XS) (v : Int32) : XS := (xs.1, xs.2.1, v, xs.2.2.2)
def uK (xs : XS) (d : Nat) (o : Option BK) : XS := (xs.1, xs.2.1, xs.2.2.1, (fun j => if j = d then o else xs.2.2.2.1 j), xs.2.2.2.2)
def uR (xs : XS) (d : Nat) (o : Option (Nat × MS)) : XS := (xs.1, xs.2.1, xs.2.2.1, xs.2.2.2.1, (fun j => if j = d then o else xs.2.2.2.2 j))
/-- addresses: the feet's, the pool of bricks, the shelves' contents, the ROWS' cells -/
abbrev XA : Type := (Nat → Nat → Nat) × List (Nat × BK) × (Nat → Option Nat) × (Nat → Option Nat) × (Nat → Nat → Nat)
def xFo (xa : XA) : Nat → Nat → Nat := xa.1
def xPl (xa : XA) : List (Nat × BK) := xa.2.1
def xKa (xa : XA) : Nat → Option Nat := xa.2.2.1
def xRo (xa : XA) : Nat → Option Nat := xa.2.2.2.1
def xRa (xa : XA) : Nat → Nat → Nat := xa.2.2.2.2
def ciK (k : Nat) : Nat := ([0, 2, 6, 4, 1, 3, 5, 9] : List Nat).getD k 0
def bcell (q : Nat × BK) : Nat × va_E := (q.1, .inr (ciK q.2.1, [.int q.2.2]))
def xFs (b : Nat → Nat) (xs : XS) : List Value := [.ref (b 3), .ref (b 10), .ref (b 17), .int (xI xs), .ref (b 24), .ref (b 1), .ref (b 2)]
def xO (b : Nat → Nat) (T : mT3) (xa : XA) (xs : XS) : va_W := [(b 0, .inr (10, xFs b xs)), (b 1, .inl (T.2.1, 8, .inr (.inr (.inr (.inr (xKa xa)))))), (b 2, .inl (T.2.2, 8, .inr (.inr (.inr (.inr (xRo xa))))))]
def xW0 (b : Nat → Nat) (T : mT3) (xa : XA) (xs : XS) : va_W := tW (fun j => b (3 + j)) T (fun j => some (xFo xa 0 j)) (xT xs 0)
def xW1 (b : Nat → Nat) (T : mT3) (xa : XA) (xs : XS) : va_W := tW (fun j => b (10 + j)) T (fun j => some (xFo xa 1 j)) (xT xs 1)
def xW2 (b : Nat → Nat) (T : mT3) (xa : XA) (xs : XS) : va_W := tW (fun j => b (17 + j)) T (fun j => some (xFo xa 2 j)) (xT xs 2)
def xRow (T : mT3) (xa : XA) (xs : XS) (d : Nat) : va_W := match xR xs d with
  | none => []
  | some z => rW (xRa xa d) T z.1 z.2
def xRs (T : mT3) (xa : XA) (xs : XS) (ds : List Nat) : va_W := ds.flatMap (xRow T xa xs)
def xP (xa : XA) : va_W := (xPl xa).map bcell
def xW (b : Nat → Nat) (T : mT3) (xa : XA) (xs : XS) : va_W := xO b T xa xs ++ (xW0 b T xa xs ++ (xW1 b T xa xs ++ (xW2 b T xa xs ++ (xRs T xa xs (List.range 8) ++ xP xa))))
def xWr0 (b : Nat → Nat) (T : mT3) (xa : XA) (xs : XS) : va_W := xO b T xa xs ++ (xW1 b T xa xs ++ (xW2 b T xa xs ++ (xRs T xa xs (List.range 8) ++ xP xa)))
def xWr1 (b : Nat → Nat) (T : mT3) (xa : XA) (xs : XS) : va_W := xO b T xa xs ++ (xW0 b T xa xs ++ (xW2 b T xa xs ++ (xRs T xa xs (List.range 8) ++ xP xa)))
def xWr2 (b : Nat → Nat) (T : mT3) (xa : XA) (xs : XS) : va_W := xO b T xa xs ++ (xW0 b T xa xs ++ (xW1 b T xa xs ++ (xRs T xa xs (List.range 8) ++ xP xa)))
theorem pm1 {α : Type} (a c r : List α) : (a ++ (c ++ r)).Perm (c ++ (a ++ r)) := List.perm_append_comm_assoc a c r
theorem pm2 {α : Type} (a c d r : List α) : (a ++ (c ++ (d ++ r))).Perm (d ++ (a ++ (c ++ r))) := ((pm1 c d r).append_left a).trans (pm1 a d (c ++ r))
theorem pm3 {α : Type} (a c d e r : List α) : (a ++ (c ++ (d ++ (e ++ r)))).Perm (e ++ (a ++ (c ++ (d ++ r)))) := ((pm2 c d e r).append_left a).trans (pm1 a e (c ++ (d ++ r)))
theorem pm4 {α : Type} (a c d e f r : List α) : (a ++ (c ++ (d ++ (e ++ (f ++ r))))).Perm (f ++ (a ++ (c ++ (d ++ (e ++ r))))) := ((pm3 c d e f r).append_left a).trans (pm1 a f (c ++ (d ++ (e ++ r))))
section XP
variable (b : Nat → Nat) (T : mT3) (xa : XA) (xs : XS)
theorem xp0 : (xW b T xa xs).Perm (xW0 b T xa xs ++ xWr0 b T xa xs) := pm1 _ _ _
theorem xp1 : (xW b T xa xs).Perm (xW1 b T xa xs ++ xWr1 b T xa xs) := pm2 _ _ _ _
theorem xp2 : (xW b T xa xs).Perm (xW2 b T xa xs ++ xWr2 b T xa xs) := pm3 _ _ _ _ _
theorem xq0 (st : MS) : (tW (fun j => b (3 + j)) T (fun j => some (xFo xa 0 j)) st ++ xWr0 b T xa xs).Perm (xW b T xa (uT xs 0 st)) := (xp0 b T xa (uT xs 0 st)).symm
theorem xq1 (st : MS) : (tW (fun j => b (10 + j)) T (fun j => some (xFo xa 1 j)) st ++ xWr1 b T xa xs).Perm (xW b T xa (uT xs 1 st)) := (xp1 b T xa (uT xs 1 st)).symm
theorem xq2 (st : MS) : (tW (fun j => b (17 + j)) T (fun j => some (xFo xa 2 j)) st ++ xWr2 b T xa xs).Perm (xW b T xa (uT xs 2 st)) := (xp2 b T xa (uT xs 2 st)).symm
end XP
/-- the ROW of a shelf, and the rest -/
def xWrR (b : Nat → Nat) (T : mT3) (xa : XA) (xs : XS) (d : Nat) : va_W := xRs T xa xs ((List.range 8).erase d) ++ (xO b T xa xs ++ (xW0 b T xa xs ++ (xW1 b T xa xs ++ (xW2 b T xa xs ++ xP xa))))
theorem xRs_perm (T : mT3) (xa : XA) (xs : XS) {ds ds' : List Nat} (h : ds.Perm ds') : (xRs T xa xs ds).Perm (xRs T xa xs ds') := h.flatMap_right _
theorem xRs_congr (T : mT3) (xa : XA) (xs xs' : XS) (ds : List Nat) (h : ∀ d ∈ ds, xR xs d = xR xs' d) : xRs T xa xs ds = xRs T xa xs' ds := by
  induction ds with
  | nil => rfl
  | cons d ds ih =>
    have h1 : xRow T xa xs d = xRow T xa xs' d := by unfold xRow; rw [h d List.mem_cons_self]
    show xRow T xa xs d ++ xRs T xa xs ds = xRow T xa xs' d ++ xRs T xa xs' ds
    rw [h1, ih fun j hj => h j (List.mem_cons_of_mem _ hj)]
theorem xR_uR (xs : XS) (d : Nat) (o : Option (Nat × MS)) (j : Nat) : xR (uR xs d o) j = if j = d then o else xR xs j := rfl
theorem xpR (b : Nat → Nat) (T : mT3) (xa : XA) (xs : XS) {d : Nat} (hd : d < 8) {z : Nat × MS} (hz : xR xs d = some z) : (xW b T xa xs).Perm (rW (xRa xa d) T z.1 z.2 ++ xWrR b T xa xs d) := by
  have h1 : (xRs T xa xs (List.range 8)).Perm (rW (xRa xa d) T z.1 z.2 ++ xRs T xa xs ((List.range 8).erase d)) := by
    refine (xRs_perm T xa xs (List.perm_cons_erase (List.mem_range.mpr hd))).trans ?_
    have : xRow T xa xs d = rW (xRa xa d) T z.1 z.2 := by unfold xRow; rw [hz]
    show (xRow T xa xs d ++ _).Perm _
    rw [this]
    exact List.Perm.refl _
  unfold xW xWrR
  refine (pm4 _ _ _ _ _ _).trans ?_
  refine (h1.append_right _).trans ?_
  rw [List.append_assoc]
theorem xqR (b : Nat → Nat) (T : mT3) (xa : XA) (xs : XS) {d : Nat} (hd : d < 8) (n : Nat) (ms : MS) : (rW (xRa xa d) T n ms ++ xWrR b T xa xs d).Perm (xW b T xa (uR xs d (some (n, ms)))) := by
  refine List.Perm.trans ?_ (xpR b T xa (uR xs d (some (n, ms))) hd (z := (n, ms)) (by rw [xR_uR, if_pos rfl])).symm
  refine List.Perm.append_left _ ?_
  have h2 : xRs T xa xs ((List.range 8).erase d) = xRs T xa (uR xs d (some (n, ms))) ((List.range 8).erase d) := by
    refine xRs_congr T xa xs _ _ fun j hj => ?_
    have hne : j ≠ d := fun h => by
      subst h
      exact absurd hj (List.Nodup.not_mem_erase List.nodup_range)
    rw [xR_uR, if_neg hne]
  unfold xWrR
  rw [h2]
  exact List.Perm.refl _
/-- a brick more in the pool -/
def xGrow (xa : XA) (q : Nat) (k : BK) : XA := (xa.1, xa.2.1 ++ [(q, k)], xa.2.2)
theorem xqG (b : Nat → Nat) (T : mT3) (xa : XA) (xs : XS) (q : Nat) (k : BK) : ([(q, (.inr (ciK k.1, [.int k.2]) : va_E))] ++ xW b T xa xs).Perm (xW b T (xGrow xa q k) xs) := by
  refine List.perm_append_comm.trans ?_
  have : xW b T (xGrow xa q k) xs = xW b T xa xs ++ [bcell (q, k)] := by
    show xO b T xa xs ++ (xW0 b T xa xs ++ (xW1 b T xa xs ++ (xW2 b T xa xs ++ (xRs T xa xs (List.range 8) ++ (xa.2.1 ++ [(q, k)]).map bcell)))) = _
    unfold xW xP xPl
    simp [List.append_assoc]
  rw [this]
  exact List.Perm.refl _
def onB (pl : List (Nat × BK)) (o : Option BK) (oa : Option Nat) : Prop := match o with
  | none => oa = none
  | some k => ∃ q, oa = some q ∧ (q, k) ∈ pl
def onR (xa : XA) (o : Option Nat) (oa : Option Nat) : Prop := match o with
  | none => oa = none
  | some d => d < 8 ∧ oa = some (xRa xa d 0)
def xRel (b : Nat → Nat) (xa : XA) (xs : XS) : Prop := (∀ i, i < 3 → ∀ j, j < 12 → (xFo xa i j, xB xs i j) ∈ xPl xa) ∧ (∀ d, d < 8 → onB (xPl xa) (xK xs d) (xKa xa d)) ∧ (∀ d, d < 8 → xRo xa d = (xR xs d).map (fun _ => xRa xa d 0)) ∧ (b 24, (1, 0)) ∈ xPl xa ∧ (∀ z ∈ xPl xa, z.2.1 < 8)
def xSub (xa xa' : XA) : Prop := (∀ z ∈ xPl xa, z ∈ xPl xa') ∧ xRo xa' = xRo xa ∧ xRa xa' = xRa xa
def xAny (_ _ : XA) : Prop := True
theorem xSub.rf {xa : XA} : xSub xa xa := ⟨fun _ h => h, rfl, rfl⟩
theorem xSub.tr {x y w : XA} (h : xSub x y) (g : xSub y w) : xSub x w := ⟨fun z hz => g.1 z (h.1 z hz), g.2.1.trans h.2.1, g.2.2.trans h.2.2⟩
theorem onB.up {xa xa' : XA} {o : Option BK} {oa : Option Nat} (h : onB (xPl xa) o oa) (hs : xSub xa xa') : onB (xPl xa') o oa := by
  cases o with
  | none => exact h
  | some k => obtain ⟨q, h1, h2⟩ := h; exact ⟨q, h1, hs.1 _ h2⟩
theorem onR.up {xa xa' : XA} {o : Option Nat} {oa : Option Nat} (h : onR xa o oa) (hs : xSub xa xa') : onR xa' o oa := by
  cases o with
  | none => exact h
  | some d => exact ⟨h.1, by rw [hs.2.2]; exact h.2⟩
theorem xRel.uT {b : Nat → Nat} {xa : XA} {xs : XS} (h : xRel b xa xs) (i : Nat) (st : MS) : xRel b xa (uT xs i st) := h
theorem xRel.uI {b : Nat → Nat} {xa : XA} {xs : XS} (h : xRel b xa xs) (v : Int32) : xRel b xa (uI xs v) := h
theorem xRel.uR {b : Nat → Nat} {xa : XA} {xs : XS} (h : xRel b xa xs) {d : Nat} {z z' : Nat × MS} (hz : xR xs d = some z) : xRel b xa (uR xs d (some z')) := by
  refine ⟨h.1, h.2.1, fun e he => ?_, h.2.2.2⟩
  by_cases hed : e = d
  · subst hed
    have := h.2.2.1 e he
    rw [hz] at this
    rw [this, xR_uR, if_pos rfl]
    rfl
  · rw [h.2.2.1 e he]
    rw [xR_uR, if_neg hed]
theorem xRel.grow {b : Nat → Nat} {xa : XA} {xs : XS} (h : xRel b xa xs) {q : Nat} {k : BK} (hk : k.1 < 8) : xRel b (xGrow xa q k) xs := by
  have hs : ∀ z ∈ xPl xa, z ∈ xPl (xGrow xa q k) := fun z hz => List.mem_append_left _ hz
  refine ⟨fun i hi j hj => hs _ (h.1 i hi j hj), fun d hd => ?_, h.2.2.1, hs _ h.2.2.2.1, fun z hz => ?_⟩
  · have := h.2.1 d hd
    revert this
    show onB (xPl xa) (xK xs d) (xKa xa d) → onB (xPl (xGrow xa q k)) (xK xs d) (xKa xa d)
    cases xK xs d with
    | none => exact id
    | some k' => rintro ⟨q', h1, h2⟩; exact ⟨q', h1, hs _ h2⟩
  · rcases List.mem_append.mp hz with h1 | h1
    · exact h.2.2.2.2 z h1
    · rw [List.mem_singleton.mp h1]; exact hk
theorem xSub.grow {xa : XA} {q : Nat} {k : BK} : xSub xa (xGrow xa q k) := ⟨fun _ hz => List.mem_append_left _ hz, rfl, rfl⟩
theorem xGrow.mem {xa : XA} {q : Nat} {k : BK} : (q, k) ∈ xPl (xGrow xa q k) := List.mem_append_right _ (List.mem_singleton.mpr rfl)
/-- a brick of the pool is a cell of the world -/
theorem xMem (b : Nat → Nat) (T : mT3) {xa : XA} (xs : XS) {q : Nat} {k : BK} (h : (q, k) ∈ xPl xa) : (q, (.inr (ciK k.1, [.int k.2]) : va_E)) ∈ xW b T xa xs := by
  unfold xW
  have h1 : bcell (q, k) ∈ xP xa := List.mem_map.mpr ⟨_, h, rfl⟩
  simp only [List.mem_append]
  exact Or.inr (Or.inr (Or.inr (Or.inr (Or.inr h1))))

def hXi (S : XA → XA → Prop) (z : Nat → Nat) (l : Launch) (D : va_G) (T : mT3) (b : Nat → Nat) (y : MethodName) (ws : List Cond) (rm : Room) (As : List Value) (xa : XA) (xs : XS) (r : Int32) (xs' : XS) : Prop :=
  ∀ sz : Nat, Met l y ws rm (va_Pc As (fun U => U.heap.size = sz ∧ va_P D vwCl (xW b T xa xs) U.heap ∧ va_K D vwCl (cT T) U ∧ va_D (fun _ => True) (xW b T xa xs) ∧ xS z (va_A (xW b T xa xs) sz) U U.heap))
    (va_Qi (fun (x : Int32) (xa' : XA) => x = r ∧ xRel b xa' xs' ∧ S xa xa') (fun xa' t => va_P D vwCl (xW b T xa' xs') t.heap ∧ va_K D vwCl (cT T) t ∧ va_D (va_A (xW b T xa xs) sz) (xW b T xa' xs')) (va_A (xW b T xa xs) sz)) rm.cells rm.slots (va_A (xW b T xa xs) sz)
def hXl (S : XA → XA → Prop) (z : Nat → Nat) (l : Launch) (D : va_G) (T : mT3) (b : Nat → Nat) (y : MethodName) (ws : List Cond) (rm : Room) (As : List Value) (xa : XA) (xs : XS) (r : Int64) (xs' : XS) : Prop :=
  ∀ sz : Nat, Met l y ws rm (va_Pc As (fun U => U.heap.size = sz ∧ va_P D vwCl (xW b T xa xs) U.heap ∧ va_K D vwCl (cT T) U ∧ va_D (fun _ => True) (xW b T xa xs) ∧ xS z (va_A (xW b T xa xs) sz) U U.heap))
    (va_Ql (fun (x : Int64) (xa' : XA) => x = r ∧ xRel b xa' xs' ∧ S xa xa') (fun xa' t => va_P D vwCl (xW b T xa' xs') t.heap ∧ va_K D vwCl (cT T) t ∧ va_D (va_A (xW b T xa xs) sz) (xW b T xa' xs')) (va_A (xW b T xa xs) sz)) rm.cells rm.slots (va_A (xW b T xa xs) sz)
def hXv (S : XA → XA → Prop) (z : Nat → Nat) (l : Launch) (D : va_G) (T : mT3) (b : Nat → Nat) (y : MethodName) (ws : List Cond) (rm : Room) (As : List Value) (xa : XA) (xs : XS) (xs' : XS) : Prop :=
  ∀ sz : Nat, Met l y ws rm (va_Pc As (fun U => U.heap.size = sz ∧ va_P D vwCl (xW b T xa xs) U.heap ∧ va_K D vwCl (cT T) U ∧ va_D (fun _ => True) (xW b T xa xs) ∧ xS z (va_A (xW b T xa xs) sz) U U.heap))
    (va_Qv (fun (xa' : XA) => xRel b xa' xs' ∧ S xa xa') (fun xa' t => va_P D vwCl (xW b T xa' xs') t.heap ∧ va_K D vwCl (cT T) t ∧ va_D (va_A (xW b T xa xs) sz) (xW b T xa' xs')) (va_A (xW b T xa xs) sz)) rm.cells rm.slots (va_A (xW b T xa xs) sz)
def hXb (S : XA → XA → Prop) (z : Nat → Nat) (l : Launch) (D : va_G) (T : mT3) (b : Nat → Nat) (y : MethodName) (ws : List Cond) (rm : Room) (As : List Value) (xa : XA) (xs : XS) (r : Option BK) (xs' : XS) : Prop :=
  ∀ sz : Nat, Met l y ws rm (va_Pc As (fun U => U.heap.size = sz ∧ va_P D vwCl (xW b T xa xs) U.heap ∧ va_K D vwCl (cT T) U ∧ va_D (fun _ => True) (xW b T xa xs) ∧ xS z (va_A (xW b T xa xs) sz) U U.heap))
    (va_Qq (fun (x : Option Nat) (xa' : XA) => onB (xPl xa') r x ∧ xRel b xa' xs' ∧ S xa xa') (fun xa' t => va_P D vwCl (xW b T xa' xs') t.heap ∧ va_K D vwCl (cT T) t ∧ va_D (va_A (xW b T xa xs) sz) (xW b T xa' xs')) (va_A (xW b T xa xs) sz)) rm.cells rm.slots (va_A (xW b T xa xs) sz)
def hXr (S : XA → XA → Prop) (z : Nat → Nat) (l : Launch) (D : va_G) (T : mT3) (b : Nat → Nat) (y : MethodName) (ws : List Cond) (rm : Room) (As : List Value) (xa : XA) (xs : XS) (r : Option Nat) (xs' : XS) : Prop :=
  ∀ sz : Nat, Met l y ws rm (va_Pc As (fun U => U.heap.size = sz ∧ va_P D vwCl (xW b T xa xs) U.heap ∧ va_K D vwCl (cT T) U ∧ va_D (fun _ => True) (xW b T xa xs) ∧ xS z (va_A (xW b T xa xs) sz) U U.heap))
    (va_Qq (fun (x : Option Nat) (xa' : XA) => onR xa' r x ∧ xRel b xa' xs' ∧ S xa xa') (fun xa' t => va_P D vwCl (xW b T xa' xs') t.heap ∧ va_K D vwCl (cT T) t ∧ va_D (va_A (xW b T xa xs) sz) (xW b T xa' xs')) (va_A (xW b T xa xs) sz)) rm.cells rm.slots (va_A (xW b T xa xs) sz)
set_option maxHeartbeats 4000000 in
theorem xbody_i {S : XA → XA → Prop} {z : Nat → Nat} {l : Launch} {D : va_G} {T : mT3} {b : Nat → Nat} {y : MethodName} {ws ws' : List Cond} {rm : Room} {As : List Value} {xa : XA} {xs xs' : XS} {r : Int32} {bytes : ByteArray} {maxL : Nat} {rt : FieldType}
    (hy : plainFor y = true) (hws : ws = Cond.code y bytes maxL (some rt) :: ws') (hlen : (lg_sl As).length ≤ maxL)
    (body : ∀ (p : Program) (e : Env) (s : State) (m : MethodId) (args : Array Value) (below : List Frame) (meth : Method) (c : Code) (A : Nat → Prop) (Q : State → Prop),
      p.tables.exec = Jvm.exec → c.code = bytes → c.maxLocals = maxL → s.vm.findClass y.cls = some m.cls → (∀ w ∈ ws, w.before args s = true) → va_K D vwCl (cT T) s → (∀ q : Nat, s.heap.size ≤ q → A q) → xS z A s s.heap →
      (∀ (pc : Nat) (H : Heap) (locs : List Loc) (ls : Array Slot) (xa' : XA), xRel b xa' xs' → S xa xa' → va_P D vwCl (xW b T xa' xs') H → va_D A (xW b T xa' xs') → va_S A s.heap H locs → narrow rt (.int r) = .int r → decode bytes pc = .ok (.ireturn, 1) → W p l e rm s m args below meth c H locs rm.cells rm.slots Q (F0 m pc ls [.int r])) →
      ∀ ls : Array Slot, va_P D vwCl (xW b T xa xs) s.heap → va_D A (xW b T xa xs) → va_S A s.heap s.heap [] → lv_has ls maxL (lv_args 0 As) → W p l e rm s m args below meth c s.heap [] 0 0 Q (F0 m 0 ls [])) :
    hXi S z l D T b y ws rm As xa xs r xs' := by
  intro sz
  refine Met_ofWF (cc := bytes) (maxL := maxL) (ret := some rt) hy hws ?_
  intro p e s m args below meth c s₁ B hml hv
  obtain ⟨rfl, hsz, hP, hK, hD0, hX⟩ := hv
  have hr := B.returns
  have hlocks := B.notSynchronized
  subst hsz
  have hl := lv_entry As (n := maxL) hlen
  rw [lg_entry_eq]
  refine body p e s m _ below meth c (va_A (xW b T xa xs) s.heap.size) _ B.exec B.bytes hml (findClass_of_methodNamed B.named) (atoms_spec (ws := ws) B.pre) hK (fun q h => Or.inr h) hX ?_ _ hP hD0.self va_S.rf hl
  intro pc H locs ls xa' hR hSS hP1 hD1 hS hn hdg
  exact W.zret (v := r) (ty := rt) B.exec B.bytes hr hn (fun t ht hW => ⟨⟨r, xa', rfl, ⟨rfl, hR, hSS⟩, by rw [ht]; exact hP1, va_K.moved hW.alike hK, hD1⟩, hS.F ht⟩) hS.2.2 hdg
set_option maxHeartbeats 4000000 in
theorem xbody_l {S : XA → XA → Prop} {z : Nat → Nat} {l : Launch} {D : va_G} {T : mT3} {b : Nat → Nat} {y : MethodName} {ws ws' : List Cond} {rm : Room} {As : List Value} {xa : XA} {xs xs' : XS} {r : Int64} {bytes : ByteArray} {maxL : Nat}
    (hy : plainFor y = true) (hws : ws = Cond.code y bytes maxL (some .long) :: ws') (hlen : (lg_sl As).length ≤ maxL)
    (body : ∀ (p : Program) (e : Env) (s : State) (m : MethodId) (args : Array Value) (below : List Frame) (meth : Method) (c : Code) (A : Nat → Prop) (Q : State → Prop),
      p.tables.exec = Jvm.exec → c.code = bytes → c.maxLocals = maxL → s.vm.findClass y.cls = some m.cls → (∀ w ∈ ws, w.before args s = true) → va_K D vwCl (cT T) s → (∀ q : Nat, s.heap.size ≤ q → A q) → xS z A s s.heap →
      (∀ (pc : Nat) (H : Heap) (locs : List Loc) (ls : Array Slot) (xa' : XA), xRel b xa' xs' → S xa xa' → va_P D vwCl (xW b T xa' xs') H → va_D A (xW b T xa' xs') → va_S A s.heap H locs → decode bytes pc = .ok (.lreturn, 1) → W p l e rm s m args below meth c H locs rm.cells rm.slots Q (F0 m pc ls [.long r])) →
      ∀ ls : Array Slot, va_P D vwCl (xW b T xa xs) s.heap → va_D A (xW b T xa xs) → va_S A s.heap s.heap [] → lv_has ls maxL (lv_args 0 As) → W p l e rm s m args below meth c s.heap [] 0 0 Q (F0 m 0 ls [])) :
    hXl S z l D T b y ws rm As xa xs r xs' := by
  intro sz
  refine Met_ofWF (cc := bytes) (maxL := maxL) (ret := some .long) hy hws ?_
  intro p e s m args below meth c s₁ B hml hv
  obtain ⟨rfl, hsz, hP, hK, hD0, hX⟩ := hv
  have hr := B.returns
  have hlocks := B.notSynchronized
  subst hsz
  have hl := lv_entry As (n := maxL) hlen
  rw [lg_entry_eq]
  refine body p e s m _ below meth c (va_A (xW b T xa xs) s.heap.size) _ B.exec B.bytes hml (findClass_of_methodNamed B.named) (atoms_spec (ws := ws) B.pre) hK (fun q h => Or.inr h) hX ?_ _ hP hD0.self va_S.rf hl
  intro pc H locs ls xa' hR hSS hP1 hD1 hS hdg
  exact W.lret (v := r) B.exec B.bytes hr (fun t ht hW => ⟨⟨r, xa', rfl, ⟨rfl, hR, hSS⟩, by rw [ht]; exact hP1, va_K.moved hW.alike hK, hD1⟩, hS.F ht⟩) hS.2.2 hdg
set_option maxHeartbeats 4000000 in
theorem xbody_v {S : XA → XA → Prop} {z : Nat → Nat} {l : Launch} {D : va_G} {T : mT3} {b : Nat → Nat} {y : MethodName} {ws ws' : List Cond} {rm : Room} {As : List Value} {xa : XA} {xs xs' : XS} {bytes : ByteArray} {maxL : Nat}
    (hy : plainFor y = true) (hws : ws = Cond.code y bytes maxL (none) :: ws') (hlen : (lg_sl As).length ≤ maxL)
    (body : ∀ (p : Program) (e : Env) (s : State) (m : MethodId) (args : Array Value) (below : List Frame) (meth : Method) (c : Code) (A : Nat → Prop) (Q : State → Prop),
      p.tables.exec = Jvm.exec → c.code = bytes → c.maxLocals = maxL → s.vm.findClass y.cls = some m.cls → (∀ w ∈ ws, w.before args s = true) → va_K D vwCl (cT T) s → (∀ q : Nat, s.heap.size ≤ q → A q) → xS z A s s.heap →
      (∀ (pc : Nat) (H : Heap) (locs : List Loc) (ls : Array Slot) (xa' : XA), xRel b xa' xs' → S xa xa' → va_P D vwCl (xW b T xa' xs') H → va_D A (xW b T xa' xs') → va_S A s.heap H locs → decode bytes pc = .ok (.return_, 1) → W p l e rm s m args below meth c H locs rm.cells rm.slots Q (F0 m pc ls [])) →
      ∀ ls : Array Slot, va_P D vwCl (xW b T xa xs) s.heap → va_D A (xW b T xa xs) → va_S A s.heap s.heap [] → lv_has ls maxL (lv_args 0 As) → W p l e rm s m args below meth c s.heap [] 0 0 Q (F0 m 0 ls [])) :
    hXv S z l D T b y ws rm As xa xs xs' := by
  intro sz
  refine Met_ofWF (cc := bytes) (maxL := maxL) (ret := none) hy hws ?_
  intro p e s m args below meth c s₁ B hml hv
  obtain ⟨rfl, hsz, hP, hK, hD0, hX⟩ := hv
  have hr := B.returns
  have hlocks := B.notSynchronized
  subst hsz
  have hl := lv_entry As (n := maxL) hlen
  rw [lg_entry_eq]
  refine body p e s m _ below meth c (va_A (xW b T xa xs) s.heap.size) _ B.exec B.bytes hml (findClass_of_methodNamed B.named) (atoms_spec (ws := ws) B.pre) hK (fun q h => Or.inr h) hX ?_ _ hP hD0.self va_S.rf hl
  intro pc H locs ls xa' hR hSS hP1 hD1 hS hdg
  exact W.vret B.exec B.bytes hr (fun t ht hW => ⟨⟨xa', rfl, ⟨hR, hSS⟩, by rw [ht]; exact hP1, va_K.moved hW.alike hK, hD1⟩, hS.F ht⟩) hS.2.2 hdg
set_option maxHeartbeats 4000000 in
theorem xbody_b {S : XA → XA → Prop} {z : Nat → Nat} {l : Launch} {D : va_G} {T : mT3} {b : Nat → Nat} {y : MethodName} {ws ws' : List Cond} {rm : Room} {As : List Value} {xa : XA} {xs xs' : XS} {r : Option BK} {bytes : ByteArray} {maxL : Nat} {rt : String}
    (hy : plainFor y = true) (hws : ws = Cond.code y bytes maxL (some (.object rt)) :: ws') (hlen : (lg_sl As).length ≤ maxL)
    (body : ∀ (p : Program) (e : Env) (s : State) (m : MethodId) (args : Array Value) (below : List Frame) (meth : Method) (c : Code) (A : Nat → Prop) (Q : State → Prop),
      p.tables.exec = Jvm.exec → c.code = bytes → c.maxLocals = maxL → s.vm.findClass y.cls = some m.cls → (∀ w ∈ ws, w.before args s = true) → va_K D vwCl (cT T) s → (∀ q : Nat, s.heap.size ≤ q → A q) → xS z A s s.heap →
      (∀ (pc : Nat) (H : Heap) (locs : List Loc) (ls : Array Slot) (xa' : XA) (x : Option Nat), xRel b xa' xs' → S xa xa' → va_P D vwCl (xW b T xa' xs') H → va_D A (xW b T xa' xs') → va_S A s.heap H locs → onB (xPl xa') r x → decode bytes pc = .ok (.areturn, 1) → W p l e rm s m args below meth c H locs rm.cells rm.slots Q (F0 m pc ls [va_rf x])) →
      ∀ ls : Array Slot, va_P D vwCl (xW b T xa xs) s.heap → va_D A (xW b T xa xs) → va_S A s.heap s.heap [] → lv_has ls maxL (lv_args 0 As) → W p l e rm s m args below meth c s.heap [] 0 0 Q (F0 m 0 ls [])) :
    hXb S z l D T b y ws rm As xa xs r xs' := by
  intro sz
  refine Met_ofWF (cc := bytes) (maxL := maxL) (ret := some (.object rt)) hy hws ?_
  intro p e s m args below meth c s₁ B hml hv
  obtain ⟨rfl, hsz, hP, hK, hD0, hX⟩ := hv
  have hr := B.returns
  have hlocks := B.notSynchronized
  subst hsz
  have hl := lv_entry As (n := maxL) hlen
  rw [lg_entry_eq]
  refine body p e s m _ below meth c (va_A (xW b T xa xs) s.heap.size) _ B.exec B.bytes hml (findClass_of_methodNamed B.named) (atoms_spec (ws := ws) B.pre) hK (fun q h => Or.inr h) hX ?_ _ hP hD0.self va_S.rf hl
  intro pc H locs ls xa' x hR hSS hP1 hD1 hS hn hdg
  exact W.aret (v := va_rf x) (rt := .object rt) B.exec B.bytes hr (Or.inl ⟨_, rfl⟩) (by cases x with | none => exact Or.inl rfl | some a => exact Or.inr ⟨a, rfl⟩) (fun t ht hW => ⟨⟨x, xa', rfl, ⟨hn, hR, hSS⟩, by rw [ht]; exact hP1, va_K.moved hW.alike hK, hD1⟩, hS.F ht⟩) hS.2.2 hdg
set_option maxHeartbeats 4000000 in
theorem xbody_r {S : XA → XA → Prop} {z : Nat → Nat} {l : Launch} {D : va_G} {T : mT3} {b : Nat → Nat} {y : MethodName} {ws ws' : List Cond} {rm : Room} {As : List Value} {xa : XA} {xs xs' : XS} {r : Option Nat} {bytes : ByteArray} {maxL : Nat} {rt : String}
    (hy : plainFor y = true) (hws : ws = Cond.code y bytes maxL (some (.object rt)) :: ws') (hlen : (lg_sl As).length ≤ maxL)
    (body : ∀ (p : Program) (e : Env) (s : State) (m : MethodId) (args : Array Value) (below : List Frame) (meth : Method) (c : Code) (A : Nat → Prop) (Q : State → Prop),
      p.tables.exec = Jvm.exec → c.code = bytes → c.maxLocals = maxL → s.vm.findClass y.cls = some m.cls → (∀ w ∈ ws, w.before args s = true) → va_K D vwCl (cT T) s → (∀ q : Nat, s.heap.size ≤ q → A q) → xS z A s s.heap →
      (∀ (pc : Nat) (H : Heap) (locs : List Loc) (ls : Array Slot) (xa' : XA) (x : Option Nat), xRel b xa' xs' → S xa xa' → va_P D vwCl (xW b T xa' xs') H → va_D A (xW b T xa' xs') → va_S A s.heap H locs → onR xa' r x → decode bytes pc = .ok (.areturn, 1) → W p l e rm s m args below meth c H locs rm.cells rm.slots Q (F0 m pc ls [va_rf x])) →
      ∀ ls : Array Slot, va_P D vwCl (xW b T xa xs) s.heap → va_D A (xW b T xa xs) → va_S A s.heap s.heap [] → lv_has ls maxL (lv_args 0 As) → W p l e rm s m args below meth c s.heap [] 0 0 Q (F0 m 0 ls [])) :
    hXr S z l D T b y ws rm As xa xs r xs' := by
  intro sz
  refine Met_ofWF (cc := bytes) (maxL := maxL) (ret := some (.object rt)) hy hws ?_
  intro p e s m args below meth c s₁ B hml hv
  obtain ⟨rfl, hsz, hP, hK, hD0, hX⟩ := hv
  have hr := B.returns
  have hlocks := B.notSynchronized
  subst hsz
  have hl := lv_entry As (n := maxL) hlen
  rw [lg_entry_eq]
  refine body p e s m _ below meth c (va_A (xW b T xa xs) s.heap.size) _ B.exec B.bytes hml (findClass_of_methodNamed B.named) (atoms_spec (ws := ws) B.pre) hK (fun q h => Or.inr h) hX ?_ _ hP hD0.self va_S.rf hl
  intro pc H locs ls xa' x hR hSS hP1 hD1 hS hn hdg
  exact W.aret (v := va_rf x) (rt := .object rt) B.exec B.bytes hr (Or.inl ⟨_, rfl⟩) (by cases x with | none => exact Or.inl rfl | some a => exact Or.inr ⟨a, rfl⟩) (fun t ht hW => ⟨⟨x, xa', rfl, ⟨hn, hR, hSS⟩, by rw [ht]; exact hP1, va_K.moved hW.alike hK, hD1⟩, hS.F ht⟩) hS.2.2 hdg
section XCALL
variable {p : Program} {l : Launch} {e : Env} {R : Room} {s : State} {m : MethodId} {args : Array Value} {below : List Frame} {meth : Method} {c : Code} {H : Heap} {locs : List Loc} {cells slots : Nat} {Q : State → Prop}
variable {pc : Nat} {ls : Array Slot} {rest st0 : List Value} {A : Nat → Prop} {cc bytes : ByteArray} {nL maxL index n : Nat} {ret : Option FieldType} {Ts ws : List Cond} {rm : Room} {own host : String} {y : MethodName} {D : va_G} {As : List Value} {b0 : Nat} {z b : Nat → Nat} {T : mT3} {xa : XA} {xs xs' : XS} {S : XA → XA → Prop}
theorem x_vi {r : Int32} {ci q0 : Nat} {fs : List Value} {qc : vw_C} (hx : p.tables.exec = Jvm.exec) (hb : c.code = cc) (hml : c.maxLocals = nL) (hown : s.vm.findClass own = some m.cls) (hts : ∀ w ∈ Ts, w.before args s = true)
    (hM : hXi S z l D T b y ws rm (.ref b0 :: As) xa xs r xs') (cw : CallW R s args own qc.1 index y bytes maxL ret ws rm rm.cells rm.slots n)
    (hK : va_K D vwCl (cT T) s) (hA : ∀ q : Nat, s.heap.size ≤ q → A q) (hX : xS z A s s.heap) (hP : va_P D vwCl (xW b T xa xs) H) (hD : va_D A (xW b T xa xs)) (hS : va_S A s.heap H locs) (hc : vwCl[ci]? = some qc) (he : (xW b T xa xs)[q0]? = some (b0, .inr (ci, fs)))
    (hn : As.length = n) (hsize : ls.size = nL) (hstack : st0 = As.reverse ++ .ref b0 :: rest) (hW : (rest.map fun v => v.category).sum ≤ 8) (hdg : decode cc pc = .ok (.invokevirtual index, 3)) (hf : cells + rm.cells ≤ R.cells ∧ slots + rm.slots ≤ R.slots)
    (kk : ∀ (xa' : XA) (H1 : Heap) (locs1 : List Loc), xRel b xa' xs' → S xa xa' → va_P D vwCl (xW b T xa' xs') H1 → va_D A (xW b T xa' xs') → va_S A s.heap H1 locs1 → W p l e R s m args below meth c H1 locs1 (cells + rm.cells) (slots + rm.slots) Q (F0 m (pc + 3) ls (.int r :: rest))) :
    W p l e R s m args below meth c H locs cells slots Q (F0 m pc ls st0) := by
  have hF := h_freeS (w0 := xW b T xa xs) hD hS hA (fun q hq => hq)
  refine va_calli (va_runV (As := As) (rest := rest) ⟨hx, hb, hml, hown, hts⟩ (hM H.size) cw ⟨h_blind, va_recv hK hP hc he, h_pre hX hS hK hP hD hF⟩ rfl hn hsize hstack (lv_room hW) hdg hf) hS (fun q _ h => hF q h) hF (fun r' u t H1 locs1 ht hvm hw hB hz1 hk1 hS1 => ?_)
  obtain ⟨hP1, -, hD1⟩ := hB
  rw [ht] at hP1
  obtain ⟨hw0, hw1, hw2⟩ := hw
  subst hw0
  exact kk u H1 locs1 hw1 hw2 hP1 (hD1.weaken (fun k q _ h => hF q.1 h)) hS1
theorem x_si {r : Int32} (hx : p.tables.exec = Jvm.exec) (hb : c.code = cc) (hml : c.maxLocals = nL) (hown : s.vm.findClass own = some m.cls) (hts : ∀ w ∈ Ts, w.before args s = true)
    (hM : hXi S z l D T b y ws rm As xa xs r xs') (cw : CallB R s args own index y bytes maxL ret ws rm rm.cells rm.slots n ∧ (Cond.static y).before args s = true)
    (hK : va_K D vwCl (cT T) s) (hA : ∀ q : Nat, s.heap.size ≤ q → A q) (hX : xS z A s s.heap) (hP : va_P D vwCl (xW b T xa xs) H) (hD : va_D A (xW b T xa xs)) (hS : va_S A s.heap H locs)
    (hn : As.length = n) (hsize : ls.size = nL) (hstack : st0 = As.reverse ++ rest) (hW : (rest.map fun v => v.category).sum ≤ 8) (hdg : decode cc pc = .ok (.invokestatic index, 3)) (hf : cells + rm.cells ≤ R.cells ∧ slots + rm.slots ≤ R.slots)
    (kk : ∀ (xa' : XA) (H1 : Heap) (locs1 : List Loc), xRel b xa' xs' → S xa xa' → va_P D vwCl (xW b T xa' xs') H1 → va_D A (xW b T xa' xs') → va_S A s.heap H1 locs1 → W p l e R s m args below meth c H1 locs1 (cells + rm.cells) (slots + rm.slots) Q (F0 m (pc + 3) ls (.int r :: rest))) :
    W p l e R s m args below meth c H locs cells slots Q (F0 m pc ls st0) := by
  have hF := h_freeS (w0 := xW b T xa xs) hD hS hA (fun q hq => hq)
  refine va_calli (va_runS (As := As) (rest := rest) ⟨hx, hb, hml, hown, hts⟩ (hM H.size) cw ⟨h_blind, h_pre hX hS hK hP hD hF⟩ rfl hn hsize hstack (lv_room hW) hdg hf) hS (fun q _ h => hF q h) hF (fun r' u t H1 locs1 ht hvm hw hB hz1 hk1 hS1 => ?_)
  obtain ⟨hP1, -, hD1⟩ := hB
  rw [ht] at hP1
  obtain ⟨hw0, hw1, hw2⟩ := hw
  subst hw0
  exact kk u H1 locs1 hw1 hw2 hP1 (hD1.weaken (fun k q _ h => hF q.1 h)) hS1
theorem x_vl {r : Int64} {ci q0 : Nat} {fs : List Value} {qc : vw_C} (hx : p.tables.exec = Jvm.exec) (hb : c.code = cc) (hml : c.maxLocals = nL) (hown : s.vm.findClass own = some m.cls) (hts : ∀ w ∈ Ts, w.before args s = true)
    (hM : hXl S z l D T b y ws rm (.ref b0 :: As) xa xs r xs') (cw : CallW R s args own qc.1 index y bytes maxL ret ws rm rm.cells rm.slots n)
    (hK : va_K D vwCl (cT T) s) (hA : ∀ q : Nat, s.heap.size ≤ q → A q) (hX : xS z A s s.heap) (hP : va_P D vwCl (xW b T xa xs) H) (hD : va_D A (xW b T xa xs)) (hS : va_S A s.heap H locs) (hc : vwCl[ci]? = some qc) (he : (xW b T xa xs)[q0]? = some (b0, .inr (ci, fs)))
    (hn : As.length = n) (hsize : ls.size = nL) (hstack : st0 = As.reverse ++ .ref b0 :: rest) (hW : (rest.map fun v => v.category).sum ≤ 8) (hdg : decode cc pc = .ok (.invokevirtual index, 3)) (hf : cells + rm.cells ≤ R.cells ∧ slots + rm.slots ≤ R.slots)
    (kk : ∀ (xa' : XA) (H1 : Heap) (locs1 : List Loc), xRel b xa' xs' → S xa xa' → va_P D vwCl (xW b T xa' xs') H1 → va_D A (xW b T xa' xs') → va_S A s.heap H1 locs1 → W p l e R s m args below meth c H1 locs1 (cells + rm.cells) (slots + rm.slots) Q (F0 m (pc + 3) ls (.long r :: rest))) :
    W p l e R s m args below meth c H locs cells slots Q (F0 m pc ls st0) := by
  have hF := h_freeS (w0 := xW b T xa xs) hD hS hA (fun q hq => hq)
  refine va_calll (va_runV (As := As) (rest := rest) ⟨hx, hb, hml, hown, hts⟩ (hM H.size) cw ⟨h_blind, va_recv hK hP hc he, h_pre hX hS hK hP hD hF⟩ rfl hn hsize hstack (lv_room hW) hdg hf) hS (fun q _ h => hF q h) hF (fun r' u t H1 locs1 ht hvm hw hB hz1 hk1 hS1 => ?_)
  obtain ⟨hP1, -, hD1⟩ := hB
  rw [ht] at hP1
  obtain ⟨hw0, hw1, hw2⟩ := hw
  subst hw0
  exact kk u H1 locs1 hw1 hw2 hP1 (hD1.weaken (fun k q _ h => hF q.1 h)) hS1
theorem x_sl {r : Int64} (hx : p.tables.exec = Jvm.exec) (hb : c.code = cc) (hml : c.maxLocals = nL) (hown : s.vm.findClass own = some m.cls) (hts : ∀ w ∈ Ts, w.before args s = true)
    (hM : hXl S z l D T b y ws rm As xa xs r xs') (cw : CallB R s args own index y bytes maxL ret ws rm rm.cells rm.slots n ∧ (Cond.static y).before args s = true)
    (hK : va_K D vwCl (cT T) s) (hA : ∀ q : Nat, s.heap.size ≤ q → A q) (hX : xS z A s s.heap) (hP : va_P D vwCl (xW b T xa xs) H) (hD : va_D A (xW b T xa xs)) (hS : va_S A s.heap H locs)
    (hn : As.length = n) (hsize : ls.size = nL) (hstack : st0 = As.reverse ++ rest) (hW : (rest.map fun v => v.category).sum ≤ 8) (hdg : decode cc pc = .ok (.invokestatic index, 3)) (hf : cells + rm.cells ≤ R.cells ∧ slots + rm.slots ≤ R.slots)
    (kk : ∀ (xa' : XA) (H1 : Heap) (locs1 : List Loc), xRel b xa' xs' → S xa xa' → va_P D vwCl (xW b T xa' xs') H1 → va_D A (xW b T xa' xs') → va_S A s.heap H1 locs1 → W p l e R s m args below meth c H1 locs1 (cells + rm.cells) (slots + rm.slots) Q (F0 m (pc + 3) ls (.long r :: rest))) :
    W p l e R s m args below meth c H locs cells slots Q (F0 m pc ls st0) := by
  have hF := h_freeS (w0 := xW b T xa xs) hD hS hA (fun q hq => hq)
  refine va_calll (va_runS (As := As) (rest := rest) ⟨hx, hb, hml, hown, hts⟩ (hM H.size) cw ⟨h_blind, h_pre hX hS hK hP hD hF⟩ rfl hn hsize hstack (lv_room hW) hdg hf) hS (fun q _ h => hF q h) hF (fun r' u t H1 locs1 ht hvm hw hB hz1 hk1 hS1 => ?_)
  obtain ⟨hP1, -, hD1⟩ := hB
  rw [ht] at hP1
  obtain ⟨hw0, hw1, hw2⟩ := hw
  subst hw0
  exact kk u H1 locs1 hw1 hw2 hP1 (hD1.weaken (fun k q _ h => hF q.1 h)) hS1
theorem x_vv {ci q0 : Nat} {fs : List Value} {qc : vw_C} (hx : p.tables.exec = Jvm.exec) (hb : c.code = cc) (hml : c.maxLocals = nL) (hown : s.vm.findClass own = some m.cls) (hts : ∀ w ∈ Ts, w.before args s = true)
    (hM : hXv S z l D T b y ws rm (.ref b0 :: As) xa xs xs') (cw : CallW R s args own qc.1 index y bytes maxL ret ws rm rm.cells rm.slots n)
    (hK : va_K D vwCl (cT T) s) (hA : ∀ q : Nat, s.heap.size ≤ q → A q) (hX : xS z A s s.heap) (hP : va_P D vwCl (xW b T xa xs) H) (hD : va_D A (xW b T xa xs)) (hS : va_S A s.heap H locs) (hc : vwCl[ci]? = some qc) (he : (xW b T xa xs)[q0]? = some (b0, .inr (ci, fs)))
    (hn : As.length = n) (hsize : ls.size = nL) (hstack : st0 = As.reverse ++ .ref b0 :: rest) (hW : (rest.map fun v => v.category).sum ≤ 8) (hdg : decode cc pc = .ok (.invokevirtual index, 3)) (hf : cells + rm.cells ≤ R.cells ∧ slots + rm.slots ≤ R.slots)
    (kk : ∀ (xa' : XA) (H1 : Heap) (locs1 : List Loc), xRel b xa' xs' → S xa xa' → va_P D vwCl (xW b T xa' xs') H1 → va_D A (xW b T xa' xs') → va_S A s.heap H1 locs1 → W p l e R s m args below meth c H1 locs1 (cells + rm.cells) (slots + rm.slots) Q (F0 m (pc + 3) ls (rest))) :
    W p l e R s m args below meth c H locs cells slots Q (F0 m pc ls st0) := by
  have hF := h_freeS (w0 := xW b T xa xs) hD hS hA (fun q hq => hq)
  refine va_callv (va_runV (As := As) (rest := rest) ⟨hx, hb, hml, hown, hts⟩ (hM H.size) cw ⟨h_blind, va_recv hK hP hc he, h_pre hX hS hK hP hD hF⟩ rfl hn hsize hstack (lv_room hW) hdg hf) hS (fun q _ h => hF q h) hF (fun u t H1 locs1 ht hvm hw hB hz1 hk1 hS1 => ?_)
  obtain ⟨hP1, -, hD1⟩ := hB
  rw [ht] at hP1
  exact kk u H1 locs1 hw.1 hw.2 hP1 (hD1.weaken (fun k q _ h => hF q.1 h)) hS1
theorem x_sv (hx : p.tables.exec = Jvm.exec) (hb : c.code = cc) (hml : c.maxLocals = nL) (hown : s.vm.findClass own = some m.cls) (hts : ∀ w ∈ Ts, w.before args s = true)
    (hM : hXv S z l D T b y ws rm As xa xs xs') (cw : CallB R s args own index y bytes maxL ret ws rm rm.cells rm.slots n ∧ (Cond.static y).before args s = true)
    (hK : va_K D vwCl (cT T) s) (hA : ∀ q : Nat, s.heap.size ≤ q → A q) (hX : xS z A s s.heap) (hP : va_P D vwCl (xW b T xa xs) H) (hD : va_D A (xW b T xa xs)) (hS : va_S A s.heap H locs)
    (hn : As.length = n) (hsize : ls.size = nL) (hstack : st0 = As.reverse ++ rest) (hW : (rest.map fun v => v.category).sum ≤ 8) (hdg : decode cc pc = .ok (.invokestatic index, 3)) (hf : cells + rm.cells ≤ R.cells ∧ slots + rm.slots ≤ R.slots)
    (kk : ∀ (xa' : XA) (H1 : Heap) (locs1 : List Loc), xRel b xa' xs' → S xa xa' → va_P D vwCl (xW b T xa' xs') H1 → va_D A (xW b T xa' xs') → va_S A s.heap H1 locs1 → W p l e R s m args below meth c H1 locs1 (cells + rm.cells) (slots + rm.slots) Q (F0 m (pc + 3) ls (rest))) :
    W p l e R s m args below meth c H locs cells slots Q (F0 m pc ls st0) := by
  have hF := h_freeS (w0 := xW b T xa xs) hD hS hA (fun q hq => hq)
  refine va_callv (va_runS (As := As) (rest := rest) ⟨hx, hb, hml, hown, hts⟩ (hM H.size) cw ⟨h_blind, h_pre hX hS hK hP hD hF⟩ rfl hn hsize hstack (lv_room hW) hdg hf) hS (fun q _ h => hF q h) hF (fun u t H1 locs1 ht hvm hw hB hz1 hk1 hS1 => ?_)
  obtain ⟨hP1, -, hD1⟩ := hB
  rw [ht] at hP1
  exact kk u H1 locs1 hw.1 hw.2 hP1 (hD1.weaken (fun k q _ h => hF q.1 h)) hS1
theorem x_vb {r : Option BK} {ci q0 : Nat} {fs : List Value} {qc : vw_C} (hx : p.tables.exec = Jvm.exec) (hb : c.code = cc) (hml : c.maxLocals = nL) (hown : s.vm.findClass own = some m.cls) (hts : ∀ w ∈ Ts, w.before args s = true)
    (hM : hXb S z l D T b y ws rm (.ref b0 :: As) xa xs r xs') (cw : CallW R s args own qc.1 index y bytes maxL ret ws rm rm.cells rm.slots n)
    (hK : va_K D vwCl (cT T) s) (hA : ∀ q : Nat, s.heap.size ≤ q → A q) (hX : xS z A s s.heap) (hP : va_P D vwCl (xW b T xa xs) H) (hD : va_D A (xW b T xa xs)) (hS : va_S A s.heap H locs) (hc : vwCl[ci]? = some qc) (he : (xW b T xa xs)[q0]? = some (b0, .inr (ci, fs)))
    (hn : As.length = n) (hsize : ls.size = nL) (hstack : st0 = As.reverse ++ .ref b0 :: rest) (hW : (rest.map fun v => v.category).sum ≤ 8) (hdg : decode cc pc = .ok (.invokevirtual index, 3)) (hf : cells + rm.cells ≤ R.cells ∧ slots + rm.slots ≤ R.slots)
    (kk : ∀ (xa' : XA) (H1 : Heap) (locs1 : List Loc) (x : Option Nat), xRel b xa' xs' → S xa xa' → onB (xPl xa') r x → va_P D vwCl (xW b T xa' xs') H1 → va_D A (xW b T xa' xs') → va_S A s.heap H1 locs1 → W p l e R s m args below meth c H1 locs1 (cells + rm.cells) (slots + rm.slots) Q (F0 m (pc + 3) ls (va_rf x :: rest))) :
    W p l e R s m args below meth c H locs cells slots Q (F0 m pc ls st0) := by
  have hF := h_freeS (w0 := xW b T xa xs) hD hS hA (fun q hq => hq)
  refine va_callq (va_runV (As := As) (rest := rest) ⟨hx, hb, hml, hown, hts⟩ (hM H.size) cw ⟨h_blind, va_recv hK hP hc he, h_pre hX hS hK hP hD hF⟩ rfl hn hsize hstack (lv_room hW) hdg hf) hS (fun q _ h => hF q h) hF (fun r' u t H1 locs1 ht hvm hw hB hz1 hk1 hS1 => ?_)
  obtain ⟨hP1, -, hD1⟩ := hB
  rw [ht] at hP1
  exact kk u H1 locs1 r' hw.2.1 hw.2.2 hw.1 hP1 (hD1.weaken (fun k q _ h => hF q.1 h)) hS1
theorem x_sb {r : Option BK} (hx : p.tables.exec = Jvm.exec) (hb : c.code = cc) (hml : c.maxLocals = nL) (hown : s.vm.findClass own = some m.cls) (hts : ∀ w ∈ Ts, w.before args s = true)
    (hM : hXb S z l D T b y ws rm As xa xs r xs') (cw : CallB R s args own index y bytes maxL ret ws rm rm.cells rm.slots n ∧ (Cond.static y).before args s = true)
    (hK : va_K D vwCl (cT T) s) (hA : ∀ q : Nat, s.heap.size ≤ q → A q) (hX : xS z A s s.heap) (hP : va_P D vwCl (xW b T xa xs) H) (hD : va_D A (xW b T xa xs)) (hS : va_S A s.heap H locs)
    (hn : As.length = n) (hsize : ls.size = nL) (hstack : st0 = As.reverse ++ rest) (hW : (rest.map fun v => v.category).sum ≤ 8) (hdg : decode cc pc = .ok (.invokestatic index, 3)) (hf : cells + rm.cells ≤ R.cells ∧ slots + rm.slots ≤ R.slots)
    (kk : ∀ (xa' : XA) (H1 : Heap) (locs1 : List Loc) (x : Option Nat), xRel b xa' xs' → S xa xa' → onB (xPl xa') r x → va_P D vwCl (xW b T xa' xs') H1 → va_D A (xW b T xa' xs') → va_S A s.heap H1 locs1 → W p l e R s m args below meth c H1 locs1 (cells + rm.cells) (slots + rm.slots) Q (F0 m (pc + 3) ls (va_rf x :: rest))) :
    W p l e R s m args below meth c H locs cells slots Q (F0 m pc ls st0) := by
  have hF := h_freeS (w0 := xW b T xa xs) hD hS hA (fun q hq => hq)
  refine va_callq (va_runS (As := As) (rest := rest) ⟨hx, hb, hml, hown, hts⟩ (hM H.size) cw ⟨h_blind, h_pre hX hS hK hP hD hF⟩ rfl hn hsize hstack (lv_room hW) hdg hf) hS (fun q _ h => hF q h) hF (fun r' u t H1 locs1 ht hvm hw hB hz1 hk1 hS1 => ?_)
  obtain ⟨hP1, -, hD1⟩ := hB
  rw [ht] at hP1
  exact kk u H1 locs1 r' hw.2.1 hw.2.2 hw.1 hP1 (hD1.weaken (fun k q _ h => hF q.1 h)) hS1
theorem x_vr {r : Option Nat} {ci q0 : Nat} {fs : List Value} {qc : vw_C} (hx : p.tables.exec = Jvm.exec) (hb : c.code = cc) (hml : c.maxLocals = nL) (hown : s.vm.findClass own = some m.cls) (hts : ∀ w ∈ Ts, w.before args s = true)
    (hM : hXr S z l D T b y ws rm (.ref b0 :: As) xa xs r xs') (cw : CallW R s args own qc.1 index y bytes maxL ret ws rm rm.cells rm.slots n)
    (hK : va_K D vwCl (cT T) s) (hA : ∀ q : Nat, s.heap.size ≤ q → A q) (hX : xS z A s s.heap) (hP : va_P D vwCl (xW b T xa xs) H) (hD : va_D A (xW b T xa xs)) (hS : va_S A s.heap H locs) (hc : vwCl[ci]? = some qc) (he : (xW b T xa xs)[q0]? = some (b0, .inr (ci, fs)))
    (hn : As.length = n) (hsize : ls.size = nL) (hstack : st0 = As.reverse ++ .ref b0 :: rest) (hW : (rest.map fun v => v.category).sum ≤ 8) (hdg : decode cc pc = .ok (.invokevirtual index, 3)) (hf : cells + rm.cells ≤ R.cells ∧ slots + rm.slots ≤ R.slots)
    (kk : ∀ (xa' : XA) (H1 : Heap) (locs1 : List Loc) (x : Option Nat), xRel b xa' xs' → S xa xa' → onR xa' r x → va_P D vwCl (xW b T xa' xs') H1 → va_D A (xW b T xa' xs') → va_S A s.heap H1 locs1 → W p l e R s m args below meth c H1 locs1 (cells + rm.cells) (slots + rm.slots) Q (F0 m (pc + 3) ls (va_rf x :: rest))) :
    W p l e R s m args below meth c H locs cells slots Q (F0 m pc ls st0) := by
  have hF := h_freeS (w0 := xW b T xa xs) hD hS hA (fun q hq => hq)
  refine va_callq (va_runV (As := As) (rest := rest) ⟨hx, hb, hml, hown, hts⟩ (hM H.size) cw ⟨h_blind, va_recv hK hP hc he, h_pre hX hS hK hP hD hF⟩ rfl hn hsize hstack (lv_room hW) hdg hf) hS (fun q _ h => hF q h) hF (fun r' u t H1 locs1 ht hvm hw hB hz1 hk1 hS1 => ?_)
  obtain ⟨hP1, -, hD1⟩ := hB
  rw [ht] at hP1
  exact kk u H1 locs1 r' hw.2.1 hw.2.2 hw.1 hP1 (hD1.weaken (fun k q _ h => hF q.1 h)) hS1
theorem x_sr {r : Option Nat} (hx : p.tables.exec = Jvm.exec) (hb : c.code = cc) (hml : c.maxLocals = nL) (hown : s.vm.findClass own = some m.cls) (hts : ∀ w ∈ Ts, w.before args s = true)
    (hM : hXr S z l D T b y ws rm As xa xs r xs') (cw : CallB R s args own index y bytes maxL ret ws rm rm.cells rm.slots n ∧ (Cond.static y).before args s = true)
    (hK : va_K D vwCl (cT T) s) (hA : ∀ q : Nat, s.heap.size ≤ q → A q) (hX : xS z A s s.heap) (hP : va_P D vwCl (xW b T xa xs) H) (hD : va_D A (xW b T xa xs)) (hS : va_S A s.heap H locs)
    (hn : As.length = n) (hsize : ls.size = nL) (hstack : st0 = As.reverse ++ rest) (hW : (rest.map fun v => v.category).sum ≤ 8) (hdg : decode cc pc = .ok (.invokestatic index, 3)) (hf : cells + rm.cells ≤ R.cells ∧ slots + rm.slots ≤ R.slots)
    (kk : ∀ (xa' : XA) (H1 : Heap) (locs1 : List Loc) (x : Option Nat), xRel b xa' xs' → S xa xa' → onR xa' r x → va_P D vwCl (xW b T xa' xs') H1 → va_D A (xW b T xa' xs') → va_S A s.heap H1 locs1 → W p l e R s m args below meth c H1 locs1 (cells + rm.cells) (slots + rm.slots) Q (F0 m (pc + 3) ls (va_rf x :: rest))) :
    W p l e R s m args below meth c H locs cells slots Q (F0 m pc ls st0) := by
  have hF := h_freeS (w0 := xW b T xa xs) hD hS hA (fun q hq => hq)
  refine va_callq (va_runS (As := As) (rest := rest) ⟨hx, hb, hml, hown, hts⟩ (hM H.size) cw ⟨h_blind, h_pre hX hS hK hP hD hF⟩ rfl hn hsize hstack (lv_room hW) hdg hf) hS (fun q _ h => hF q h) hF (fun r' u t H1 locs1 ht hvm hw hB hz1 hk1 hS1 => ?_)
  obtain ⟨hP1, -, hD1⟩ := hB
  rw [ht] at hP1
  exact kk u H1 locs1 r' hw.2.1 hw.2.2 hw.1 hP1 (hD1.weaken (fun k q _ h => hF q.1 h)) hS1
end XCALL
