/-! the reference as a state: numbers, rows of ints and of longs by the numbers of the fields, and what keptIn is (the place of its row in the world) -/
abbrev MS : Type := (Nat → Int32) × (Nat → Nat → Int32) × (Nat → Nat → Int64) × Option Nat
def gF (st : MS) (k : Nat) : Int32 := st.1 k
def gA (st : MS) (k : Nat) : Nat → Int32 := st.2.1 k
def gL (st : MS) (k : Nat) : Nat → Int64 := st.2.2.1 k
def gK (st : MS) : Option Nat := st.2.2.2
def sF (st : MS) (k : Nat) (v : Int32) : MS := (fun j => if j = k then v else st.1 j, st.2.1, st.2.2.1, st.2.2.2)
def sA (st : MS) (k i : Nat) (v : Int32) : MS := (st.1, fun j => if j = k then upd (st.2.1 j) i v else st.2.1 j, st.2.2.1, st.2.2.2)
def sL (st : MS) (k i : Nat) (v : Int64) : MS := (st.1, st.2.1, fun j => if j = k then vp_updL (st.2.2.1 j) i v else st.2.2.1 j, st.2.2.2)
def sK (st : MS) (o : Option Nat) : MS := (st.1, st.2.1, st.2.2.1, o)
def mKv (a : Nat → Nat) (o : Option Nat) : Value := match o with
  | none => .null
  | some k => .ref (a k)
def mFs (a : Nat → Nat) (st : MS) : List Value := [.ref (a 1), .ref (a 2), .ref (a 3), .ref (a 4), .ref (a 5), .int (gF st 5), .int (gF st 6), .int (gF st 7), .int (gF st 8), .ref (a 6), .ref (a 7), .ref (a 8), .ref (a 9), .ref (a 10), .ref (a 11), .ref (a 12), .ref (a 13), .int (gF st 17), .ref (a 14), .int (gF st 19), .int (gF st 20), .int (gF st 21), .int (gF st 22), .ref (a 15), .ref (a 16), .ref (a 17), .ref (a 18), .ref (a 19), .int (gF st 28), .int (gF st 29), .int (gF st 30), mKv a (gK st), .ref (a 20), .int (gF st 33), .int (gF st 34), .int (gF st 35), .ref (a 21)]
abbrev mT3 : Type := ClassId × ClassId × ClassId
def mT (T : mT3) : List (ClassId × FieldType) := [(T.1, .int), (T.2.1, .long), (T.2.2, .boolean)]
def mW (a : Nat → Nat) (T : mT3) (st : MS) : va_W := [(a 0, .inr (11, mFs a st)), (a 1, .inl (T.1, 12, .inl (gA st 0))), (a 2, .inl (T.1, 12, .inl (gA st 1))), (a 3, .inl (T.1, 12, .inl (gA st 2))), (a 4, .inl (T.1, 12, .inl (gA st 3))), (a 5, .inl (T.1, 7, .inl (gA st 4))), (a 6, .inl (T.1, 6, .inl (gA st 9))), (a 7, .inl (T.1, 6, .inl (gA st 10))), (a 8, .inl (T.1, 8, .inl (gA st 11))), (a 9, .inl (T.1, 8, .inl (gA st 12))), (a 10, .inl (T.1, 8, .inl (gA st 13))), (a 11, .inl (T.1, 8, .inl (gA st 14))), (a 12, .inl (T.1, 8, .inl (gA st 15))), (a 13, .inl (T.2.1, 800, .inr (.inl (gL st 16)))), (a 14, .inl (T.1, 12, .inl (gA st 18))), (a 15, .inl (T.1, 51, .inl (gA st 23))), (a 16, .inl (T.1, 51, .inl (gA st 24))), (a 17, .inl (T.1, 153, .inl (gA st 25))), (a 18, .inl (T.1, 47, .inl (gA st 26))), (a 19, .inl (T.1, 47, .inl (gA st 27))), (a 20, .inl (T.2.2, 4096, .inl (gA st 32))), (a 21, .inl (T.2.1, 100, .inr (.inl (gL st 36))))]
theorem mset_5 (a : Nat → Nat) (T : mT3) (st : MS) (v : Int32) : (mW a T st).set 0 (a 0, .inr (11, (mFs a st).set 5 (.int v))) = mW a T (sF st 5 v) := rfl
theorem mset_6 (a : Nat → Nat) (T : mT3) (st : MS) (v : Int32) : (mW a T st).set 0 (a 0, .inr (11, (mFs a st).set 6 (.int v))) = mW a T (sF st 6 v) := rfl
theorem mset_7 (a : Nat → Nat) (T : mT3) (st : MS) (v : Int32) : (mW a T st).set 0 (a 0, .inr (11, (mFs a st).set 7 (.int v))) = mW a T (sF st 7 v) := rfl
theorem mset_8 (a : Nat → Nat) (T : mT3) (st : MS) (v : Int32) : (mW a T st).set 0 (a 0, .inr (11, (mFs a st).set 8 (.int v))) = mW a T (sF st 8 v) := rfl
theorem mset_17 (a : Nat → Nat) (T : mT3) (st : MS) (v : Int32) : (mW a T st).set 0 (a 0, .inr (11, (mFs a st).set 17 (.int v))) = mW a T (sF st 17 v) := rfl
theorem mset_19 (a : Nat → Nat) (T : mT3) (st : MS) (v : Int32) : (mW a T st).set 0 (a 0, .inr (11, (mFs a st).set 19 (.int v))) = mW a T (sF st 19 v) := rfl
theorem mset_20 (a : Nat → Nat) (T : mT3) (st : MS) (v : Int32) : (mW a T st).set 0 (a 0, .inr (11, (mFs a st).set 20 (.int v))) = mW a T (sF st 20 v) := rfl
theorem mset_21 (a : Nat → Nat) (T : mT3) (st : MS) (v : Int32) : (mW a T st).set 0 (a 0, .inr (11, (mFs a st).set 21 (.int v))) = mW a T (sF st 21 v) := rfl
theorem mset_22 (a : Nat → Nat) (T : mT3) (st : MS) (v : Int32) : (mW a T st).set 0 (a 0, .inr (11, (mFs a st).set 22 (.int v))) = mW a T (sF st 22 v) := rfl
theorem mset_28 (a : Nat → Nat) (T : mT3) (st : MS) (v : Int32) : (mW a T st).set 0 (a 0, .inr (11, (mFs a st).set 28 (.int v))) = mW a T (sF st 28 v) := rfl
theorem mset_29 (a : Nat → Nat) (T : mT3) (st : MS) (v : Int32) : (mW a T st).set 0 (a 0, .inr (11, (mFs a st).set 29 (.int v))) = mW a T (sF st 29 v) := rfl
theorem mset_30 (a : Nat → Nat) (T : mT3) (st : MS) (v : Int32) : (mW a T st).set 0 (a 0, .inr (11, (mFs a st).set 30 (.int v))) = mW a T (sF st 30 v) := rfl
theorem mset_31 (a : Nat → Nat) (T : mT3) (st : MS) (o : Option Nat) : (mW a T st).set 0 (a 0, .inr (11, (mFs a st).set 31 (mKv a o))) = mW a T (sK st o) := rfl
theorem mset_33 (a : Nat → Nat) (T : mT3) (st : MS) (v : Int32) : (mW a T st).set 0 (a 0, .inr (11, (mFs a st).set 33 (.int v))) = mW a T (sF st 33 v) := rfl
theorem mset_34 (a : Nat → Nat) (T : mT3) (st : MS) (v : Int32) : (mW a T st).set 0 (a 0, .inr (11, (mFs a st).set 34 (.int v))) = mW a T (sF st 34 v) := rfl
theorem mset_35 (a : Nat → Nat) (T : mT3) (st : MS) (v : Int32) : (mW a T st).set 0 (a 0, .inr (11, (mFs a st).set 35 (.int v))) = mW a T (sF st 35 v) := rfl
theorem maset_0 (a : Nat → Nat) (T : mT3) (st : MS) (i : Nat) (v : Int32) : (mW a T st).set 1 (a 1, .inl (T.1, 12, .inl (upd (gA st 0) i v))) = mW a T (sA st 0 i v) := rfl
theorem maset_1 (a : Nat → Nat) (T : mT3) (st : MS) (i : Nat) (v : Int32) : (mW a T st).set 2 (a 2, .inl (T.1, 12, .inl (upd (gA st 1) i v))) = mW a T (sA st 1 i v) := rfl
theorem maset_2 (a : Nat → Nat) (T : mT3) (st : MS) (i : Nat) (v : Int32) : (mW a T st).set 3 (a 3, .inl (T.1, 12, .inl (upd (gA st 2) i v))) = mW a T (sA st 2 i v) := rfl
theorem maset_3 (a : Nat → Nat) (T : mT3) (st : MS) (i : Nat) (v : Int32) : (mW a T st).set 4 (a 4, .inl (T.1, 12, .inl (upd (gA st 3) i v))) = mW a T (sA st 3 i v) := rfl
theorem maset_4 (a : Nat → Nat) (T : mT3) (st : MS) (i : Nat) (v : Int32) : (mW a T st).set 5 (a 5, .inl (T.1, 7, .inl (upd (gA st 4) i v))) = mW a T (sA st 4 i v) := rfl
theorem maset_9 (a : Nat → Nat) (T : mT3) (st : MS) (i : Nat) (v : Int32) : (mW a T st).set 6 (a 6, .inl (T.1, 6, .inl (upd (gA st 9) i v))) = mW a T (sA st 9 i v) := rfl
theorem maset_10 (a : Nat → Nat) (T : mT3) (st : MS) (i : Nat) (v : Int32) : (mW a T st).set 7 (a 7, .inl (T.1, 6, .inl (upd (gA st 10) i v))) = mW a T (sA st 10 i v) := rfl
theorem maset_11 (a : Nat → Nat) (T : mT3) (st : MS) (i : Nat) (v : Int32) : (mW a T st).set 8 (a 8, .inl (T.1, 8, .inl (upd (gA st 11) i v))) = mW a T (sA st 11 i v) := rfl
theorem maset_12 (a : Nat → Nat) (T : mT3) (st : MS) (i : Nat) (v : Int32) : (mW a T st).set 9 (a 9, .inl (T.1, 8, .inl (upd (gA st 12) i v))) = mW a T (sA st 12 i v) := rfl
theorem maset_13 (a : Nat → Nat) (T : mT3) (st : MS) (i : Nat) (v : Int32) : (mW a T st).set 10 (a 10, .inl (T.1, 8, .inl (upd (gA st 13) i v))) = mW a T (sA st 13 i v) := rfl
theorem maset_14 (a : Nat → Nat) (T : mT3) (st : MS) (i : Nat) (v : Int32) : (mW a T st).set 11 (a 11, .inl (T.1, 8, .inl (upd (gA st 14) i v))) = mW a T (sA st 14 i v) := rfl
theorem maset_15 (a : Nat → Nat) (T : mT3) (st : MS) (i : Nat) (v : Int32) : (mW a T st).set 12 (a 12, .inl (T.1, 8, .inl (upd (gA st 15) i v))) = mW a T (sA st 15 i v) := rfl
theorem maset_16 (a : Nat → Nat) (T : mT3) (st : MS) (i : Nat) (v : Int64) : (mW a T st).set 13 (a 13, .inl (T.2.1, 800, .inr (.inl (vp_updL (gL st 16) i v)))) = mW a T (sL st 16 i v) := rfl
theorem maset_18 (a : Nat → Nat) (T : mT3) (st : MS) (i : Nat) (v : Int32) : (mW a T st).set 14 (a 14, .inl (T.1, 12, .inl (upd (gA st 18) i v))) = mW a T (sA st 18 i v) := rfl
theorem maset_23 (a : Nat → Nat) (T : mT3) (st : MS) (i : Nat) (v : Int32) : (mW a T st).set 15 (a 15, .inl (T.1, 51, .inl (upd (gA st 23) i v))) = mW a T (sA st 23 i v) := rfl
theorem maset_24 (a : Nat → Nat) (T : mT3) (st : MS) (i : Nat) (v : Int32) : (mW a T st).set 16 (a 16, .inl (T.1, 51, .inl (upd (gA st 24) i v))) = mW a T (sA st 24 i v) := rfl
theorem maset_25 (a : Nat → Nat) (T : mT3) (st : MS) (i : Nat) (v : Int32) : (mW a T st).set 17 (a 17, .inl (T.1, 153, .inl (upd (gA st 25) i v))) = mW a T (sA st 25 i v) := rfl
theorem maset_26 (a : Nat → Nat) (T : mT3) (st : MS) (i : Nat) (v : Int32) : (mW a T st).set 18 (a 18, .inl (T.1, 47, .inl (upd (gA st 26) i v))) = mW a T (sA st 26 i v) := rfl
theorem maset_27 (a : Nat → Nat) (T : mT3) (st : MS) (i : Nat) (v : Int32) : (mW a T st).set 19 (a 19, .inl (T.1, 47, .inl (upd (gA st 27) i v))) = mW a T (sA st 27 i v) := rfl
theorem maset_32 (a : Nat → Nat) (T : mT3) (st : MS) (i : Nat) (v : Int32) : (mW a T st).set 20 (a 20, .inl (T.2.2, 4096, .inl (upd (gA st 32) i v))) = mW a T (sA st 32 i v) := rfl
theorem maset_36 (a : Nat → Nat) (T : mT3) (st : MS) (i : Nat) (v : Int64) : (mW a T st).set 21 (a 21, .inl (T.2.1, 100, .inr (.inl (vp_updL (gL st 36) i v)))) = mW a T (sL st 36 i v) := rfl
def akf (j : Nat) : Nat := if j = 18 then 26 else 27
def kin {γ : Type} (st : MS) (k : Nat → Option γ) : Option γ := if gK st = some 18 then k 18 else if gK st = some 19 then k 19 else none
theorem kin_h {γ : Type} {st : MS} {k : Nat → Option γ} {r : γ} (h : kin st k = some r) : (gK st = some 18 ∧ k 18 = some r) ∨ (gK st = some 19 ∧ k 19 = some r) := by
  unfold kin at h
  split at h
  · exact Or.inl ⟨by assumption, h⟩
  · split at h
    · exact Or.inr ⟨by assumption, h⟩
    · cases h
section MROWS
variable {p : Program} {l : Launch} {e : Env} {R : Room} {s : State} {m : MethodId} {args : Array Value} {below : List Frame} {meth : Method} {c : Code} {H : Heap} {locs : List Loc} {cells slots : Nat} {Q : State → Prop}
variable {pc : Nat} {ls : Array Slot} {rest : List Value} {A : Nat → Prop} {H0 : Heap} {cc : ByteArray} {index : Nat} {Ts : List Cond} {D : va_G} {a : Nat → Nat} {T : mT3} {st : MS}
theorem mg {k : Nat} {v : Value} (hx : p.tables.exec = Jvm.exec) (hb : c.code = cc) (hts : ∀ w ∈ Ts, w.before args s = true) (hin : ∀ w ∈ wsX110, w ∈ Ts) (hown : s.vm.findClass RX11 = some m.cls) (hK : va_K D vwCl (mT T) s) (hP : va_P D vwCl (mW a T st) H) (hk : k < 37) (hlink : (Cond.fieldLink RX11 index RX11 (TX11 k).2.1 (TX11 k).2.2.1).before args s = true) (hv : (mFs a st)[k]? = some v) (hdg : decode cc pc = .ok (.getfield index, 3)) (hd : (TX11 k).1 = RX11)
    (kk : W p l e R s m args below meth c H locs cells slots Q (F0 m (pc + 3) ls (v :: rest))) : W p l e R s m args below meth c H locs cells slots Q (F0 m pc ls (.ref (a 0) :: rest)) :=
  va_get (ci := 11) (C := RX11) (T := TX11) (N := 37) hx hb hts hin hown hK hP 0 rfl rfl k hk hlink (fun _ h => by rw [← hd]; exact h) hv hdg kk
theorem mp {k : Nat} {v : Int32} (hx : p.tables.exec = Jvm.exec) (hb : c.code = cc) (hts : ∀ w ∈ Ts, w.before args s = true) (hin : ∀ w ∈ wsX110, w ∈ Ts) (hown : s.vm.findClass RX11 = some m.cls) (hK : va_K D vwCl (mT T) s) (hP : va_P D vwCl (mW a T st) H) (hD : va_D A (mW a T st)) (hS : va_S A H0 H locs) (hk : k < 37) (hlink : (Cond.fieldLink RX11 index RX11 (TX11 k).2.1 (TX11 k).2.2.1).before args s = true) (hdg : decode cc pc = .ok (.putfield index, 3)) (hd : (TX11 k).1 = RX11) (hfin : (TX11 k).2.2.2 = false) (hn : narrow (tyX11 k) (.int v) = .int v) (hfit : fits (tyX11 k) (.int v) = true)
    (hset : (mW a T st).set 0 (a 0, .inr (11, (mFs a st).set k (.int v))) = mW a T (sF st k v))
    (kk : ∀ (H1 : Heap) (locs1 : List Loc), va_P D vwCl (mW a T (sF st k v)) H1 → va_D A (mW a T (sF st k v)) → va_S A H0 H1 locs1 → W p l e R s m args below meth c H1 locs1 cells slots Q (F0 m (pc + 3) ls rest)) : W p l e R s m args below meth c H locs cells slots Q (F0 m pc ls (.int v :: .ref (a 0) :: rest)) :=
  va_put (ci := 11) (C := RX11) (T := TX11) (N := 37) hx hb hts hin tyX11 tyX11_ok nmX11 hown hK hP hD hS 0 rfl rfl k hk hlink (fun _ h => by rw [← hd]; exact h) hfin (tyX11_ok k hk) hn hfit (by show k < 37; exact hk) hdg (fun H1 locs1 h1 h2 h3 => kk H1 locs1 (hset ▸ h1) (hset ▸ h2) h3)
theorem mpK {k : Nat} {o : Nat} (hx : p.tables.exec = Jvm.exec) (hb : c.code = cc) (hts : ∀ w ∈ Ts, w.before args s = true) (hin : ∀ w ∈ wsX110, w ∈ Ts) (hown : s.vm.findClass RX11 = some m.cls) (hK : va_K D vwCl (mT T) s) (hP : va_P D vwCl (mW a T st) H) (hD : va_D A (mW a T st)) (hS : va_S A H0 H locs) (hk : k < 37) (hlink : (Cond.fieldLink RX11 index RX11 (TX11 k).2.1 (TX11 k).2.2.1).before args s = true) (hdg : decode cc pc = .ok (.putfield index, 3)) (hd : (TX11 k).1 = RX11) (hfin : (TX11 k).2.2.2 = false) (hn : narrow (tyX11 k) (.ref (a o)) = .ref (a o)) (hfit : fits (tyX11 k) (.ref (a o)) = true)
    (hset : (mW a T st).set 0 (a 0, .inr (11, (mFs a st).set k (mKv a (some o)))) = mW a T (sK st (some o)))
    (kk : ∀ (H1 : Heap) (locs1 : List Loc), va_P D vwCl (mW a T (sK st (some o))) H1 → va_D A (mW a T (sK st (some o))) → va_S A H0 H1 locs1 → W p l e R s m args below meth c H1 locs1 cells slots Q (F0 m (pc + 3) ls rest)) : W p l e R s m args below meth c H locs cells slots Q (F0 m pc ls (.ref (a o) :: .ref (a 0) :: rest)) :=
  va_put (ci := 11) (C := RX11) (T := TX11) (N := 37) hx hb hts hin tyX11 tyX11_ok nmX11 hown hK hP hD hS 0 rfl rfl k hk hlink (fun _ h => by rw [← hd]; exact h) hfin (tyX11_ok k hk) hn hfit (by show k < 37; exact hk) hdg (fun H1 locs1 h1 h2 h3 => kk H1 locs1 (hset ▸ h1) (hset ▸ h2) h3)
theorem mal {k q n : Nat} {i : Int32} (hx : p.tables.exec = Jvm.exec) (hb : c.code = cc) (hK : va_K D vwCl (mT T) s) (hP : va_P D vwCl (mW a T st) H) (ha : (mW a T st)[q]? = some (a q, .inl (T.1, n, .inl (gA st k)))) (hin : vp_in i n) (hdg : decode cc pc = .ok (.iaload, 1))
    (kk : W p l e R s m args below meth c H locs cells slots Q (F0 m (pc + 1) ls (.int (gA st k i.toNatClampNeg) :: rest))) : W p l e R s m args below meth c H locs cells slots Q (F0 m pc ls (.int i :: .ref (a q) :: rest)) :=
  va_iald hx hb hK hP q 0 ha rfl hin hdg kk
theorem mzl {k q n : Nat} {i : Int32} (hx : p.tables.exec = Jvm.exec) (hb : c.code = cc) (hK : va_K D vwCl (mT T) s) (hP : va_P D vwCl (mW a T st) H) (ha : (mW a T st)[q]? = some (a q, .inl (T.2.2, n, .inl (gA st k)))) (hin : vp_in i n) (hdg : decode cc pc = .ok (.baload, 1))
    (kk : W p l e R s m args below meth c H locs cells slots Q (F0 m (pc + 1) ls (.int (gA st k i.toNatClampNeg) :: rest))) : W p l e R s m args below meth c H locs cells slots Q (F0 m pc ls (.int i :: .ref (a q) :: rest)) :=
  va_zald hx hb hK hP q 2 ha rfl hin hdg kk
theorem mll {k q n : Nat} {i : Int32} (hx : p.tables.exec = Jvm.exec) (hb : c.code = cc) (hK : va_K D vwCl (mT T) s) (hP : va_P D vwCl (mW a T st) H) (ha : (mW a T st)[q]? = some (a q, .inl (T.2.1, n, .inr (.inl (gL st k))))) (hin : vp_in i n) (hdg : decode cc pc = .ok (.laload, 1))
    (kk : W p l e R s m args below meth c H locs cells slots Q (F0 m (pc + 1) ls (.long (gL st k i.toNatClampNeg) :: rest))) : W p l e R s m args below meth c H locs cells slots Q (F0 m pc ls (.int i :: .ref (a q) :: rest)) :=
  va_lald hx hb hK hP q 1 ha rfl hin hdg kk
theorem mas {k q n : Nat} {i x : Int32} (hx : p.tables.exec = Jvm.exec) (hb : c.code = cc) (hK : va_K D vwCl (mT T) s) (hP : va_P D vwCl (mW a T st) H) (hD : va_D A (mW a T st)) (hS : va_S A H0 H locs) (ha : (mW a T st)[q]? = some (a q, .inl (T.1, n, .inl (gA st k))))
    (hset : (mW a T st).set q (a q, .inl (T.1, n, .inl (upd (gA st k) i.toNatClampNeg x))) = mW a T (sA st k i.toNatClampNeg x)) (hin : vp_in i n) (hdg : decode cc pc = .ok (.iastore, 1))
    (kk : ∀ (H1 : Heap) (locs1 : List Loc), va_P D vwCl (mW a T (sA st k i.toNatClampNeg x)) H1 → va_D A (mW a T (sA st k i.toNatClampNeg x)) → va_S A H0 H1 locs1 → W p l e R s m args below meth c H1 locs1 cells slots Q (F0 m (pc + 1) ls rest)) : W p l e R s m args below meth c H locs cells slots Q (F0 m pc ls (.int x :: .int i :: .ref (a q) :: rest)) :=
  va_iast hx hb hK hP hD hS q 0 ha rfl hin hdg (fun H1 locs1 h1 h2 h3 => kk H1 locs1 (hset ▸ h1) (hset ▸ h2) h3)
theorem mzs {k q n : Nat} {i x : Int32} (hx : p.tables.exec = Jvm.exec) (hb : c.code = cc) (hK : va_K D vwCl (mT T) s) (hP : va_P D vwCl (mW a T st) H) (hD : va_D A (mW a T st)) (hS : va_S A H0 H locs) (ha : (mW a T st)[q]? = some (a q, .inl (T.2.2, n, .inl (gA st k))))
    (hset : (mW a T st).set q (a q, .inl (T.2.2, n, .inl (upd (gA st k) i.toNatClampNeg (vp_nar .boolean x)))) = mW a T (sA st k i.toNatClampNeg (vp_nar .boolean x))) (hin : vp_in i n) (hdg : decode cc pc = .ok (.bastore, 1))
    (kk : ∀ (H1 : Heap) (locs1 : List Loc), va_P D vwCl (mW a T (sA st k i.toNatClampNeg (vp_nar .boolean x))) H1 → va_D A (mW a T (sA st k i.toNatClampNeg (vp_nar .boolean x))) → va_S A H0 H1 locs1 → W p l e R s m args below meth c H1 locs1 cells slots Q (F0 m (pc + 1) ls rest)) : W p l e R s m args below meth c H locs cells slots Q (F0 m pc ls (.int x :: .int i :: .ref (a q) :: rest)) :=
  va_zast hx hb hK hP hD hS q 2 ha rfl hin hdg (fun H1 locs1 h1 h2 h3 => kk H1 locs1 (hset ▸ h1) (hset ▸ h2) h3)
theorem mls {k q n : Nat} {i : Int32} {x : Int64} (hx : p.tables.exec = Jvm.exec) (hb : c.code = cc) (hK : va_K D vwCl (mT T) s) (hP : va_P D vwCl (mW a T st) H) (hD : va_D A (mW a T st)) (hS : va_S A H0 H locs) (ha : (mW a T st)[q]? = some (a q, .inl (T.2.1, n, .inr (.inl (gL st k)))))
    (hset : (mW a T st).set q (a q, .inl (T.2.1, n, .inr (.inl (vp_updL (gL st k) i.toNatClampNeg x)))) = mW a T (sL st k i.toNatClampNeg x)) (hin : vp_in i n) (hdg : decode cc pc = .ok (.lastore, 1))
    (kk : ∀ (H1 : Heap) (locs1 : List Loc), va_P D vwCl (mW a T (sL st k i.toNatClampNeg x)) H1 → va_D A (mW a T (sL st k i.toNatClampNeg x)) → va_S A H0 H1 locs1 → W p l e R s m args below meth c H1 locs1 cells slots Q (F0 m (pc + 1) ls rest)) : W p l e R s m args below meth c H locs cells slots Q (F0 m pc ls (.long x :: .int i :: .ref (a q) :: rest)) :=
  va_last hx hb hK hP hD hS q 1 ha rfl hin hdg (fun H1 locs1 h1 h2 h3 => kk H1 locs1 (hset ▸ h1) (hset ▸ h2) h3)
end MROWS
theorem sw_out {x : Int32} {lo hi : Int} (h : ∀ k : Int, lo ≤ k → k ≤ hi → ¬ x = Int32.ofInt k) : x.toInt < lo ∨ hi < x.toInt := Decidable.byContradiction fun hn => h x.toInt (by omega) (by omega) (Int32.ofInt_toInt x).symm

