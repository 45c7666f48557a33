/-! a ROW: its sort is field 0 of an MS, its elements row 1; rn is its size -/
def rFs (a : Nat → Nat) (st : MS) : List Value := [.int (gF st 0), .ref (a 1)]
def rW (a : Nat → Nat) (T : mT3) (rn : Nat) (st : MS) : va_W := [(a 0, .inr (7, rFs a st)), (a 1, .inl (T.1, rn, .inl (gA st 1)))]
theorem raset_1 (a : Nat → Nat) (T : mT3) (rn : Nat) (st : MS) (i : Nat) (v : Int32) : (rW a T rn st).set 1 (a 1, .inl (T.1, rn, .inl (upd (gA st 1) i v))) = rW a T rn (sA st 1 i v) := rfl
section RROWS
variable {p : Program} {l : Launch} {e : Env} {R : Room} {s : State} {m : MethodId} {args : Array Value} {below : List Frame} {meth : Method} {c : Code} {H : Heap} {locs : List Loc} {cells slots : Nat} {Q : State → Prop}
variable {pc : Nat} {ls : Array Slot} {rest : List Value} {A : Nat → Prop} {H0 : Heap} {cc : ByteArray} {index : Nat} {Ts : List Cond} {D : va_G} {a : Nat → Nat} {T : mT3} {rn : Nat} {st : MS}
theorem rg {k : Nat} {v : Value} (hx : p.tables.exec = Jvm.exec) (hb : c.code = cc) (hts : ∀ w ∈ Ts, w.before args s = true) (hin : ∀ w ∈ wsX70, w ∈ Ts) (hown : s.vm.findClass RX7 = some m.cls) (hK : va_K D vwCl (cT T) s) (hP : va_P D vwCl (rW a T rn st) H) (hk : k < 2) (hlink : (Cond.fieldLink RX7 index RX7 (TX7 k).2.1 (TX7 k).2.2.1).before args s = true) (hv : (rFs a st)[k]? = some v) (hdg : decode cc pc = .ok (.getfield index, 3)) (hd : (TX7 k).1 = RX7)
    (kk : W p l e R s m args below meth c H locs cells slots Q (F0 m (pc + 3) ls (v :: rest))) : W p l e R s m args below meth c H locs cells slots Q (F0 m pc ls (.ref (a 0) :: rest)) :=
  va_get (ci := 7) (C := RX7) (T := TX7) (N := 2) hx hb hts hin hown hK hP 0 rfl rfl k hk hlink (fun _ h => by rw [← hd]; exact h) hv hdg kk
theorem ral {k q n : Nat} {i : Int32} (hx : p.tables.exec = Jvm.exec) (hb : c.code = cc) (hK : va_K D vwCl (cT T) s) (hP : va_P D vwCl (rW a T rn st) H) (ha : (rW a T rn st)[q]? = some (a q, .inl (T.1, n, .inl (gA st k)))) (hin : vp_in i n) (hdg : decode cc pc = .ok (.iaload, 1))
    (kk : W p l e R s m args below meth c H locs cells slots Q (F0 m (pc + 1) ls (.int (gA st k i.toNatClampNeg) :: rest))) : W p l e R s m args below meth c H locs cells slots Q (F0 m pc ls (.int i :: .ref (a q) :: rest)) :=
  va_iald hx hb hK hP q 0 ha rfl hin hdg kk
theorem ras {k q n : Nat} {i x : Int32} (hx : p.tables.exec = Jvm.exec) (hb : c.code = cc) (hK : va_K D vwCl (cT T) s) (hP : va_P D vwCl (rW a T rn st) H) (hD : va_D A (rW a T rn st)) (hS : va_S A H0 H locs) (ha : (rW a T rn st)[q]? = some (a q, .inl (T.1, n, .inl (gA st k))))
    (hset : (rW a T rn st).set q (a q, .inl (T.1, n, .inl (upd (gA st k) i.toNatClampNeg x))) = rW a T rn (sA st k i.toNatClampNeg x)) (hin : vp_in i n) (hdg : decode cc pc = .ok (.iastore, 1))
    (kk : ∀ (H1 : Heap) (locs1 : List Loc), va_P D vwCl (rW a T rn (sA st k i.toNatClampNeg x)) H1 → va_D A (rW a T rn (sA st k i.toNatClampNeg x)) → va_S A H0 H1 locs1 → W p l e R s m args below meth c H1 locs1 cells slots Q (F0 m (pc + 1) ls rest)) : W p l e R s m args below meth c H locs cells slots Q (F0 m pc ls (.int x :: .int i :: .ref (a q) :: rest)) :=
  va_iast hx hb hK hP hD hS q 0 ha rfl hin hdg (fun H1 locs1 h1 h2 h3 => kk H1 locs1 (hset ▸ h1) (hset ▸ h2) h3)
end RROWS
