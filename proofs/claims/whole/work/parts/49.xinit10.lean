theorem foot_all {D : va_G} {H : Heap} {a : Nat → Nat} {T : mT3} {k : Nat} {st : MS} {r : va_W} (h : va_P D vwCl (tW a T (tFo k 12) st ++ r) H) : va_P D vwCl (tW a T (fun _ => some k) st ++ r) H := by
  have e : vp_cell T.2.1 (12, .inr (.inr (.inr (.inr (tFo k 12))))) = vp_cell T.2.1 (12, .inr (.inr (.inr (.inr (fun _ => some k))))) := by
    show arrV T.2.1 12 (fun j => va_rf (tFo k 12 j)) = arrV T.2.1 12 (fun j => va_rf (some k))
    exact congrArg (fun g : Fin 12 → Value => ({ cls := T.2.1, slots := Array.ofFn g, vm := .none } : Cell)) (funext fun j => by
      show va_rf (if j.val < 12 then some k else none) = va_rf (some k)
      rw [if_pos j.isLt])
  have h1 : va_at D vwCl (a 1, .inl (T.2.1, 12, .inr (.inr (.inr (.inr (tFo k 12)))))) H := h 1 _ rfl
  intro i q hi
  match i, hi with
  | 0, hi => exact h 0 q hi
  | 1, hi =>
    have hq : (a 1, (.inl (T.2.1, 12, .inr (.inr (.inr (.inr (fun _ => some k))))) : va_E)) = q := Option.some.inj hi
    rw [← hq]
    show H[a 1]? = some (vp_cell T.2.1 _)
    rw [← e]
    exact h1
  | i + 2, hi => exact h (i + 2) q hi
theorem foot_allD {A : Nat → Prop} {a : Nat → Nat} {T : mT3} {k : Nat} {st : MS} {r : va_W} (h : va_D A (tW a T (tFo k 12) st ++ r)) : va_D A (tW a T (fun _ => some k) st ++ r) := by
  rw [va_D_nodup] at h ⊢
  refine ⟨h.1, fun q hq => ?_⟩
  have : q.1 ∈ (tW a T (fun _ => some k) st ++ r).map Prod.fst := List.mem_map.mpr ⟨q, hq, rfl⟩
  have h2 : q.1 ∈ (tW a T (tFo k 12) st ++ r).map Prod.fst := this
  obtain ⟨q2, hq2, e2⟩ := List.mem_map.mp h2
  rw [← e2]
  exact h.2 q2 hq2
theorem pmT {α : Type} (t k q r : List α) : (t ++ (k ++ (q ++ r))).Perm (q ++ (r ++ (t ++ k))) := by
  rw [← List.append_assoc t k, ← List.append_assoc q r]
  exact List.perm_append_comm
theorem pmX {α : Type} (s t0 k0 t1 k1 t2 k2 c ka ra : List α) : (s ++ ((((((([] ++ (t0 ++ k0)) ++ (t1 ++ k1)) ++ (t2 ++ k2)) ++ c) ++ ka) ++ ra))).Perm (s ++ (ka ++ (ra ++ (t0 ++ (t1 ++ (t2 ++ (k0 ++ (k1 ++ (k2 ++ c))))))))) := by
  haveI : DecidableEq α := fun a b => Classical.propDecidable (a = b)
  rw [List.perm_iff_count]
  intro x
  simp only [List.count_append, List.count_nil]
  omega
def xs0 : XS := (fun _ => tS0, fun _ _ => (0, 0), 0, fun _ => none, fun _ => none)
section YTOWN
variable {p : Program} {l : Launch} {e : Env} {R : Room} {s : State} {m : MethodId} {args : Array Value} {below : List Frame} {meth : Method} {c : Code} {H : Heap} {locs : List Loc} {cells slots : Nat} {Q : State → Prop}
variable {pc : Nat} {ls : Array Slot} {rest : List Value} {A : Nat → Prop} {cc bytes : ByteArray} {nL maxL index : Nat} {Ts : List Cond} {own : String} {D : va_G} {q : Nat} {z : Nat → Nat} {T : mT3} {wd wr : va_W}
theorem y_town (hx : p.tables.exec = Jvm.exec) (hb : c.code = cc) (hml : c.maxLocals = nL) (hown : s.vm.findClass own = some m.cls) (hts : ∀ w ∈ Ts, w.before args s = true)
    (hM : iTown z l D T q) (cw : CallB R s args own index yX8_init bytes maxL none wsX8_init rmX8_init rmX8_init.cells rmX8_init.slots 0 ∧ yX8_init.name = "<init>" ∧ (Cond.instanceMethod yX8_init).before args s = true)
    (hK0 : va_K D vwCl (cT T) s) (hA : ∀ q : Nat, s.heap.size ≤ q → A q) (hX : xS z A s s.heap) (hAO : va_AO RX0 s) (hP : va_P D vwCl wd H) (hD : va_D A wd) (hS : va_S A s.heap H locs) (hp : wd.Perm ([(q, .inr (8, [.null, .null, .null, .null, .null, .null, .int 0, .int 0, .int 0, .int 0]))] ++ wr))
    (hsize : ls.size = nL) (hW : (rest.map fun v => v.category).sum ≤ 8) (hdg : decode cc pc = .ok (.invokespecial index, 3)) (hf : cells + 7 ≤ R.cells ∧ slots + 56 ≤ R.slots)
    (kk : ∀ (a : Nat → Nat) (k : Nat) (H1 : Heap) (locs1 : List Loc), a 0 = q → va_P D vwCl (tW a T (fun _ => some k) tS0 ++ ([(k, .inr (0, [.int 0]))] ++ wr)) H1 → va_D A (tW a T (fun _ => some k) tS0 ++ ([(k, (.inr (0, [.int 0]) : va_E))] ++ wr)) → va_S A s.heap H1 locs1 → W p l e R s m args below meth c H1 locs1 (cells + 7) (slots + 56) Q (F0 m (pc + 3) ls rest)) :
    W p l e R s m args below meth c H locs cells slots Q (F0 m pc ls (.ref q :: rest)) := by
  have hs0 : ∀ q9 ∈ [(q, (.inr (8, [.null, .null, .null, .null, .null, .null, .int 0, .int 0, .int 0, .int 0]) : va_E))], q9 ∈ wd := fun q9 hq => hp.mem_iff.mpr (List.mem_append_left _ hq)
  have hF := h_freeS (w0 := [(q, .inr (8, [.null, .null, .null, .null, .null, .null, .int 0, .int 0, .int 0, .int 0]))]) hD hS hA hs0
  have hP0 : va_P D vwCl [(q, .inr (8, [.null, .null, .null, .null, .null, .null, .int 0, .int 0, .int 0, .int 0]))] H := hP.mono hs0
  have hD0 := hD.sub2 hp
  refine va_callv (va_runI (As := []) (rest := rest) ⟨hx, hb, hml, hown, hts⟩ (hM H.size) cw ⟨?_, ?_⟩ rfl rfl hsize rfl (lv_room hW) hdg hf) hS (fun q _ h => hF q h) hF (fun u t H1 locs1 ht hvm hw hB hz1 hk1 hS1 => ?_)
  · intro a U g mk qq
    obtain ⟨h0, h1, h2, h3, h4, h5, h6⟩ := qq
    exact ⟨h0, h1, h2, va_K.moved (Vm.Alike.refl U.vm) h3, h4, h5.blind g mk a, va_AO.moved (Vm.Alike.refl U.vm) h6⟩
  · intro U hU hW
    exact ⟨rfl, by rw [hU], by rw [hU]; exact hP0, va_K.moved hW.alike hK0, hD0.weaken (fun _ _ _ _ => trivial), by rw [hU]; exact hX.pass hS hW hF, va_AO.moved hW.alike hAO⟩
  · obtain ⟨hP1, -, hD1⟩ := hB
    rw [ht] at hP1
    obtain ⟨h1, h2⟩ := h_after hP hD hp (List.Perm.refl _) hF hk1 hP1 hD1
    rw [List.append_assoc] at h1 h2
    exact kk u.1 u.2 H1 locs1 hw (foot_all h1) (foot_allD h2) hS1
end YTOWN
theorem dX10_init_0 : decode cX10_init 0 = .ok (.aload_n 0, 1) := by decide +kernel
theorem dX10_init_1 : decode cX10_init 1 = .ok (.invokespecial 1, 3) := by decide +kernel
theorem dX10_init_4 : decode cX10_init 4 = .ok (.aload_n 0, 1) := by decide +kernel
theorem dX10_init_5 : decode cX10_init 5 = .ok (.new 7, 3) := by decide +kernel
theorem dX10_init_8 : decode cX10_init 8 = .ok (.dup, 1) := by decide +kernel
theorem dX10_init_9 : decode cX10_init 9 = .ok (.invokespecial 9, 3) := by decide +kernel
theorem dX10_init_12 : decode cX10_init 12 = .ok (.putfield 10, 3) := by decide +kernel
theorem dX10_init_15 : decode cX10_init 15 = .ok (.aload_n 0, 1) := by decide +kernel
theorem dX10_init_16 : decode cX10_init 16 = .ok (.new 7, 3) := by decide +kernel
theorem dX10_init_19 : decode cX10_init 19 = .ok (.dup, 1) := by decide +kernel
theorem dX10_init_20 : decode cX10_init 20 = .ok (.invokespecial 9, 3) := by decide +kernel
theorem dX10_init_23 : decode cX10_init 23 = .ok (.putfield 16, 3) := by decide +kernel
theorem dX10_init_26 : decode cX10_init 26 = .ok (.aload_n 0, 1) := by decide +kernel
theorem dX10_init_27 : decode cX10_init 27 = .ok (.new 7, 3) := by decide +kernel
theorem dX10_init_30 : decode cX10_init 30 = .ok (.dup, 1) := by decide +kernel
theorem dX10_init_31 : decode cX10_init 31 = .ok (.invokespecial 9, 3) := by decide +kernel
theorem dX10_init_34 : decode cX10_init 34 = .ok (.putfield 19, 3) := by decide +kernel
theorem dX10_init_37 : decode cX10_init 37 = .ok (.aload_n 0, 1) := by decide +kernel
theorem dX10_init_38 : decode cX10_init 38 = .ok (.new 22, 3) := by decide +kernel
theorem dX10_init_41 : decode cX10_init 41 = .ok (.dup, 1) := by decide +kernel
theorem dX10_init_42 : decode cX10_init 42 = .ok (.iconst 0, 1) := by decide +kernel
theorem dX10_init_43 : decode cX10_init 43 = .ok (.invokespecial 24, 3) := by decide +kernel
theorem dX10_init_46 : decode cX10_init 46 = .ok (.putfield 27, 3) := by decide +kernel
theorem dX10_init_49 : decode cX10_init 49 = .ok (.aload_n 0, 1) := by decide +kernel
theorem dX10_init_50 : decode cX10_init 50 = .ok (.bipush 8, 2) := by decide +kernel
theorem dX10_init_52 : decode cX10_init 52 = .ok (.anewarray 31, 3) := by decide +kernel
theorem dX10_init_55 : decode cX10_init 55 = .ok (.putfield 33, 3) := by decide +kernel
theorem dX10_init_58 : decode cX10_init 58 = .ok (.aload_n 0, 1) := by decide +kernel
theorem dX10_init_59 : decode cX10_init 59 = .ok (.bipush 8, 2) := by decide +kernel
theorem dX10_init_61 : decode cX10_init 61 = .ok (.anewarray 37, 3) := by decide +kernel
theorem dX10_init_64 : decode cX10_init 64 = .ok (.putfield 39, 3) := by decide +kernel
theorem dX10_init_67 : decode cX10_init 67 = .ok (.return_, 1) := by decide +kernel
set_option maxRecDepth 20000 in
theorem ggX10_init_X8_init : GoodIn wsX10_init wsX8_init := goodIn_r _ [20, 21, 2, 3, 22, 23, 24, 25, 26, 27, 28, 29, 30, 31, 32, 33, 34, 35, 36, 37, 42, 43, 44, 45, 46, 47, 48, 49, 50, 51, 60, 61, 59, 62, 63, 64, 65, 66] (by decide +kernel) (by decide +kernel)
set_option maxRecDepth 20000 in
theorem gX10_init_X8_init : GoodIn wsX10_init (wsX8_init) := ggX10_init_X8_init
set_option maxRecDepth 20000 in
theorem ggX10_init_X2_init : GoodIn wsX10_init wsX2_init := goodIn_r _ [40, 41, 34, 31, 35, 36, 2, 3, 37, 60, 61, 59, 62, 63, 64, 65, 66] (by decide +kernel) (by decide +kernel)
set_option maxRecDepth 20000 in
theorem gX10_init_X2_init : GoodIn wsX10_init (wsX2_init) := ggX10_init_X2_init
abbrev rmX10_init : Room := { frames := 4, cells := 27, slots := 215, locals := 70 }
def iX10 (z : Nat → Nat) (l : Launch) (D : va_G) (T : mT3) (q : Nat) : Prop :=
    ∀ sz : Nat, Met l yX10_init wsX10_init rmX10_init (va_Pc [.ref q] (fun U => U.heap.size = sz ∧ va_P D vwCl [(q, .inr (10, [.null, .null, .null, .int 0, .null, .null, .null]))] U.heap ∧ va_K D vwCl (cT T) U ∧ va_D (fun _ => True) [(q, (.inr (10, [.null, .null, .null, .int 0, .null, .null, .null]) : va_E))] ∧ xS z (va_A [(q, .inr (10, [.null, .null, .null, .int 0, .null, .null, .null]))] sz) U U.heap ∧ va_AO RX0 U ∧ va_AO RX7 U))
      (va_Qv (fun (z : (Nat → Nat) × XA) => z.1 0 = q ∧ xRel z.1 z.2 xs0) (fun z t => va_P D vwCl (xW z.1 T z.2 xs0) t.heap ∧ va_K D vwCl (cT T) t ∧ va_D (va_A [(q, .inr (10, [.null, .null, .null, .int 0, .null, .null, .null]))] sz) (xW z.1 T z.2 xs0)) (va_A [(q, .inr (10, [.null, .null, .null, .int 0, .null, .null, .null]))] sz)) rmX10_init.cells rmX10_init.slots (va_A [(q, .inr (10, [.null, .null, .null, .int 0, .null, .null, .null]))] sz)
set_option maxRecDepth 100000 in
set_option maxHeartbeats 16000000 in
theorem okX10_init (z : Nat → Nat) (l : Launch) (D : va_G) (T : mT3) (q : Nat) : iX10 z l D T q := by
  intro sz
  refine Met_ofWF (cc := cX10_init) (maxL := 1) (ret := none) (plainFor_of_name (by decide)) rfl ?_
  intro p e s m args below meth c s₁ B hml hv
  obtain ⟨eargs, hsz, hP, hK, hD0, hX, hAO, hAO7⟩ := hv
  have hr := B.returns
  have hlocks := B.notSynchronized
  have hin : meth.name = "<init>" := (name_of_methodNamed B.named B.method).1
  subst hsz
  have hle := lv_entry [.ref q] (n := 1) (Nat.le_of_ble_eq_true rfl)
  rw [eargs, lg_entry_eq, ← eargs]
  have hx := B.exec
  have hb := B.bytes
  have hown : s.vm.findClass RX10 = some m.cls := findClass_of_methodNamed B.named
  have hts : ∀ w ∈ wsX10_init, w.before args s = true := atoms_spec (ws := wsX10_init) B.pre
  have hin8 : ∀ w ∈ wsX80, w ∈ wsX10_init := by decide +kernel
  have hin2 : ∀ w ∈ wsX20, w ∈ wsX10_init := by decide +kernel
  have hin10 : ∀ w ∈ wsX100, w ∈ wsX10_init := by decide +kernel
  have hw0 := hts (.classLink RX10 7 RX8) (by decide +kernel)
  have hw1 := hts (.instantiable RX8 10) (by decide +kernel)
  have hw2 := hts (.initialized RX8) (by decide +kernel)
  have hw3 := hts (.methodLink RX10 9 yX8_init) (by decide +kernel)
  have hw4 := hts (.instanceMethod yX8_init) (by decide +kernel)
  have hv0 := hts (.classLink RX10 22 RX2) (by decide +kernel)
  have hv1 := hts (.instantiable RX2 1) (by decide +kernel)
  have hv2 := hts (.initialized RX2) (by decide +kernel)
  have hv3 := hts (.methodLink RX10 24 yX2_init) (by decide +kernel)
  have hv4 := hts (.instanceMethod yX2_init) (by decide +kernel)
  obtain ⟨A, eA⟩ : ∃ A, A = va_A [(q, .inr (10, [.null, .null, .null, .int 0, .null, .null, .null]))] s.heap.size := ⟨_, rfl⟩
  have hA : ∀ q : Nat, s.heap.size ≤ q → A q := fun q h => by rw [eA]; exact Or.inr h
  have hD : va_D A [(q, (.inr (10, [.null, .null, .null, .int 0, .null, .null, .null]) : va_E))] := by rw [eA]; exact hD0.self
  rw [← eA] at hX ⊢
  obtain ⟨Q, eQ⟩ : ∃ Q, Q = MQ below (va_Qv (fun (z : (Nat → Nat) × XA) => z.1 0 = q ∧ xRel z.1 z.2 xs0) (fun z t => va_P D vwCl (xW z.1 T z.2 xs0) t.heap ∧ va_K D vwCl (cT T) t ∧ va_D A (xW z.1 T z.2 xs0)) A) args s rmX10_init.cells rmX10_init.slots A := ⟨_, rfl⟩
  have hret : ∀ (pc : Nat) (H : Heap) (locs : List Loc) (ls : Array Slot) (b : Nat → Nat) (xa : XA), b 0 = q → xRel b xa xs0 → va_P D vwCl (xW b T xa xs0) H → va_D A (xW b T xa xs0) → va_S A s.heap H locs → decode cX10_init pc = .ok (.return_, 1) →
      W p l e rmX10_init s m args below meth c H locs 27 215 Q (F0 m pc ls []) := fun pc H locs ls b xa ha hR hP1 hD1 hS hdg => by
    rw [eQ]
    exact W.vret B.exec B.bytes hr (fun t ht hW => ⟨⟨(b, xa), rfl, ⟨ha, hR⟩, by rw [ht]; exact hP1, va_K.moved hW.alike hK, hD1⟩, hS.F ht⟩) hS.2.2 hdg
  obtain ⟨ls, els⟩ : ∃ ls, ls = (lg_sl [.ref q] ++ List.replicate (1 - (lg_sl [.ref q]).length) Slot.unset).toArray := ⟨_, rfl⟩
  have hl : lv_has ls 1 [(0, .ref q)] := by rw [els]; exact hle
  rw [← els]
  have hS : va_S A s.heap s.heap [] := va_S.rf
  obtain ⟨H, hH⟩ : ∃ H, H = s.heap := ⟨_, rfl⟩
  obtain ⟨locs, hlocs⟩ : ∃ z : List Loc, z = [] := ⟨_, rfl⟩
  have hS : va_S A s.heap H locs := by rw [hH, hlocs]; exact hS
  have hP : va_P D vwCl ([(q, .inr (10, [.null, .null, .null, .int 0, .null, .null, .null]))] ++ []) H := by rw [hH]; exact hP
  have hD : va_D A ([(q, (.inr (10, [.null, .null, .null, .int 0, .null, .null, .null]) : va_E))] ++ []) := hD
  suffices h9 : W p l e rmX10_init s m args below meth c H locs 0 0 Q (F0 m 0 ls []) by rw [hH, hlocs, eQ] at h9; exact h9
  clear hH hlocs eQ
  refine lv_aload_n hx hb dX10_init_0 rfl (lv_at hl 0 rfl) ?_
  refine W.objInit hx hb hown (hts (.methodLink RX10 1 objectInit) (by decide +kernel)) (hts (.instanceMethod objectInit) (by decide +kernel)) (hts (.code objectInit ⟨#[0xb1]⟩ 1 none) (by decide +kernel)) rfl (by rw [hml]; exact hl.1) rfl dX10_init_1 (Nat.le_of_ble_eq_true rfl) (Nat.le_of_ble_eq_true rfl) ?_
  refine W.eq (g2 := F0 m 4 ls []) rfl ?_
  refine lv_aload_n hx hb dX10_init_4 rfl (lv_at hl 0 rfl) ?_
  refine va_new (ci := 8) (fs := [.null, .null, .null, .null, .null, .null, .int 0, .int 0, .int 0, .int 0]) (C := RX8) (T := TX8) (N := 10) hx hb hts hin8 tyX8 tyX8_ok hown hw0 hw1 hw2 hK hP hD hS hA rfl (fun j hj => by rcases (show j = 0 ∨ j = 1 ∨ j = 2 ∨ j = 3 ∨ j = 4 ∨ j = 5 ∨ j = 6 ∨ j = 7 ∨ j = 8 ∨ j = 9 by omega) with rfl | rfl | rfl | rfl | rfl | rfl | rfl | rfl | rfl | rfl <;> rfl) (Nat.le_of_ble_eq_true rfl) (Nat.le_of_ble_eq_true rfl) dX10_init_5 (fun t0 H hP hD hS => ?_)
  refine lv_dup hx hb dX10_init_8 rfl ?_
  refine y_town (own := RX10) (rest := [.ref t0, .ref q]) (wr := [(q, .inr (10, [.null, .null, .null, .int 0, .null, .null, .null]))] ++ ([])) hx hb hml hown hts (okX8_init z l D T t0) (cwI 0 hts gX10_init_X8_init rfl rfl rfl hw2 hw3 hw4 rfl (by decide +kernel) ⟨(Nat.le_of_ble_eq_true rfl), (Nat.le_of_ble_eq_true rfl)⟩) hK hA hX hAO hP hD hS List.perm_append_comm hl.1 (Nat.le_of_ble_eq_true rfl) dX10_init_9 ⟨(Nat.le_of_ble_eq_true rfl), (Nat.le_of_ble_eq_true rfl)⟩ (fun a0 k0 H locs ha0 hP hD hS => ?_)
  have hP := hP.perm (pmT _ _ _ _)
  have hD := hD.perm (pmT _ _ _ _)
  refine va_putF (D := D) (ci := 10) (v := .ref t0) (ty := tyX10 0) (C := RX10) (T := TX10) (N := 7) hx hb hts hin10 tyX10 tyX10_ok nmX10 hown hK hP hD hS 0 rfl rfl 0 (by decide) (hts (.fieldLink RX10 10 RX10 "now" "LLaidDownTheLane$Town;") (by decide +kernel)) (fun _ h9 => h9) rfl hin (by decide +kernel) (tyX10_ok 0 (by decide)) rfl rfl (Nat.le_of_ble_eq_true rfl) dX10_init_12 (fun H locs hP hD hS => ?_)
  have hP : va_P D vwCl ([(q, .inr (10, [.ref t0, .null, .null, .int 0, .null, .null, .null]))] ++ ([] ++ (tW a0 T (fun _ => some k0) tS0 ++ [(k0, (.inr (0, [.int 0]) : va_E))]))) H := hP
  have hD : va_D A ([(q, (.inr (10, [.ref t0, .null, .null, .int 0, .null, .null, .null]) : va_E))] ++ ([] ++ (tW a0 T (fun _ => some k0) tS0 ++ [(k0, (.inr (0, [.int 0]) : va_E))]))) := hD
  refine lv_aload_n hx hb dX10_init_15 rfl (lv_at hl 0 rfl) ?_
  refine va_new (ci := 8) (fs := [.null, .null, .null, .null, .null, .null, .int 0, .int 0, .int 0, .int 0]) (C := RX8) (T := TX8) (N := 10) hx hb hts hin8 tyX8 tyX8_ok hown hw0 hw1 hw2 hK hP hD hS hA rfl (fun j hj => by rcases (show j = 0 ∨ j = 1 ∨ j = 2 ∨ j = 3 ∨ j = 4 ∨ j = 5 ∨ j = 6 ∨ j = 7 ∨ j = 8 ∨ j = 9 by omega) with rfl | rfl | rfl | rfl | rfl | rfl | rfl | rfl | rfl | rfl <;> rfl) (Nat.le_of_ble_eq_true rfl) (Nat.le_of_ble_eq_true rfl) dX10_init_16 (fun t1 H hP hD hS => ?_)
  refine lv_dup hx hb dX10_init_19 rfl ?_
  refine y_town (own := RX10) (rest := [.ref t1, .ref q]) (wr := [(q, .inr (10, [.ref t0, .null, .null, .int 0, .null, .null, .null]))] ++ ([] ++ (tW a0 T (fun _ => some k0) tS0 ++ [(k0, (.inr (0, [.int 0]) : va_E))]))) hx hb hml hown hts (okX8_init z l D T t1) (cwI 0 hts gX10_init_X8_init rfl rfl rfl hw2 hw3 hw4 rfl (by decide +kernel) ⟨(Nat.le_of_ble_eq_true rfl), (Nat.le_of_ble_eq_true rfl)⟩) hK hA hX hAO hP hD hS List.perm_append_comm hl.1 (Nat.le_of_ble_eq_true rfl) dX10_init_20 ⟨(Nat.le_of_ble_eq_true rfl), (Nat.le_of_ble_eq_true rfl)⟩ (fun a1 k1 H locs ha1 hP hD hS => ?_)
  have hP := hP.perm (pmT _ _ _ _)
  have hD := hD.perm (pmT _ _ _ _)
  refine va_putF (D := D) (ci := 10) (v := .ref t1) (ty := tyX10 1) (C := RX10) (T := TX10) (N := 7) hx hb hts hin10 tyX10 tyX10_ok nmX10 hown hK hP hD hS 0 rfl rfl 1 (by decide) (hts (.fieldLink RX10 16 RX10 "trial" "LLaidDownTheLane$Town;") (by decide +kernel)) (fun _ h9 => h9) rfl hin (by decide +kernel) (tyX10_ok 1 (by decide)) rfl rfl (Nat.le_of_ble_eq_true rfl) dX10_init_23 (fun H locs hP hD hS => ?_)
  have hP : va_P D vwCl ([(q, .inr (10, [.ref t0, .ref t1, .null, .int 0, .null, .null, .null]))] ++ (([] ++ (tW a0 T (fun _ => some k0) tS0 ++ [(k0, (.inr (0, [.int 0]) : va_E))])) ++ (tW a1 T (fun _ => some k1) tS0 ++ [(k1, (.inr (0, [.int 0]) : va_E))]))) H := hP
  have hD : va_D A ([(q, (.inr (10, [.ref t0, .ref t1, .null, .int 0, .null, .null, .null]) : va_E))] ++ (([] ++ (tW a0 T (fun _ => some k0) tS0 ++ [(k0, (.inr (0, [.int 0]) : va_E))])) ++ (tW a1 T (fun _ => some k1) tS0 ++ [(k1, (.inr (0, [.int 0]) : va_E))]))) := hD
  refine lv_aload_n hx hb dX10_init_26 rfl (lv_at hl 0 rfl) ?_
  refine va_new (ci := 8) (fs := [.null, .null, .null, .null, .null, .null, .int 0, .int 0, .int 0, .int 0]) (C := RX8) (T := TX8) (N := 10) hx hb hts hin8 tyX8 tyX8_ok hown hw0 hw1 hw2 hK hP hD hS hA rfl (fun j hj => by rcases (show j = 0 ∨ j = 1 ∨ j = 2 ∨ j = 3 ∨ j = 4 ∨ j = 5 ∨ j = 6 ∨ j = 7 ∨ j = 8 ∨ j = 9 by omega) with rfl | rfl | rfl | rfl | rfl | rfl | rfl | rfl | rfl | rfl <;> rfl) (Nat.le_of_ble_eq_true rfl) (Nat.le_of_ble_eq_true rfl) dX10_init_27 (fun t2 H hP hD hS => ?_)
  refine lv_dup hx hb dX10_init_30 rfl ?_
  refine y_town (own := RX10) (rest := [.ref t2, .ref q]) (wr := [(q, .inr (10, [.ref t0, .ref t1, .null, .int 0, .null, .null, .null]))] ++ (([] ++ (tW a0 T (fun _ => some k0) tS0 ++ [(k0, (.inr (0, [.int 0]) : va_E))])) ++ (tW a1 T (fun _ => some k1) tS0 ++ [(k1, (.inr (0, [.int 0]) : va_E))]))) hx hb hml hown hts (okX8_init z l D T t2) (cwI 0 hts gX10_init_X8_init rfl rfl rfl hw2 hw3 hw4 rfl (by decide +kernel) ⟨(Nat.le_of_ble_eq_true rfl), (Nat.le_of_ble_eq_true rfl)⟩) hK hA hX hAO hP hD hS List.perm_append_comm hl.1 (Nat.le_of_ble_eq_true rfl) dX10_init_31 ⟨(Nat.le_of_ble_eq_true rfl), (Nat.le_of_ble_eq_true rfl)⟩ (fun a2 k2 H locs ha2 hP hD hS => ?_)
  have hP := hP.perm (pmT _ _ _ _)
  have hD := hD.perm (pmT _ _ _ _)
  refine va_putF (D := D) (ci := 10) (v := .ref t2) (ty := tyX10 2) (C := RX10) (T := TX10) (N := 7) hx hb hts hin10 tyX10 tyX10_ok nmX10 hown hK hP hD hS 0 rfl rfl 2 (by decide) (hts (.fieldLink RX10 19 RX10 "taken" "LLaidDownTheLane$Town;") (by decide +kernel)) (fun _ h9 => h9) rfl hin (by decide +kernel) (tyX10_ok 2 (by decide)) rfl rfl (Nat.le_of_ble_eq_true rfl) dX10_init_34 (fun H locs hP hD hS => ?_)
  have hP : va_P D vwCl ([(q, .inr (10, [.ref t0, .ref t1, .ref t2, .int 0, .null, .null, .null]))] ++ ((([] ++ (tW a0 T (fun _ => some k0) tS0 ++ [(k0, (.inr (0, [.int 0]) : va_E))])) ++ (tW a1 T (fun _ => some k1) tS0 ++ [(k1, (.inr (0, [.int 0]) : va_E))])) ++ (tW a2 T (fun _ => some k2) tS0 ++ [(k2, (.inr (0, [.int 0]) : va_E))]))) H := hP
  have hD : va_D A ([(q, (.inr (10, [.ref t0, .ref t1, .ref t2, .int 0, .null, .null, .null]) : va_E))] ++ ((([] ++ (tW a0 T (fun _ => some k0) tS0 ++ [(k0, (.inr (0, [.int 0]) : va_E))])) ++ (tW a1 T (fun _ => some k1) tS0 ++ [(k1, (.inr (0, [.int 0]) : va_E))])) ++ (tW a2 T (fun _ => some k2) tS0 ++ [(k2, (.inr (0, [.int 0]) : va_E))]))) := hD
  refine lv_aload_n hx hb dX10_init_37 rfl (lv_at hl 0 rfl) ?_
  refine va_new (ci := 2) (fs := [.int 0]) (C := RX2) (T := TX2) (N := 1) hx hb hts hin2 tyX2 tyX2_ok hown hv0 hv1 hv2 hK hP hD hS hA rfl (fun j hj => by rcases (show j = 0 by omega) with rfl <;> rfl) (Nat.le_of_ble_eq_true rfl) (Nat.le_of_ble_eq_true rfl) dX10_init_38 (fun cu H hP hD hS => ?_)
  refine lv_dup hx hb dX10_init_41 rfl ?_
  refine lv_iconst (v := (0 : Int32)) hx hb dX10_init_42 (by decide) ?_
  refine h_in (own := RX10) (As := [.int 0]) (rest := [.ref cu, .ref q]) (w0 := [(cu, .inr (2, [.int 0]))]) (w1 := [(cu, .inr (2, [.int 0]))]) (wr := [(q, .inr (10, [.ref t0, .ref t1, .ref t2, .int 0, .null, .null, .null]))] ++ ((([] ++ (tW a0 T (fun _ => some k0) tS0 ++ [(k0, (.inr (0, [.int 0]) : va_E))])) ++ (tW a1 T (fun _ => some k1) tS0 ++ [(k1, (.inr (0, [.int 0]) : va_E))])) ++ (tW a2 T (fun _ => some k2) tS0 ++ [(k2, (.inr (0, [.int 0]) : va_E))]))) (wd' := [(q, .inr (10, [.ref t0, .ref t1, .ref t2, .int 0, .null, .null, .null]))] ++ (((([] ++ (tW a0 T (fun _ => some k0) tS0 ++ [(k0, (.inr (0, [.int 0]) : va_E))])) ++ (tW a1 T (fun _ => some k1) tS0 ++ [(k1, (.inr (0, [.int 0]) : va_E))])) ++ (tW a2 T (fun _ => some k2) tS0 ++ [(k2, (.inr (0, [.int 0]) : va_E))])) ++ [(cu, (.inr (2, [.int 0]) : va_E))])) hx hb hml hown hts (okX2_init_2 z l D T cu 0 (0 : Int32)) (cwI 1 hts gX10_init_X2_init rfl rfl rfl hv2 hv3 hv4 rfl (by decide +kernel) ⟨(Nat.le_of_ble_eq_true rfl), (Nat.le_of_ble_eq_true rfl)⟩) hK hA hX hP hD hS List.perm_append_comm (by rw [← List.append_assoc [(q, .inr (10, [.ref t0, .ref t1, .ref t2, .int 0, .null, .null, .null]))] _ [(cu, (.inr (2, [.int 0]) : va_E))]]; exact List.perm_append_comm) rfl hl.1 rfl (Nat.le_of_ble_eq_true rfl) dX10_init_43 ⟨(Nat.le_of_ble_eq_true rfl), (Nat.le_of_ble_eq_true rfl)⟩ (fun H locs hP hD hS => ?_)
  refine va_putF (D := D) (ci := 10) (v := .ref cu) (ty := tyX10 4) (C := RX10) (T := TX10) (N := 7) hx hb hts hin10 tyX10 tyX10_ok nmX10 hown hK hP hD hS 0 rfl rfl 4 (by decide) (hts (.fieldLink RX10 27 RX10 "cut" "LLaidDownTheLane$Brick;") (by decide +kernel)) (fun _ h9 => h9) rfl hin (by decide +kernel) (tyX10_ok 4 (by decide)) rfl rfl (Nat.le_of_ble_eq_true rfl) dX10_init_46 (fun H locs hP hD hS => ?_)
  have hP : va_P D vwCl ([(q, .inr (10, [.ref t0, .ref t1, .ref t2, .int 0, .ref cu, .null, .null]))] ++ (((([] ++ (tW a0 T (fun _ => some k0) tS0 ++ [(k0, (.inr (0, [.int 0]) : va_E))])) ++ (tW a1 T (fun _ => some k1) tS0 ++ [(k1, (.inr (0, [.int 0]) : va_E))])) ++ (tW a2 T (fun _ => some k2) tS0 ++ [(k2, (.inr (0, [.int 0]) : va_E))])) ++ [(cu, (.inr (2, [.int 0]) : va_E))])) H := hP
  have hD : va_D A ([(q, (.inr (10, [.ref t0, .ref t1, .ref t2, .int 0, .ref cu, .null, .null]) : va_E))] ++ (((([] ++ (tW a0 T (fun _ => some k0) tS0 ++ [(k0, (.inr (0, [.int 0]) : va_E))])) ++ (tW a1 T (fun _ => some k1) tS0 ++ [(k1, (.inr (0, [.int 0]) : va_E))])) ++ (tW a2 T (fun _ => some k2) tS0 ++ [(k2, (.inr (0, [.int 0]) : va_E))])) ++ [(cu, (.inr (2, [.int 0]) : va_E))])) := hD
  refine lv_aload_n hx hb dX10_init_49 rfl (lv_at hl 0 rfl) ?_
  refine lv_bipush (v := (8 : Int32)) hx hb dX10_init_50 (by decide) ?_
  refine va_newq (C := RX0) (N' := 8) hx hb hown (hts (.classLink RX10 31 RX0) (by decide +kernel)) hAO hK hP hD hS hA (by decide) (by decide) (by decide) (Nat.le_of_ble_eq_true rfl) (Nat.le_of_ble_eq_true rfl) dX10_init_52 (fun ka cA H hK2 hP hD hS => ?_)
  have hcA : cA = T.2.1 := cA_eqO hK2 (i := 3) (j := 1) rfl rfl
  subst hcA
  clear hK2
  rw [List.append_assoc] at hP hD
  refine va_putF (D := D) (ci := 10) (v := .ref ka) (ty := tyX10 5) (C := RX10) (T := TX10) (N := 7) hx hb hts hin10 tyX10 tyX10_ok nmX10 hown hK hP hD hS 0 rfl rfl 5 (by decide) (hts (.fieldLink RX10 33 RX10 "kinds" "[LLaidDownTheLane$Brick;") (by decide +kernel)) (fun _ h9 => h9) rfl hin (by decide +kernel) (tyX10_ok 5 (by decide)) rfl rfl (Nat.le_of_ble_eq_true rfl) dX10_init_55 (fun H locs hP hD hS => ?_)
  have hP : va_P D vwCl ([(q, .inr (10, [.ref t0, .ref t1, .ref t2, .int 0, .ref cu, .ref ka, .null]))] ++ ((((([] ++ (tW a0 T (fun _ => some k0) tS0 ++ [(k0, (.inr (0, [.int 0]) : va_E))])) ++ (tW a1 T (fun _ => some k1) tS0 ++ [(k1, (.inr (0, [.int 0]) : va_E))])) ++ (tW a2 T (fun _ => some k2) tS0 ++ [(k2, (.inr (0, [.int 0]) : va_E))])) ++ [(cu, (.inr (2, [.int 0]) : va_E))]) ++ [(ka, (.inl (T.2.1, 8, .inr (.inr (.inr (.inr (fun _ => none))))) : va_E))])) H := hP
  have hD : va_D A ([(q, (.inr (10, [.ref t0, .ref t1, .ref t2, .int 0, .ref cu, .ref ka, .null]) : va_E))] ++ ((((([] ++ (tW a0 T (fun _ => some k0) tS0 ++ [(k0, (.inr (0, [.int 0]) : va_E))])) ++ (tW a1 T (fun _ => some k1) tS0 ++ [(k1, (.inr (0, [.int 0]) : va_E))])) ++ (tW a2 T (fun _ => some k2) tS0 ++ [(k2, (.inr (0, [.int 0]) : va_E))])) ++ [(cu, (.inr (2, [.int 0]) : va_E))]) ++ [(ka, (.inl (T.2.1, 8, .inr (.inr (.inr (.inr (fun _ => none))))) : va_E))])) := hD
  refine lv_aload_n hx hb dX10_init_58 rfl (lv_at hl 0 rfl) ?_
  refine lv_bipush (v := (8 : Int32)) hx hb dX10_init_59 (by decide) ?_
  refine va_newq (C := RX7) (N' := 8) hx hb hown (hts (.classLink RX10 37 RX7) (by decide +kernel)) hAO7 hK hP hD hS hA (by decide) (by decide) (by decide) (Nat.le_of_ble_eq_true rfl) (Nat.le_of_ble_eq_true rfl) dX10_init_61 (fun ra cA H hK2 hP hD hS => ?_)
  have hcA : cA = T.2.2 := cA_eqO hK2 (i := 3) (j := 2) rfl rfl
  subst hcA
  clear hK2
  rw [List.append_assoc] at hP hD
  refine va_putF (D := D) (ci := 10) (v := .ref ra) (ty := tyX10 6) (C := RX10) (T := TX10) (N := 7) hx hb hts hin10 tyX10 tyX10_ok nmX10 hown hK hP hD hS 0 rfl rfl 6 (by decide) (hts (.fieldLink RX10 39 RX10 "rows" "[LLaidDownTheLane$Row;") (by decide +kernel)) (fun _ h9 => h9) rfl hin (by decide +kernel) (tyX10_ok 6 (by decide)) rfl rfl (Nat.le_of_ble_eq_true rfl) dX10_init_64 (fun H locs hP hD hS => ?_)
  have hP : va_P D vwCl ([(q, .inr (10, [.ref t0, .ref t1, .ref t2, .int 0, .ref cu, .ref ka, .ref ra]))] ++ (((((([] ++ (tW a0 T (fun _ => some k0) tS0 ++ [(k0, (.inr (0, [.int 0]) : va_E))])) ++ (tW a1 T (fun _ => some k1) tS0 ++ [(k1, (.inr (0, [.int 0]) : va_E))])) ++ (tW a2 T (fun _ => some k2) tS0 ++ [(k2, (.inr (0, [.int 0]) : va_E))])) ++ [(cu, (.inr (2, [.int 0]) : va_E))]) ++ [(ka, (.inl (T.2.1, 8, .inr (.inr (.inr (.inr (fun _ => none))))) : va_E))]) ++ [(ra, (.inl (T.2.2, 8, .inr (.inr (.inr (.inr (fun _ => none))))) : va_E))])) H := hP
  have hD : va_D A ([(q, (.inr (10, [.ref t0, .ref t1, .ref t2, .int 0, .ref cu, .ref ka, .ref ra]) : va_E))] ++ (((((([] ++ (tW a0 T (fun _ => some k0) tS0 ++ [(k0, (.inr (0, [.int 0]) : va_E))])) ++ (tW a1 T (fun _ => some k1) tS0 ++ [(k1, (.inr (0, [.int 0]) : va_E))])) ++ (tW a2 T (fun _ => some k2) tS0 ++ [(k2, (.inr (0, [.int 0]) : va_E))])) ++ [(cu, (.inr (2, [.int 0]) : va_E))]) ++ [(ka, (.inl (T.2.1, 8, .inr (.inr (.inr (.inr (fun _ => none))))) : va_E))]) ++ [(ra, (.inl (T.2.2, 8, .inr (.inr (.inr (.inr (fun _ => none))))) : va_E))])) := hD
  obtain ⟨b, eb⟩ : ∃ b : Nat → Nat, b = fun j => if j = 0 then q else if j = 1 then ka else if j = 2 then ra else if j < 10 then a0 (j - 3) else if j < 17 then a1 (j - 10) else if j < 24 then a2 (j - 17) else cu := ⟨_, rfl⟩
  obtain ⟨xa, exa⟩ : ∃ xa : XA, xa = (fun i _ => if i = 0 then k0 else if i = 1 then k1 else k2, [(k0, (0, 0)), (k1, (0, 0)), (k2, (0, 0)), (cu, (1, 0))], fun _ => none, fun _ => none, fun _ _ => 0) := ⟨_, rfl⟩
  have hw : (xW b T xa xs0) = [(q, .inr (10, [.ref t0, .ref t1, .ref t2, .int 0, .ref cu, .ref ka, .ref ra]))] ++ ([(ka, (.inl (T.2.1, 8, .inr (.inr (.inr (.inr (fun _ => none))))) : va_E))] ++ ([(ra, (.inl (T.2.2, 8, .inr (.inr (.inr (.inr (fun _ => none))))) : va_E))] ++ (tW a0 T (fun _ => some k0) tS0 ++ (tW a1 T (fun _ => some k1) tS0 ++ (tW a2 T (fun _ => some k2) tS0 ++ ([(k0, (.inr (0, [.int 0]) : va_E))] ++ ([(k1, (.inr (0, [.int 0]) : va_E))] ++ ([(k2, (.inr (0, [.int 0]) : va_E))] ++ [(cu, (.inr (2, [.int 0]) : va_E))])))))))) := by
    rw [eb, exa, ← ha0, ← ha1, ← ha2]
    rfl
  have hP : va_P D vwCl (xW b T xa xs0) H := by rw [hw]; exact hP.perm (pmX _ _ _ _ _ _ _ _ _ _)
  have hD : va_D A (xW b T xa xs0) := by rw [hw]; exact hD.perm (pmX _ _ _ _ _ _ _ _ _ _)
  have hR : xRel b xa xs0 := by
    rw [exa, eb]
    refine ⟨fun i hi j hj => ?_, fun d hd => rfl, fun d hd => rfl, ?_, ?_⟩
    · rcases (show i = 0 ∨ i = 1 ∨ i = 2 by omega) with rfl | rfl | rfl
      · exact List.mem_cons_self
      · exact List.mem_cons_of_mem _ List.mem_cons_self
      · exact List.mem_cons_of_mem _ (List.mem_cons_of_mem _ List.mem_cons_self)
    · exact List.mem_cons_of_mem _ (List.mem_cons_of_mem _ (List.mem_cons_of_mem _ List.mem_cons_self))
    · intro z hz
      simp only [xPl, List.mem_cons, List.not_mem_nil, or_false] at hz
      rcases hz with rfl | rfl | rfl | rfl <;> exact Nat.le_of_ble_eq_true rfl
  exact hret 67 H locs ls b xa (by rw [eb]; rfl) hR hP hD hS dX10_init_67
