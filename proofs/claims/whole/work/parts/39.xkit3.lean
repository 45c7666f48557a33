/-! own rows: what shelves get -/
def xKset (xa : XA) (d : Nat) (oa : Option Nat) : XA := (xa.1, xa.2.1, va_up xa.2.2.1 d oa, xa.2.2.2)
def xRset (xa : XA) (d : Nat) (oa : Option Nat) : XA := (xa.1, xa.2.1, xa.2.2.1, va_up xa.2.2.2.1 d oa, xa.2.2.2.2)
def xRnew (xa : XA) (d q qa : Nat) : XA := (xa.1, xa.2.1, xa.2.2.1, va_up xa.2.2.2.1 d (some q), fun e j => if e = d then (if j = 0 then q else qa) else xa.2.2.2.2 e j)
theorem xRel_kset {b : Nat → Nat} {xa : XA} {xs : XS} (h : xRel b xa xs) {d : Nat} {o : Option BK} {oa : Option Nat} (ho : onB (xPl xa) o oa) : xRel b (xKset xa d oa) (uK xs d o) := by
  refine ⟨h.1, fun e he => ?_, h.2.2⟩
  show onB (xPl xa) (if e = d then o else xs.2.2.2.1 e) (if e = d then oa else xa.2.2.1 e)
  by_cases h1 : e = d
  · rw [if_pos h1, if_pos h1]; exact ho
  · rw [if_neg h1, if_neg h1]; exact h.2.1 e he
theorem xRel_rset {b : Nat → Nat} {xa : XA} {xs : XS} (h : xRel b xa xs) {d : Nat} : xRel b (xRset xa d none) (uR xs d none) := by
  refine ⟨h.1, h.2.1, fun e he => ?_, h.2.2.2⟩
  rw [xR_uR]
  show (if e = d then none else xa.2.2.2.1 e) = _
  by_cases h1 : e = d
  · rw [if_pos h1, if_pos h1]; rfl
  · rw [if_neg h1, if_neg h1]; exact h.2.2.1 e he
theorem xRel_rnew {b : Nat → Nat} {xa : XA} {xs : XS} (h : xRel b xa xs) {d q qa : Nat} {z : Nat × MS} : xRel b (xRnew xa d q qa) (uR xs d (some z)) := by
  refine ⟨h.1, h.2.1, fun e he => ?_, h.2.2.2⟩
  rw [xR_uR]
  show (if e = d then some q else xa.2.2.2.1 e) = Option.map (fun _ => if e = d then (if 0 = 0 then q else qa) else xa.2.2.2.2 e 0) _
  by_cases h1 : e = d
  · rw [if_pos h1, if_pos h1, if_pos h1]; rfl
  · rw [if_neg h1, if_neg h1, if_neg h1]; exact h.2.2.1 e he
theorem xRs_sub (T : mT3) (xa : XA) (xs : XS) (d : Nat) (ds : List Nat) : (xRs T xa (uR xs d none) ds).Sublist (xRs T xa xs ds) := by
  induction ds with
  | nil => exact List.Sublist.slnil
  | cons e ds ih =>
    show (xRow T xa (uR xs d none) e ++ xRs T xa (uR xs d none) ds).Sublist (xRow T xa xs e ++ xRs T xa xs ds)
    refine List.Sublist.append ?_ ih
    unfold xRow
    rw [xR_uR]
    by_cases h : e = d
    · rw [if_pos h]; exact List.nil_sublist _
    · rw [if_neg h]; exact List.Sublist.refl _
theorem xW_sub (b : Nat → Nat) (T : mT3) (xa : XA) (xs : XS) (d : Nat) : (xW b T xa (uR xs d none)).Sublist (xW b T xa xs) := by
  unfold xW
  exact (List.Sublist.refl _).append ((List.Sublist.refl _).append ((List.Sublist.refl _).append ((List.Sublist.refl _).append ((xRs_sub T xa xs d _).append (List.Sublist.refl _)))))
theorem va_D.subl {A : Nat → Prop} {w w' : va_W} (h : va_D A w) (hs : w'.Sublist w) : va_D A w' := by
  have h1 := va_D_nodup.mp h
  exact va_D_nodup.mpr ⟨(hs.map Prod.fst).nodup h1.1, fun q hq => h1.2 q (hs.subset hq)⟩
theorem va_P.subl {D : va_G} {cl : List vw_C} {w w' : va_W} {H : Heap} (h : va_P D cl w H) (hs : w'.Sublist w) : va_P D cl w' H := h.mono fun _ hq => hs.subset hq
theorem xRs_congr2 (T : mT3) (xa xa' : XA) (xs xs' : XS) (ds : List Nat) (h : ∀ d ∈ ds, xR xs d = xR xs' d ∧ xRa xa d = xRa xa' d) : xRs T xa xs ds = xRs T xa' xs' ds := by
  induction ds with
  | nil => rfl
  | cons d ds ih =>
    have h1 : xRow T xa xs d = xRow T xa' xs' d := by unfold xRow; rw [(h d List.mem_cons_self).1, (h d List.mem_cons_self).2]
    show xRow T xa xs d ++ xRs T xa xs ds = xRow T xa' xs' d ++ xRs T xa' xs' ds
    rw [h1, ih fun j hj => h j (List.mem_cons_of_mem _ hj)]
theorem xRow_none (T : mT3) (xa : XA) (xs : XS) (d : Nat) (h : xR xs d = none) : xRow T xa xs d = [] := by unfold xRow; rw [h]
/-- a new ROW comes to a shelf whose old one is gone -/
theorem xqN (b : Nat → Nat) (T : mT3) (xa : XA) (xs : XS) {d : Nat} (hd : d < 8) (q qa n : Nat) (ms : MS) : (rW (fun j => if j = 0 then q else qa) T n ms ++ xW b T (xRset xa d (some q)) (uR xs d none)).Perm (xW b T (xRnew xa d q qa) (uR xs d (some (n, ms)))) := by
  have hz : xR (uR xs d (some (n, ms))) d = some (n, ms) := by rw [xR_uR, if_pos rfl]
  refine List.Perm.trans ?_ (xpR b T (xRnew xa d q qa) (uR xs d (some (n, ms))) hd hz).symm
  have hra : xRa (xRnew xa d q qa) d = (fun j => if j = 0 then q else qa) := by
    funext j
    show (if d = d then (if j = 0 then q else qa) else xa.2.2.2.2 d j) = _
    rw [if_pos rfl]
  rw [hra]
  refine List.Perm.append_left _ ?_
  have h1 : (xRs T (xRset xa d (some q)) (uR xs d none) (List.range 8)).Perm (xRs T (xRnew xa d q qa) (uR xs d (some (n, ms))) ((List.range 8).erase d)) := by
    refine (xRs_perm T _ _ (List.perm_cons_erase (List.mem_range.mpr hd))).trans ?_
    show (xRow T (xRset xa d (some q)) (uR xs d none) d ++ xRs T (xRset xa d (some q)) (uR xs d none) ((List.range 8).erase d)).Perm _
    rw [xRow_none T _ _ d (by rw [xR_uR, if_pos rfl]), List.nil_append]
    rw [xRs_congr2 T (xRset xa d (some q)) (xRnew xa d q qa) (uR xs d none) (uR xs d (some (n, ms))) ((List.range 8).erase d) (fun j hj => by
      have hne : j ≠ d := fun h => by
        subst h
        exact absurd hj (List.Nodup.not_mem_erase List.nodup_range)
      refine ⟨by rw [xR_uR, xR_uR, if_neg hne, if_neg hne], ?_⟩
      funext i
      show xa.2.2.2.2 j i = (if j = d then (if i = 0 then q else qa) else xa.2.2.2.2 j i)
      rw [if_neg hne])]
  unfold xW xWrR
  exact (pm4 _ _ _ _ _ _).trans (h1.append_right _)
theorem cA_eq {D : va_G} {cl : List vw_C} {tys : List (ClassId × FieldType)} {U : State} (h : va_K D cl tys U) {i j : Nat} {c1 c2 : ClassId} (h1 : tys[i]? = some (c1, .int)) (h2 : tys[j]? = some (c2, .int)) : c1 = c2 := by
  have a1 := (h.2 i _ h1).2
  have a2 := (h.2 j _ h2).2
  exact Option.some.inj (a1.symm.trans a2)
def nwar {γ : Type} (n : Int32) (X : Option γ) : Option γ := if n < 0 ∨ 100 < n.toNatClampNeg then none else X
theorem nwar_h {γ : Type} {n : Int32} {X : Option γ} {r : γ} (h : nwar n X = some r) : ¬ n < 0 ∧ n.toNatClampNeg ≤ 100 ∧ X = some r := by
  unfold nwar at h
  split at h
  · cases h
  · next hc => exact ⟨fun g => hc (Or.inl g), Nat.le_of_not_lt fun g => hc (Or.inr g), h⟩
def sAA (st : MS) (k : Nat) (f : Nat → Int32) : MS := (st.1, fun j => if j = k then f else st.2.1 j, st.2.2.1, st.2.2.2)
def mNew (v : Int32) : MS := (fun _ => v, fun _ _ => 0, fun _ _ => 0, none)
def cpk {γ : Type} (sp dp n : Int32) (n0 n1 : Nat) (X : Option γ) : Option γ := if sp < 0 ∨ dp < 0 ∨ n < 0 ∨ n0 < sp.toNatClampNeg + n.toNatClampNeg ∨ n1 < dp.toNatClampNeg + n.toNatClampNeg then none else X
theorem cpk_h {γ : Type} {sp dp n : Int32} {n0 n1 : Nat} {X : Option γ} {r : γ} (h : cpk sp dp n n0 n1 X = some r) : (¬ sp < 0 ∧ ¬ dp < 0 ∧ ¬ n < 0 ∧ sp.toNatClampNeg + n.toNatClampNeg ≤ n0 ∧ dp.toNatClampNeg + n.toNatClampNeg ≤ n1) ∧ X = some r := by
  unfold cpk at h
  split at h
  · cases h
  · next hc =>
    refine ⟨⟨fun g => hc (Or.inl g), fun g => hc (Or.inr (Or.inl g)), fun g => hc (Or.inr (Or.inr (Or.inl g))), Nat.le_of_not_lt fun g => hc (Or.inr (Or.inr (Or.inr (Or.inl g)))), Nat.le_of_not_lt fun g => hc (Or.inr (Or.inr (Or.inr (Or.inr g))))⟩, h⟩
section XSHELF
variable {p : Program} {l : Launch} {e : Env} {R : Room} {s : State} {m : MethodId} {args : Array Value} {below : List Frame} {meth : Method} {c : Code} {H : Heap} {locs : List Loc} {cells slots : Nat} {Q : State → Prop}
variable {pc : Nat} {ls : Array Slot} {rest : List Value} {A : Nat → Prop} {cc : ByteArray} {index : Nat} {own : String} {D : va_G} {z b : Nat → Nat} {T : mT3} {xa : XA} {xs : XS}
theorem x_kst (hx : p.tables.exec = Jvm.exec) (hb : c.code = cc) (hK : va_K D vwCl (cT T) s) (hX : xS z A s s.heap) (hP : va_P D vwCl (xW b T xa xs) H) (hD : va_D A (xW b T xa xs)) (hS : va_S A s.heap H locs) {o : Option BK} {oa : Option Nat} (ho : onB (xPl xa) o oa) (hR : xRel b xa xs) {i : Int32} (hin : vp_in i 8) (hdg : decode cc pc = .ok (.aastore, 1))
    (kk : ∀ (H1 : Heap) (locs1 : List Loc), va_P D vwCl (xW b T (xKset xa i.toNatClampNeg oa) (uK xs i.toNatClampNeg o)) H1 → va_D A (xW b T (xKset xa i.toNatClampNeg oa) (uK xs i.toNatClampNeg o)) → va_S A s.heap H1 locs1 → W p l e R s m args below meth c H1 locs1 cells slots Q (F0 m (pc + 1) ls rest)) : W p l e R s m args below meth c H locs cells slots Q (F0 m pc ls (va_rf oa :: .int i :: .ref (b 1) :: rest)) := by
  cases o with
  | none =>
    have ho : oa = none := ho
    subst ho
    exact va_astqN (C := RX0) (f := xKa xa) hx hb hK hP hD hS 1 1 rfl rfl hin hdg kk
  | some k =>
    obtain ⟨q, rfl, hq⟩ := ho
    exact x_aast (f := xKa xa) hx hb hK hX hP hD hS 1 (xMem b T xs hq) (hR.2.2.2.2 _ hq) rfl hin hdg kk
theorem x_rstN (hx : p.tables.exec = Jvm.exec) (hb : c.code = cc) (hK : va_K D vwCl (cT T) s) (hP : va_P D vwCl (xW b T xa xs) H) (hD : va_D A (xW b T xa xs)) (hS : va_S A s.heap H locs) {i : Int32} (hin : vp_in i 8) (hdg : decode cc pc = .ok (.aastore, 1))
    (kk : ∀ (H1 : Heap) (locs1 : List Loc), va_P D vwCl (xW b T (xRset xa i.toNatClampNeg none) (uR xs i.toNatClampNeg none)) H1 → va_D A (xW b T (xRset xa i.toNatClampNeg none) (uR xs i.toNatClampNeg none)) → va_S A s.heap H1 locs1 → W p l e R s m args below meth c H1 locs1 cells slots Q (F0 m (pc + 1) ls rest)) : W p l e R s m args below meth c H locs cells slots Q (F0 m pc ls (.null :: .int i :: .ref (b 2) :: rest)) := by
  refine va_astqN (C := RX7) (f := xRo xa) hx hb hK hP hD hS 2 2 rfl rfl hin hdg (fun H1 locs1 h1 h2 h3 => ?_)
  have h1 : va_P D vwCl (xW b T (xRset xa i.toNatClampNeg none) xs) H1 := h1
  have h2 : va_D A (xW b T (xRset xa i.toNatClampNeg none) xs) := h2
  exact kk H1 locs1 (h1.subl (xW_sub ..)) (h2.subl (xW_sub ..)) h3
theorem x_copy (hx : p.tables.exec = Jvm.exec) (hb : c.code = cc) (hml : c.maxLocals = ls.size) (hown : s.vm.findClass own = some m.cls) (hlink : (Cond.methodLink own index arraycopyName).before args s = true) (hnat : (Cond.native arraycopyName).before args s = true) (hstat : (Cond.static arraycopyName).before args s = true) (hini : (Cond.initialized "java/lang/System").before args s = true)
    (hK : va_K D vwCl (cT T) s) (hP : va_P D vwCl (xW b T xa xs) H) (hD : va_D A (xW b T xa xs)) (hS : va_S A s.heap H locs) {d e' : Nat} (hd : d < 8) (he : e' < 8) {z1 z2 : Nat × MS} (h1 : xR xs d = some z1) (h2 : xR xs e' = some z2) {sp dp n : Int32} (hc : ¬ sp < 0 ∧ ¬ dp < 0 ∧ ¬ n < 0 ∧ sp.toNatClampNeg + n.toNatClampNeg ≤ z1.1 ∧ dp.toNatClampNeg + n.toNatClampNeg ≤ z2.1)
    (hframes : 1 ≤ R.frames) (hlocals : (rest.map fun v => v.category).sum + (nativeFrameWords "java/lang/System" "arraycopy" 5 + 11) ≤ R.locals) (hdg : decode cc pc = .ok (.invokestatic index, 3))
    (kk : ∀ (H1 : Heap) (locs1 : List Loc), va_P D vwCl (xW b T xa (uR xs e' (some (z2.1, sAA z2.2 1 (va_cpy (gA z1.2 1) (gA z2.2 1) sp.toNatClampNeg dp.toNatClampNeg n.toNatClampNeg))))) H1 → va_D A (xW b T xa (uR xs e' (some (z2.1, sAA z2.2 1 (va_cpy (gA z1.2 1) (gA z2.2 1) sp.toNatClampNeg dp.toNatClampNeg n.toNatClampNeg))))) → va_S A s.heap H1 locs1 → W p l e R s m args below meth c H1 locs1 cells slots Q (F0 m (pc + 3) ls rest)) :
    W p l e R s m args below meth c H locs cells slots Q (F0 m pc ls (.int n :: .int dp :: .ref (xRa xa e' 1) :: .int sp :: .ref (xRa xa d 1) :: rest)) := by
  have hPp := hP.perm (xpR b T xa xs he h2)
  have hDp := hD.perm (xpR b T xa xs he h2)
  have hm : (xRa xa d 1, (.inl (T.1, z1.1, .inl (gA z1.2 1)) : va_E)) ∈ rW (xRa xa e') T z2.1 z2.2 ++ xWrR b T xa xs e' := (xpR b T xa xs he h2).mem_iff.mp ((xpR b T xa xs hd h1).mem_iff.mpr (List.mem_append_left _ (List.mem_of_getElem? (i := 1) rfl)))
  obtain ⟨j, hj⟩ := List.getElem?_of_mem hm
  refine va_copyi (f := gA z1.2 1) (g := gA z2.2 1) (ty := .int) hx hb hml hown hlink hnat hstat hini hK hPp hDp hS j 1 0 0 hj rfl rfl rfl rfl hc.1 hc.2.1 hc.2.2.1 hc.2.2.2.1 hc.2.2.2.2 (fun _ _ => rfl) hframes hlocals hdg (fun H1 locs1 g1 g2 g3 => ?_)
  have g1 : va_P D vwCl (rW (xRa xa e') T z2.1 (sAA z2.2 1 (va_cpy (gA z1.2 1) (gA z2.2 1) sp.toNatClampNeg dp.toNatClampNeg n.toNatClampNeg)) ++ xWrR b T xa xs e') H1 := g1
  have g2 : va_D A (rW (xRa xa e') T z2.1 (sAA z2.2 1 (va_cpy (gA z1.2 1) (gA z2.2 1) sp.toNatClampNeg dp.toNatClampNeg n.toNatClampNeg)) ++ xWrR b T xa xs e') := g2
  exact kk H1 locs1 (g1.perm (xqR b T xa xs he _ _)) (g2.perm (xqR b T xa xs he _ _)) g3
end XSHELF
