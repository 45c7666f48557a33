/-! the law's case of element -/
theorem pmE {α : Type} (a c d : List α) : (a ++ (c ++ d)).Perm ((a ++ d) ++ c) := by
  rw [List.append_assoc]
  exact List.perm_append_comm.append_left a
theorem pmO {α : Type} (a c d : List α) : (a ++ (c ++ d)).Perm (d ++ (a ++ c)) := by
  rw [← List.append_assoc]
  exact List.perm_append_comm
theorem lf3 {c k j h a n : Nat} (g : c + a ≤ n) (hk : k + j + h ≤ a) : c + k + j + h ≤ n := by omega
theorem hdL_element : yL_element.cls ≠ "java/lang/invoke/MethodHandle" ∧ yL_element.cls ≠ "java/lang/invoke/VarHandle" ∧ (parseMethodDescriptor yL_element.desc).map (fun d => d.parameters.length) = some 4 := by decide +kernel
section LAWCASE
variable {p : Program} {l : Launch} {e : Env} {s : State} {m : MethodId} {below : List Frame} {meth : Method} {c : Code} {Q : State → Prop} {cells slots : Nat}
variable {b L : Nat} {sc : Nat → Int32} {D : va_G} {T T' : mT3} {cL : ClassId} {z e0 bx ba : Nat → Nat} {o : Nat} {i : Int32}
set_option maxHeartbeats 4000000 in
theorem cs_element (C : LX p l s m meth c b L sc D T T' cL z e0) (hI : lwI L i) (hf : cells + 101 ≤ 601024 ∧ slots + 102 ≤ 7293034) (kk : LK p l e s m below meth c Q b D T T' cL bx ba o i 1477 (cells + 101) (slots + 102)) : LK p l e s m below meth c Q b D T T' cL bx ba o i 1287 cells slots := by
  intro xa xs ms f H locs ls hR hRR hP hD hS hl
  obtain ⟨⟨hx, hb, hr, hml, hown, hts, hX, hbl, hlocks, hgv⟩, hKx, hKm, hKo, hXS, hE, hl0⟩ := C
  have hA : ∀ q : Nat, s.heap.size ≤ q → lwA s q := fun _ h => h
  have hbA : ¬ lwA s b := Nat.not_le.mpr hbl
  obtain ⟨r, xs', v, ms', e1, e2, h17, h0, h3, hRR'⟩ := qm_element hRR (sc (i + 1).toNatClampNeg) (sc (i + 2).toNatClampNeg)
  refine lv_aload_n hx hb dL_law_1287 rfl (lv_at hl 1 rfl) ?_
  refine lv_aload_n hx hb dL_law_1288 rfl (lv_at hl 0 rfl) ?_
  refine lv_iload hx hb dL_law_1289 (lv_at hl 4 rfl) ?_
  refine lv_iconst (v := (1 : Int32)) hx hb dL_law_1291 (by decide) ?_
  refine lv_iadd hx hb dL_law_1292 ?_
  refine va_sld hx hb hX hbl hbA hS hI.2.1 dL_law_1293 ?_
  refine lv_aload_n hx hb dL_law_1294 rfl (lv_at hl 0 rfl) ?_
  refine lv_iload hx hb dL_law_1295 (lv_at hl 4 rfl) ?_
  refine lv_iconst (v := (2 : Int32)) hx hb dL_law_1297 (by decide) ?_
  refine lv_iadd hx hb dL_law_1298 ?_
  refine va_sld hx hb hX hbl hbA hS hI.2.2.1 dL_law_1299 ?_
  refine lv_aload_n hx hb dL_law_1300 rfl (lv_at hl 3 rfl) ?_
  have hp : (xW bx T xa xs ++ (mW ba T' ms ++ lO cL o f)).Perm ((xW bx T xa xs ++ lO cL o f) ++ mW ba T' ms) := pmE _ _ _
  have hs0 : ∀ q ∈ xW bx T xa xs ++ lO cL o f, q ∈ xW bx T xa xs ++ (mW ba T' ms ++ lO cL o f) := fun q hq => hp.mem_iff.mpr (List.mem_append_left _ hq)
  have hF := h_freeS (w0 := xW bx T xa xs ++ lO cL o f) hD hS hA hs0
  have hP0 : va_P D vwCl (xW bx T xa xs ++ lO cL o f) H := hP.mono hs0
  have hD0 := hD.sub2 hp
  refine va_calli (vx_runSW (own := RL) (As := [.ref (bx 0), .int (sc (i + 1).toNatClampNeg), .int (sc (i + 2).toNatClampNeg), .ref o]) (rest := []) ⟨hx, hb, hml, hown, hts⟩ (okL_element z e0 l hl0 D T cL bx o f hR e1 H.size) (vx_cwSW 4 hts gL_law_L_element rfl rfl rfl hdL_element ⟨Nat.le_of_ble_eq_true rfl, Nat.le_of_ble_eq_true rfl⟩) ⟨hxE_blind, hE_pre (p := p) (l := l) hXS hE hS hKo hP0 hD0 hF⟩ rfl rfl hl.1 rfl (lv_room (Nat.le_of_ble_eq_true rfl)) dL_law_1301 ⟨lf1 hf.1 (Nat.le_of_ble_eq_true rfl), lf1 hf.2 (Nat.le_of_ble_eq_true rfl)⟩) hS (fun q _ h => hF q h) hF (fun r9 xa' t H1 locs1 ht hvm hw hB hz1 hk1 hS1 => ?_)
  obtain ⟨hP1, -, hD1⟩ := hB
  rw [ht] at hP1
  obtain ⟨hw0, hR', -⟩ := hw
  obtain ⟨f', ef⟩ : ∃ f' : Nat → Int64, f' = (if r.1 = 0 then vp_updL f 0 r.2 else f) := ⟨_, rfl⟩
  rw [← ef] at hP1 hD1
  obtain ⟨hP, hD⟩ := h_after (wd' := xW bx T xa' xs' ++ (mW ba T' ms ++ lO cL o f')) hP hD hp (pmE _ _ _).symm hF hk1 hP1 hD1
  have hS := hS1
  rw [hw0]
  refine lv_istore (lv' := [(5, .int (Int32.ofNat r.1)), (0, .ref b), (1, .ref (bx 0)), (2, .ref (ba 0)), (3, .ref o), (4, .int i)]) hx hb dL_law_1304 hl (by decide) rfl (fun ls hl => ?_)
  refine lv_aload_n hx hb dL_law_1306 rfl (lv_at hl 3 rfl) ?_
  refine lv_aload_n hx hb dL_law_1307 rfl (lv_at hl 1 rfl) ?_
  refine lv_iload hx hb dL_law_1308 (lv_at hl 5 rfl) ?_
  refine lv_iconst (v := (1 : Int32)) hx hb dL_law_1310 (by decide) ?_
  refine lv_iadd hx hb dL_law_1311 ?_
  refine va_sld hx hb hX hbl hbA hS hI.2.1 dL_law_1312 ?_
  refine lv_aload_n hx hb dL_law_1313 rfl (lv_at hl 1 rfl) ?_
  refine lv_iload hx hb dL_law_1314 (lv_at hl 5 rfl) ?_
  refine lv_iconst (v := (2 : Int32)) hx hb dL_law_1316 (by decide) ?_
  refine lv_iadd hx hb dL_law_1317 ?_
  refine va_sld hx hb hX hbl hbA hS hI.2.2.1 dL_law_1318 ?_
  refine y_ml (own := RL) (As := [.int (sc (i + 1).toNatClampNeg), .int (sc (i + 2).toNatClampNeg)]) (rest := []) (w0 := mW ba T' ms) (w1 := mW ba T' ms') (wr := xW bx T xa' xs' ++ lO cL o f') (wd' := xW bx T xa' xs' ++ (mW ba T' ms' ++ lO cL o f')) hx hb hml hown hts (okX11_element l D ba T' e2) (cwV 2 hts gL_law_X11_element rfl rfl rfl hdX11_element ⟨Nat.le_of_ble_eq_true rfl, Nat.le_of_ble_eq_true rfl⟩) hKm hA hP hD hS (pm1 _ _ _) (pm1 _ _ _) (ci := 11) (q0 := 0) rfl rfl rfl hl.1 rfl (Nat.le_of_ble_eq_true rfl) dL_law_1319 ⟨lf2 hf.1 (Nat.le_of_ble_eq_true rfl), lf2 hf.2 (Nat.le_of_ble_eq_true rfl)⟩ (fun H locs hP hD hS => ?_)
  refine lv_lstore (lv' := [(6, .long v), (5, .int (Int32.ofNat r.1)), (0, .ref b), (1, .ref (bx 0)), (2, .ref (ba 0)), (3, .ref o), (4, .int i)]) hx hb dL_law_1322 hl (by decide) rfl (fun ls hl => ?_)
  refine lv_aload_n hx hb dL_law_1324 rfl (lv_at hl 4 rfl) ?_
  refine y_mi (own := RL) (As := []) (rest := []) (r := gF ms' 17) (w0 := mW ba T' ms') (w1 := mW ba T' ms') (wr := xW bx T xa' xs' ++ lO cL o f') (wd' := xW bx T xa' xs' ++ (mW ba T' ms' ++ lO cL o f')) hx hb hml hown hts (okX11_thrown l D ba T' rfl) (cwV 0 hts gL_law_X11_thrown rfl rfl rfl hdX11_thrown ⟨Nat.le_of_ble_eq_true rfl, Nat.le_of_ble_eq_true rfl⟩) hKm hA hP hD hS (pm1 _ _ _) (pm1 _ _ _) (ci := 11) (q0 := 0) rfl rfl rfl hl.1 rfl (Nat.le_of_ble_eq_true rfl) dL_law_1325 ⟨lf3 hf.1 (Nat.le_of_ble_eq_true rfl), lf3 hf.2 (Nat.le_of_ble_eq_true rfl)⟩ (fun H locs hP hD hS => ?_)
  refine lv_iload hx hb dL_law_1328 (lv_at hl 1 rfl) ?_
  refine lv_icmp_eq (tgt := 1335) hx hb dL_law_1330 (by decide) (fun _ => ?_) (fun h => absurd h17 h)
  refine lv_iload hx hb dL_law_1335 (lv_at hl 1 rfl) ?_
  refine lv_if_ne (tgt := 1351) hx hb dL_law_1337 (by decide) (fun _ => ?_) (fun h0r => ?_)
  · refine lv_goto (tgt := 1477) hx hb dL_law_1351 (by decide) ?_
    refine W.widen (k := cells + 101) (n := slots + 102) (lf3 (Nat.le_refl _) (Nat.le_of_ble_eq_true rfl)) (lf3 (Nat.le_refl _) (Nat.le_of_ble_eq_true rfl)) ?_
    exact kk xa' xs' ms' f' H locs ls hR' hRR' hP hD hS (lv_sub hl [2, 3, 4, 5, 6] rfl)
  · have hr0 : r.1 = 0 := by
      rcases (show r.1 = 0 ∨ r.1 = 1 ∨ r.1 = 2 by omega) with h | h | h
      · exact h
      · rw [h] at h0r
        exact absurd h0r (by decide)
      · rw [h] at h0r
        exact absurd h0r (by decide)
    have hv : f' (0 : Int32).toNatClampNeg = v := by
      rw [ef, if_pos hr0]
      exact h0 hr0
    refine lv_aload_n hx hb dL_law_1340 rfl (lv_at hl 5 rfl) ?_
    refine lv_iconst (v := (0 : Int32)) hx hb dL_law_1341 (by decide) ?_
    have hPo : va_P D vwCl (lO cL o f' ++ (xW bx T xa' xs' ++ mW ba T' ms')) H := hP.perm (pmO _ _ _)
    refine va_lald hx hb hKo hPo 0 3 rfl rfl (i := 0) (show ¬ ((0 : Int32) < 0 ∨ 1 ≤ (0 : Int32).toNatClampNeg) by decide) dL_law_1342 ?_
    refine lv_lload hx hb dL_law_1343 (lv_at hl 0 rfl) ?_
    refine W.lcmp hx hb dL_law_1345 ?_
    refine lv_if_eq (tgt := 1351) hx hb dL_law_1346 (by decide) (fun _ => ?_) (fun h => absurd ((lg_cmp_eq _ _).mpr hv) h)
    refine lv_goto (tgt := 1477) hx hb dL_law_1351 (by decide) ?_
    refine W.widen (k := cells + 101) (n := slots + 102) (lf3 (Nat.le_refl _) (Nat.le_of_ble_eq_true rfl)) (lf3 (Nat.le_refl _) (Nat.le_of_ble_eq_true rfl)) ?_
    exact kk xa' xs' ms' f' H locs ls hR' hRR' hP hD hS (lv_sub hl [2, 3, 4, 5, 6] rfl)
end LAWCASE
