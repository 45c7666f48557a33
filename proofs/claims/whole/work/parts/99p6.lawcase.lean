/-! the law's cases -/
section LAWCASE
variable {p : Program} {l : Launch} {e : Env} {s : State} {m : MethodId} {below : List Frame} {meth : Method} {c : Code} {Q : State → Prop} {cells slots : Nat}
variable {b L : Nat} {sc : Nat → Int32} {D : va_G} {T T' : mT3} {cL : ClassId} {z e0 bx ba : Nat → Nat} {o : Nat} {i : Int32}
set_option maxHeartbeats 4000000 in
theorem cs_put (C : LX p l s m meth c b L sc D T T' cL z e0) (hI : lwI L i) (hf : cells + 101 ≤ 601024 ∧ slots + 102 ≤ 7293034) (kk : LK p l e s m below meth c Q b D T T' cL bx ba o i 1477 (cells + 101) (slots + 102)) : LK p l e s m below meth c Q b D T T' cL bx ba o i 1238 cells slots := by
  intro xa xs ms f H locs ls hR hRR hP hD hS hl
  obtain ⟨⟨hx, hb, hr, hml, hown, hts, hX, hbl, hlocks, hgv⟩, hKx, hKm, hKo, hXS, hE, hl0⟩ := C
  have hA : ∀ q : Nat, s.heap.size ≤ q → lwA s q := fun _ h => h
  have hbA : ¬ lwA s b := Nat.not_le.mpr hbl
  obtain ⟨r, xs', ms', e1, e2, hRR'⟩ := qm_put hRR (sc (i + 1).toNatClampNeg) (sc (i + 2).toNatClampNeg) (sc (i + 3).toNatClampNeg)
  refine lv_aload_n hx hb dL_law_1238 rfl (lv_at hl 1 rfl) ?_
  refine lv_aload_n hx hb dL_law_1239 rfl (lv_at hl 0 rfl) ?_
  refine lv_iload hx hb dL_law_1240 (lv_at hl 4 rfl) ?_
  refine lv_iconst (v := (1 : Int32)) hx hb dL_law_1242 (by decide) ?_
  refine lv_iadd hx hb dL_law_1243 ?_
  refine va_sld hx hb hX hbl hbA hS hI.2.1 dL_law_1244 ?_
  refine lv_aload_n hx hb dL_law_1245 rfl (lv_at hl 0 rfl) ?_
  refine lv_iload hx hb dL_law_1246 (lv_at hl 4 rfl) ?_
  refine lv_iconst (v := (2 : Int32)) hx hb dL_law_1248 (by decide) ?_
  refine lv_iadd hx hb dL_law_1249 ?_
  refine va_sld hx hb hX hbl hbA hS hI.2.2.1 dL_law_1250 ?_
  refine lv_aload_n hx hb dL_law_1251 rfl (lv_at hl 0 rfl) ?_
  refine lv_iload hx hb dL_law_1252 (lv_at hl 4 rfl) ?_
  refine lv_iconst (v := (3 : Int32)) hx hb dL_law_1254 (by decide) ?_
  refine lv_iadd hx hb dL_law_1255 ?_
  refine va_sld hx hb hX hbl hbA hS hI.2.2.2.1 dL_law_1256 ?_
  refine y_vi (own := RL) (As := [.int (sc (i + 1).toNatClampNeg), .int (sc (i + 2).toNatClampNeg), .int (sc (i + 3).toNatClampNeg)]) (rest := []) (wr := mW ba T' ms ++ lO cL o f) hx hb hml hown hts (okX10_put z l D T bx hR e1) (cwV 3 hts gL_law_X10_put rfl rfl rfl hdX10_put ⟨Nat.le_of_ble_eq_true rfl, Nat.le_of_ble_eq_true rfl⟩) hKx hA hXS hP hD hS (List.Perm.refl _) (ci := 10) (q0 := 0) rfl rfl rfl hl.1 rfl (Nat.le_of_ble_eq_true rfl) dL_law_1257 ⟨lf1 hf.1 (Nat.le_of_ble_eq_true rfl), lf1 hf.2 (Nat.le_of_ble_eq_true rfl)⟩ (fun xa' H locs hR' _ hP hD hS => ?_)
  refine lv_aload_n hx hb dL_law_1260 rfl (lv_at hl 2 rfl) ?_
  refine lv_aload_n hx hb dL_law_1261 rfl (lv_at hl 0 rfl) ?_
  refine lv_iload hx hb dL_law_1262 (lv_at hl 4 rfl) ?_
  refine lv_iconst (v := (1 : Int32)) hx hb dL_law_1264 (by decide) ?_
  refine lv_iadd hx hb dL_law_1265 ?_
  refine va_sld hx hb hX hbl hbA hS hI.2.1 dL_law_1266 ?_
  refine lv_aload_n hx hb dL_law_1267 rfl (lv_at hl 0 rfl) ?_
  refine lv_iload hx hb dL_law_1268 (lv_at hl 4 rfl) ?_
  refine lv_iconst (v := (2 : Int32)) hx hb dL_law_1270 (by decide) ?_
  refine lv_iadd hx hb dL_law_1271 ?_
  refine va_sld hx hb hX hbl hbA hS hI.2.2.1 dL_law_1272 ?_
  refine lv_aload_n hx hb dL_law_1273 rfl (lv_at hl 0 rfl) ?_
  refine lv_iload hx hb dL_law_1274 (lv_at hl 4 rfl) ?_
  refine lv_iconst (v := (3 : Int32)) hx hb dL_law_1276 (by decide) ?_
  refine lv_iadd hx hb dL_law_1277 ?_
  refine va_sld hx hb hX hbl hbA hS hI.2.2.2.1 dL_law_1278 ?_
  refine y_mi (own := RL) (As := [.int (sc (i + 1).toNatClampNeg), .int (sc (i + 2).toNatClampNeg), .int (sc (i + 3).toNatClampNeg)]) (rest := [.int r]) (w0 := mW ba T' ms) (w1 := mW ba T' ms') (wr := xW bx T xa' xs' ++ lO cL o f) (wd' := xW bx T xa' xs' ++ (mW ba T' ms' ++ lO cL o f)) hx hb hml hown hts (okX11_put l D ba T' e2) (cwV 3 hts gL_law_X11_put rfl rfl rfl hdX11_put ⟨Nat.le_of_ble_eq_true rfl, Nat.le_of_ble_eq_true rfl⟩) hKm hA hP hD hS (pm1 _ _ _) (pm1 _ _ _) (ci := 11) (q0 := 0) rfl rfl rfl hl.1 rfl (Nat.le_of_ble_eq_true rfl) dL_law_1279 ⟨lf2 hf.1 (Nat.le_of_ble_eq_true rfl), lf2 hf.2 (Nat.le_of_ble_eq_true rfl)⟩ (fun H locs hP hD hS => ?_)
  refine lv_icmp_eq (tgt := 1477) hx hb dL_law_1282 (by decide) (fun _ => ?_) (fun h => absurd rfl h)
  refine W.widen (k := cells + 101) (n := slots + 102) (lf2 (Nat.le_refl _) (Nat.le_of_ble_eq_true rfl)) (lf2 (Nat.le_refl _) (Nat.le_of_ble_eq_true rfl)) ?_
  exact kk xa' xs' ms' f H locs ls hR' hRR' hP hD hS hl
set_option maxHeartbeats 4000000 in
theorem cs_copy (C : LX p l s m meth c b L sc D T T' cL z e0) (hI : lwI L i) (hf : cells + 101 ≤ 601024 ∧ slots + 102 ≤ 7293034) (kk : LK p l e s m below meth c Q b D T T' cL bx ba o i 1477 (cells + 101) (slots + 102)) : LK p l e s m below meth c Q b D T T' cL bx ba o i 1354 cells slots := by
  intro xa xs ms f H locs ls hR hRR hP hD hS hl
  obtain ⟨⟨hx, hb, hr, hml, hown, hts, hX, hbl, hlocks, hgv⟩, hKx, hKm, hKo, hXS, hE, hl0⟩ := C
  have hA : ∀ q : Nat, s.heap.size ≤ q → lwA s q := fun _ h => h
  have hbA : ¬ lwA s b := Nat.not_le.mpr hbl
  obtain ⟨r, xs', ms', e1, e2, hRR'⟩ := qm_copy hRR (sc (i + 1).toNatClampNeg) (sc (i + 2).toNatClampNeg) (sc (i + 3).toNatClampNeg) (sc (i + 4).toNatClampNeg) (sc (i + 5).toNatClampNeg)
  refine lv_aload_n hx hb dL_law_1354 rfl (lv_at hl 1 rfl) ?_
  refine lv_aload_n hx hb dL_law_1355 rfl (lv_at hl 0 rfl) ?_
  refine lv_iload hx hb dL_law_1356 (lv_at hl 4 rfl) ?_
  refine lv_iconst (v := (1 : Int32)) hx hb dL_law_1358 (by decide) ?_
  refine lv_iadd hx hb dL_law_1359 ?_
  refine va_sld hx hb hX hbl hbA hS hI.2.1 dL_law_1360 ?_
  refine lv_aload_n hx hb dL_law_1361 rfl (lv_at hl 0 rfl) ?_
  refine lv_iload hx hb dL_law_1362 (lv_at hl 4 rfl) ?_
  refine lv_iconst (v := (2 : Int32)) hx hb dL_law_1364 (by decide) ?_
  refine lv_iadd hx hb dL_law_1365 ?_
  refine va_sld hx hb hX hbl hbA hS hI.2.2.1 dL_law_1366 ?_
  refine lv_aload_n hx hb dL_law_1367 rfl (lv_at hl 0 rfl) ?_
  refine lv_iload hx hb dL_law_1368 (lv_at hl 4 rfl) ?_
  refine lv_iconst (v := (3 : Int32)) hx hb dL_law_1370 (by decide) ?_
  refine lv_iadd hx hb dL_law_1371 ?_
  refine va_sld hx hb hX hbl hbA hS hI.2.2.2.1 dL_law_1372 ?_
  refine lv_aload_n hx hb dL_law_1373 rfl (lv_at hl 0 rfl) ?_
  refine lv_iload hx hb dL_law_1374 (lv_at hl 4 rfl) ?_
  refine lv_iconst (v := (4 : Int32)) hx hb dL_law_1376 (by decide) ?_
  refine lv_iadd hx hb dL_law_1377 ?_
  refine va_sld hx hb hX hbl hbA hS hI.2.2.2.2.1 dL_law_1378 ?_
  refine lv_aload_n hx hb dL_law_1379 rfl (lv_at hl 0 rfl) ?_
  refine lv_iload hx hb dL_law_1380 (lv_at hl 4 rfl) ?_
  refine lv_iconst (v := (5 : Int32)) hx hb dL_law_1382 (by decide) ?_
  refine lv_iadd hx hb dL_law_1383 ?_
  refine va_sld hx hb hX hbl hbA hS hI.2.2.2.2.2 dL_law_1384 ?_
  refine y_vi (own := RL) (As := [.int (sc (i + 1).toNatClampNeg), .int (sc (i + 2).toNatClampNeg), .int (sc (i + 3).toNatClampNeg), .int (sc (i + 4).toNatClampNeg), .int (sc (i + 5).toNatClampNeg)]) (rest := []) (wr := mW ba T' ms ++ lO cL o f) hx hb hml hown hts (okX10_copy z l D T bx hR e1) (cwV 5 hts gL_law_X10_copy rfl rfl rfl hdX10_copy ⟨Nat.le_of_ble_eq_true rfl, Nat.le_of_ble_eq_true rfl⟩) hKx hA hXS hP hD hS (List.Perm.refl _) (ci := 10) (q0 := 0) rfl rfl rfl hl.1 rfl (Nat.le_of_ble_eq_true rfl) dL_law_1385 ⟨lf1 hf.1 (Nat.le_of_ble_eq_true rfl), lf1 hf.2 (Nat.le_of_ble_eq_true rfl)⟩ (fun xa' H locs hR' _ hP hD hS => ?_)
  refine lv_aload_n hx hb dL_law_1388 rfl (lv_at hl 2 rfl) ?_
  refine lv_aload_n hx hb dL_law_1389 rfl (lv_at hl 0 rfl) ?_
  refine lv_iload hx hb dL_law_1390 (lv_at hl 4 rfl) ?_
  refine lv_iconst (v := (1 : Int32)) hx hb dL_law_1392 (by decide) ?_
  refine lv_iadd hx hb dL_law_1393 ?_
  refine va_sld hx hb hX hbl hbA hS hI.2.1 dL_law_1394 ?_
  refine lv_aload_n hx hb dL_law_1395 rfl (lv_at hl 0 rfl) ?_
  refine lv_iload hx hb dL_law_1396 (lv_at hl 4 rfl) ?_
  refine lv_iconst (v := (2 : Int32)) hx hb dL_law_1398 (by decide) ?_
  refine lv_iadd hx hb dL_law_1399 ?_
  refine va_sld hx hb hX hbl hbA hS hI.2.2.1 dL_law_1400 ?_
  refine lv_aload_n hx hb dL_law_1401 rfl (lv_at hl 0 rfl) ?_
  refine lv_iload hx hb dL_law_1402 (lv_at hl 4 rfl) ?_
  refine lv_iconst (v := (3 : Int32)) hx hb dL_law_1404 (by decide) ?_
  refine lv_iadd hx hb dL_law_1405 ?_
  refine va_sld hx hb hX hbl hbA hS hI.2.2.2.1 dL_law_1406 ?_
  refine lv_aload_n hx hb dL_law_1407 rfl (lv_at hl 0 rfl) ?_
  refine lv_iload hx hb dL_law_1408 (lv_at hl 4 rfl) ?_
  refine lv_iconst (v := (4 : Int32)) hx hb dL_law_1410 (by decide) ?_
  refine lv_iadd hx hb dL_law_1411 ?_
  refine va_sld hx hb hX hbl hbA hS hI.2.2.2.2.1 dL_law_1412 ?_
  refine lv_aload_n hx hb dL_law_1413 rfl (lv_at hl 0 rfl) ?_
  refine lv_iload hx hb dL_law_1414 (lv_at hl 4 rfl) ?_
  refine lv_iconst (v := (5 : Int32)) hx hb dL_law_1416 (by decide) ?_
  refine lv_iadd hx hb dL_law_1417 ?_
  refine va_sld hx hb hX hbl hbA hS hI.2.2.2.2.2 dL_law_1418 ?_
  refine y_mi (own := RL) (As := [.int (sc (i + 1).toNatClampNeg), .int (sc (i + 2).toNatClampNeg), .int (sc (i + 3).toNatClampNeg), .int (sc (i + 4).toNatClampNeg), .int (sc (i + 5).toNatClampNeg)]) (rest := [.int r]) (w0 := mW ba T' ms) (w1 := mW ba T' ms') (wr := xW bx T xa' xs' ++ lO cL o f) (wd' := xW bx T xa' xs' ++ (mW ba T' ms' ++ lO cL o f)) hx hb hml hown hts (okX11_copy l D ba T' e2) (cwV 5 hts gL_law_X11_copy rfl rfl rfl hdX11_copy ⟨Nat.le_of_ble_eq_true rfl, Nat.le_of_ble_eq_true rfl⟩) hKm hA hP hD hS (pm1 _ _ _) (pm1 _ _ _) (ci := 11) (q0 := 0) rfl rfl rfl hl.1 rfl (Nat.le_of_ble_eq_true rfl) dL_law_1419 ⟨lf2 hf.1 (Nat.le_of_ble_eq_true rfl), lf2 hf.2 (Nat.le_of_ble_eq_true rfl)⟩ (fun H locs hP hD hS => ?_)
  refine lv_icmp_eq (tgt := 1477) hx hb dL_law_1422 (by decide) (fun _ => ?_) (fun h => absurd rfl h)
  refine W.widen (k := cells + 101) (n := slots + 102) (lf2 (Nat.le_refl _) (Nat.le_of_ble_eq_true rfl)) (lf2 (Nat.le_refl _) (Nat.le_of_ble_eq_true rfl)) ?_
  exact kk xa' xs' ms' f H locs ls hR' hRR' hP hD hS hl
set_option maxHeartbeats 4000000 in
theorem cs_cost (C : LX p l s m meth c b L sc D T T' cL z e0) (hI : lwI L i) (hf : cells + 101 ≤ 601024 ∧ slots + 102 ≤ 7293034) (kk : LK p l e s m below meth c Q b D T T' cL bx ba o i 1477 (cells + 101) (slots + 102)) : LK p l e s m below meth c Q b D T T' cL bx ba o i 1427 cells slots := by
  intro xa xs ms f H locs ls hR hRR hP hD hS hl
  obtain ⟨⟨hx, hb, hr, hml, hown, hts, hX, hbl, hlocks, hgv⟩, hKx, hKm, hKo, hXS, hE, hl0⟩ := C
  have hA : ∀ q : Nat, s.heap.size ≤ q → lwA s q := fun _ h => h
  have hbA : ¬ lwA s b := Nat.not_le.mpr hbl
  obtain ⟨r, xs', ms', e1, e2, hRR'⟩ := qm_cost hRR (sc (i + 1).toNatClampNeg)
  refine lv_aload_n hx hb dL_law_1427 rfl (lv_at hl 1 rfl) ?_
  refine lv_aload_n hx hb dL_law_1428 rfl (lv_at hl 0 rfl) ?_
  refine lv_iload hx hb dL_law_1429 (lv_at hl 4 rfl) ?_
  refine lv_iconst (v := (1 : Int32)) hx hb dL_law_1431 (by decide) ?_
  refine lv_iadd hx hb dL_law_1432 ?_
  refine va_sld hx hb hX hbl hbA hS hI.2.1 dL_law_1433 ?_
  refine y_vi (own := RL) (As := [.int (sc (i + 1).toNatClampNeg)]) (rest := []) (wr := mW ba T' ms ++ lO cL o f) hx hb hml hown hts (okX10_cost z l D T bx hR e1) (cwV 1 hts gL_law_X10_cost rfl rfl rfl hdX10_cost ⟨Nat.le_of_ble_eq_true rfl, Nat.le_of_ble_eq_true rfl⟩) hKx hA hXS hP hD hS (List.Perm.refl _) (ci := 10) (q0 := 0) rfl rfl rfl hl.1 rfl (Nat.le_of_ble_eq_true rfl) dL_law_1434 ⟨lf1 hf.1 (Nat.le_of_ble_eq_true rfl), lf1 hf.2 (Nat.le_of_ble_eq_true rfl)⟩ (fun xa' H locs hR' _ hP hD hS => ?_)
  refine lv_aload_n hx hb dL_law_1437 rfl (lv_at hl 2 rfl) ?_
  refine lv_aload_n hx hb dL_law_1438 rfl (lv_at hl 0 rfl) ?_
  refine lv_iload hx hb dL_law_1439 (lv_at hl 4 rfl) ?_
  refine lv_iconst (v := (1 : Int32)) hx hb dL_law_1441 (by decide) ?_
  refine lv_iadd hx hb dL_law_1442 ?_
  refine va_sld hx hb hX hbl hbA hS hI.2.1 dL_law_1443 ?_
  refine y_mi (own := RL) (As := [.int (sc (i + 1).toNatClampNeg)]) (rest := [.int r]) (w0 := mW ba T' ms) (w1 := mW ba T' ms') (wr := xW bx T xa' xs' ++ lO cL o f) (wd' := xW bx T xa' xs' ++ (mW ba T' ms' ++ lO cL o f)) hx hb hml hown hts (okX11_cost l D ba T' e2) (cwV 1 hts gL_law_X11_cost rfl rfl rfl hdX11_cost ⟨Nat.le_of_ble_eq_true rfl, Nat.le_of_ble_eq_true rfl⟩) hKm hA hP hD hS (pm1 _ _ _) (pm1 _ _ _) (ci := 11) (q0 := 0) rfl rfl rfl hl.1 rfl (Nat.le_of_ble_eq_true rfl) dL_law_1444 ⟨lf2 hf.1 (Nat.le_of_ble_eq_true rfl), lf2 hf.2 (Nat.le_of_ble_eq_true rfl)⟩ (fun H locs hP hD hS => ?_)
  refine lv_icmp_eq (tgt := 1477) hx hb dL_law_1447 (by decide) (fun _ => ?_) (fun h => absurd rfl h)
  refine W.widen (k := cells + 101) (n := slots + 102) (lf2 (Nat.le_refl _) (Nat.le_of_ble_eq_true rfl)) (lf2 (Nat.le_refl _) (Nat.le_of_ble_eq_true rfl)) ?_
  exact kk xa' xs' ms' f H locs ls hR' hRR' hP hD hS hl
set_option maxHeartbeats 4000000 in
theorem cs_toss (C : LX p l s m meth c b L sc D T T' cL z e0) (hI : lwI L i) (hf : cells + 101 ≤ 601024 ∧ slots + 102 ≤ 7293034) (kk : LK p l e s m below meth c Q b D T T' cL bx ba o i 1477 (cells + 101) (slots + 102)) : LK p l e s m below meth c Q b D T T' cL bx ba o i 1452 cells slots := by
  intro xa xs ms f H locs ls hR hRR hP hD hS hl
  obtain ⟨⟨hx, hb, hr, hml, hown, hts, hX, hbl, hlocks, hgv⟩, hKx, hKm, hKo, hXS, hE, hl0⟩ := C
  have hA : ∀ q : Nat, s.heap.size ≤ q → lwA s q := fun _ h => h
  have hbA : ¬ lwA s b := Nat.not_le.mpr hbl
  obtain ⟨r, xs', ms', e1, e2, hRR'⟩ := qm_toss hRR (sc (i + 1).toNatClampNeg)
  refine lv_aload_n hx hb dL_law_1452 rfl (lv_at hl 1 rfl) ?_
  refine lv_aload_n hx hb dL_law_1453 rfl (lv_at hl 0 rfl) ?_
  refine lv_iload hx hb dL_law_1454 (lv_at hl 4 rfl) ?_
  refine lv_iconst (v := (1 : Int32)) hx hb dL_law_1456 (by decide) ?_
  refine lv_iadd hx hb dL_law_1457 ?_
  refine va_sld hx hb hX hbl hbA hS hI.2.1 dL_law_1458 ?_
  refine y_vE (own := RL) (As := [.int (sc (i + 1).toNatClampNeg)]) (rest := []) (wr := mW ba T' ms ++ lO cL o f) hx hb hml hown hts (okX10_toss z e0 l hl0 D T bx hR e1) (vx_cwVW 1 hts gL_law_X10_toss rfl rfl rfl hdX10_toss ⟨Nat.le_of_ble_eq_true rfl, Nat.le_of_ble_eq_true rfl⟩) hE hKx hA hXS hP hD hS (List.Perm.refl _) (ci := 10) (q0 := 0) rfl rfl rfl hl.1 rfl (Nat.le_of_ble_eq_true rfl) dL_law_1459 ⟨lf1 hf.1 (Nat.le_of_ble_eq_true rfl), lf1 hf.2 (Nat.le_of_ble_eq_true rfl)⟩ (fun xa' H locs hR' _ hP hD hS => ?_)
  refine lv_aload_n hx hb dL_law_1462 rfl (lv_at hl 2 rfl) ?_
  refine lv_aload_n hx hb dL_law_1463 rfl (lv_at hl 0 rfl) ?_
  refine lv_iload hx hb dL_law_1464 (lv_at hl 4 rfl) ?_
  refine lv_iconst (v := (1 : Int32)) hx hb dL_law_1466 (by decide) ?_
  refine lv_iadd hx hb dL_law_1467 ?_
  refine va_sld hx hb hX hbl hbA hS hI.2.1 dL_law_1468 ?_
  refine y_mi (own := RL) (As := [.int (sc (i + 1).toNatClampNeg)]) (rest := [.int r]) (w0 := mW ba T' ms) (w1 := mW ba T' ms') (wr := xW bx T xa' xs' ++ lO cL o f) (wd' := xW bx T xa' xs' ++ (mW ba T' ms' ++ lO cL o f)) hx hb hml hown hts (okX11_toss l D ba T' e2) (cwV 1 hts gL_law_X11_toss rfl rfl rfl hdX11_toss ⟨Nat.le_of_ble_eq_true rfl, Nat.le_of_ble_eq_true rfl⟩) hKm hA hP hD hS (pm1 _ _ _) (pm1 _ _ _) (ci := 11) (q0 := 0) rfl rfl rfl hl.1 rfl (Nat.le_of_ble_eq_true rfl) dL_law_1469 ⟨lf2 hf.1 (Nat.le_of_ble_eq_true rfl), lf2 hf.2 (Nat.le_of_ble_eq_true rfl)⟩ (fun H locs hP hD hS => ?_)
  refine lv_icmp_eq (tgt := 1477) hx hb dL_law_1472 (by decide) (fun _ => ?_) (fun h => absurd rfl h)
  refine W.widen (k := cells + 101) (n := slots + 102) (lf2 (Nat.le_refl _) (Nat.le_of_ble_eq_true rfl)) (lf2 (Nat.le_refl _) (Nat.le_of_ble_eq_true rfl)) ?_
  exact kk xa' xs' ms' f H locs ls hR' hRR' hP hD hS hl
end LAWCASE
