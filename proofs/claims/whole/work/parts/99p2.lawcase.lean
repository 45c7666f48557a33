/-! the law's cases -/
section LAWCASE
variable {p : Program} {l : Launch} {e : Env} {s : State} {m : MethodId} {below : List Frame} {meth : Method} {c : Code} {Q : State → Prop} {cells slots : Nat}
variable {b L : Nat} {sc : Nat → Int32} {D : va_G} {T T' : mT3} {cL : ClassId} {z e0 bx ba : Nat → Nat} {o : Nat} {i : Int32}
set_option maxHeartbeats 4000000 in
theorem cs_minutes (C : LX p l s m meth c b L sc D T T' cL z e0) (hI : lwI L i) (hf : cells + 101 ≤ 601024 ∧ slots + 102 ≤ 7293034) (kk : LK p l e s m below meth c Q b D T T' cL bx ba o i 1477 (cells + 101) (slots + 102)) : LK p l e s m below meth c Q b D T T' cL bx ba o i 484 cells slots := by
  intro xa xs ms f H locs ls hR hRR hP hD hS hl
  obtain ⟨⟨hx, hb, hr, hml, hown, hts, hX, hbl, hlocks, hgv⟩, hKx, hKm, hKo, hXS, hE, hl0⟩ := C
  have hA : ∀ q : Nat, s.heap.size ≤ q → lwA s q := fun _ h => h
  have hbA : ¬ lwA s b := Nat.not_le.mpr hbl
  obtain ⟨r, xs', ms', e1, e2, hRR'⟩ := qm_minutes hRR (sc (i + 1).toNatClampNeg)
  refine lv_aload_n hx hb dL_law_484 rfl (lv_at hl 1 rfl) ?_
  refine lv_aload_n hx hb dL_law_485 rfl (lv_at hl 0 rfl) ?_
  refine lv_iload hx hb dL_law_486 (lv_at hl 4 rfl) ?_
  refine lv_iconst (v := (1 : Int32)) hx hb dL_law_488 (by decide) ?_
  refine lv_iadd hx hb dL_law_489 ?_
  refine va_sld hx hb hX hbl hbA hS hI.2.1 dL_law_490 ?_
  refine y_vi (own := RL) (As := [.int (sc (i + 1).toNatClampNeg)]) (rest := []) (wr := mW ba T' ms ++ lO cL o f) hx hb hml hown hts (okX10_minutes z l D T bx hR e1) (cwV 1 hts gL_law_X10_minutes rfl rfl rfl hdX10_minutes ⟨Nat.le_of_ble_eq_true rfl, Nat.le_of_ble_eq_true rfl⟩) hKx hA hXS hP hD hS (List.Perm.refl _) (ci := 10) (q0 := 0) rfl rfl rfl hl.1 rfl (Nat.le_of_ble_eq_true rfl) dL_law_491 ⟨lf1 hf.1 (Nat.le_of_ble_eq_true rfl), lf1 hf.2 (Nat.le_of_ble_eq_true rfl)⟩ (fun xa' H locs hR' _ hP hD hS => ?_)
  refine lv_aload_n hx hb dL_law_494 rfl (lv_at hl 2 rfl) ?_
  refine lv_aload_n hx hb dL_law_495 rfl (lv_at hl 0 rfl) ?_
  refine lv_iload hx hb dL_law_496 (lv_at hl 4 rfl) ?_
  refine lv_iconst (v := (1 : Int32)) hx hb dL_law_498 (by decide) ?_
  refine lv_iadd hx hb dL_law_499 ?_
  refine va_sld hx hb hX hbl hbA hS hI.2.1 dL_law_500 ?_
  refine y_mi (own := RL) (As := [.int (sc (i + 1).toNatClampNeg)]) (rest := [.int r]) (w0 := mW ba T' ms) (w1 := mW ba T' ms') (wr := xW bx T xa' xs' ++ lO cL o f) (wd' := xW bx T xa' xs' ++ (mW ba T' ms' ++ lO cL o f)) hx hb hml hown hts (okX11_minutes l D ba T' e2) (cwV 1 hts gL_law_X11_minutes rfl rfl rfl hdX11_minutes ⟨Nat.le_of_ble_eq_true rfl, Nat.le_of_ble_eq_true rfl⟩) hKm hA hP hD hS (pm1 _ _ _) (pm1 _ _ _) (ci := 11) (q0 := 0) rfl rfl rfl hl.1 rfl (Nat.le_of_ble_eq_true rfl) dL_law_501 ⟨lf2 hf.1 (Nat.le_of_ble_eq_true rfl), lf2 hf.2 (Nat.le_of_ble_eq_true rfl)⟩ (fun H locs hP hD hS => ?_)
  refine lv_icmp_eq (tgt := 1477) hx hb dL_law_504 (by decide) (fun _ => ?_) (fun h => absurd rfl h)
  refine W.widen (k := cells + 101) (n := slots + 102) (lf2 (Nat.le_refl _) (Nat.le_of_ble_eq_true rfl)) (lf2 (Nat.le_refl _) (Nat.le_of_ble_eq_true rfl)) ?_
  exact kk xa' xs' ms' f H locs ls hR' hRR' hP hD hS hl
set_option maxHeartbeats 4000000 in
theorem cs_anew (C : LX p l s m meth c b L sc D T T' cL z e0) (hI : lwI L i) (hf : cells + 101 ≤ 601024 ∧ slots + 102 ≤ 7293034) (kk : LK p l e s m below meth c Q b D T T' cL bx ba o i 1477 (cells + 101) (slots + 102)) : LK p l e s m below meth c Q b D T T' cL bx ba o i 509 cells slots := by
  intro xa xs ms f H locs ls hR hRR hP hD hS hl
  obtain ⟨⟨hx, hb, hr, hml, hown, hts, hX, hbl, hlocks, hgv⟩, hKx, hKm, hKo, hXS, hE, hl0⟩ := C
  have hA : ∀ q : Nat, s.heap.size ≤ q → lwA s q := fun _ h => h
  have hbA : ¬ lwA s b := Nat.not_le.mpr hbl
  obtain ⟨r, xs', ms', e1, e2, hRR'⟩ := qm_anew hRR
  refine lv_aload_n hx hb dL_law_509 rfl (lv_at hl 1 rfl) ?_
  refine y_vi (own := RL) (As := []) (rest := []) (wr := mW ba T' ms ++ lO cL o f) hx hb hml hown hts (okX10_anew z l D T bx hR e1) (cwV 0 hts gL_law_X10_anew rfl rfl rfl hdX10_anew ⟨Nat.le_of_ble_eq_true rfl, Nat.le_of_ble_eq_true rfl⟩) hKx hA hXS hP hD hS (List.Perm.refl _) (ci := 10) (q0 := 0) rfl rfl rfl hl.1 rfl (Nat.le_of_ble_eq_true rfl) dL_law_510 ⟨lf1 hf.1 (Nat.le_of_ble_eq_true rfl), lf1 hf.2 (Nat.le_of_ble_eq_true rfl)⟩ (fun xa' H locs hR' _ hP hD hS => ?_)
  refine lv_aload_n hx hb dL_law_513 rfl (lv_at hl 2 rfl) ?_
  refine y_mi (own := RL) (As := []) (rest := [.int r]) (w0 := mW ba T' ms) (w1 := mW ba T' ms') (wr := xW bx T xa' xs' ++ lO cL o f) (wd' := xW bx T xa' xs' ++ (mW ba T' ms' ++ lO cL o f)) hx hb hml hown hts (okX11_anew l D ba T' e2) (cwV 0 hts gL_law_X11_anew rfl rfl rfl hdX11_anew ⟨Nat.le_of_ble_eq_true rfl, Nat.le_of_ble_eq_true rfl⟩) hKm hA hP hD hS (pm1 _ _ _) (pm1 _ _ _) (ci := 11) (q0 := 0) rfl rfl rfl hl.1 rfl (Nat.le_of_ble_eq_true rfl) dL_law_514 ⟨lf2 hf.1 (Nat.le_of_ble_eq_true rfl), lf2 hf.2 (Nat.le_of_ble_eq_true rfl)⟩ (fun H locs hP hD hS => ?_)
  refine lv_icmp_eq (tgt := 1477) hx hb dL_law_517 (by decide) (fun _ => ?_) (fun h => absurd rfl h)
  refine W.widen (k := cells + 101) (n := slots + 102) (lf2 (Nat.le_refl _) (Nat.le_of_ble_eq_true rfl)) (lf2 (Nat.le_refl _) (Nat.le_of_ble_eq_true rfl)) ?_
  exact kk xa' xs' ms' f H locs ls hR' hRR' hP hD hS hl
set_option maxHeartbeats 4000000 in
theorem cs_presses (C : LX p l s m meth c b L sc D T T' cL z e0) (hI : lwI L i) (hf : cells + 101 ≤ 601024 ∧ slots + 102 ≤ 7293034) (kk : LK p l e s m below meth c Q b D T T' cL bx ba o i 1477 (cells + 101) (slots + 102)) : LK p l e s m below meth c Q b D T T' cL bx ba o i 522 cells slots := by
  intro xa xs ms f H locs ls hR hRR hP hD hS hl
  obtain ⟨⟨hx, hb, hr, hml, hown, hts, hX, hbl, hlocks, hgv⟩, hKx, hKm, hKo, hXS, hE, hl0⟩ := C
  have hA : ∀ q : Nat, s.heap.size ≤ q → lwA s q := fun _ h => h
  have hbA : ¬ lwA s b := Nat.not_le.mpr hbl
  obtain ⟨r, xs', ms', e1, e2, hRR'⟩ := qm_presses hRR (sc (i + 1).toNatClampNeg)
  refine lv_aload_n hx hb dL_law_522 rfl (lv_at hl 1 rfl) ?_
  refine lv_aload_n hx hb dL_law_523 rfl (lv_at hl 0 rfl) ?_
  refine lv_iload hx hb dL_law_524 (lv_at hl 4 rfl) ?_
  refine lv_iconst (v := (1 : Int32)) hx hb dL_law_526 (by decide) ?_
  refine lv_iadd hx hb dL_law_527 ?_
  refine va_sld hx hb hX hbl hbA hS hI.2.1 dL_law_528 ?_
  refine y_vi (own := RL) (As := [.int (sc (i + 1).toNatClampNeg)]) (rest := []) (wr := mW ba T' ms ++ lO cL o f) hx hb hml hown hts (okX10_presses z l D T bx hR e1) (cwV 1 hts gL_law_X10_presses rfl rfl rfl hdX10_presses ⟨Nat.le_of_ble_eq_true rfl, Nat.le_of_ble_eq_true rfl⟩) hKx hA hXS hP hD hS (List.Perm.refl _) (ci := 10) (q0 := 0) rfl rfl rfl hl.1 rfl (Nat.le_of_ble_eq_true rfl) dL_law_529 ⟨lf1 hf.1 (Nat.le_of_ble_eq_true rfl), lf1 hf.2 (Nat.le_of_ble_eq_true rfl)⟩ (fun xa' H locs hR' _ hP hD hS => ?_)
  refine lv_aload_n hx hb dL_law_532 rfl (lv_at hl 2 rfl) ?_
  refine lv_aload_n hx hb dL_law_533 rfl (lv_at hl 0 rfl) ?_
  refine lv_iload hx hb dL_law_534 (lv_at hl 4 rfl) ?_
  refine lv_iconst (v := (1 : Int32)) hx hb dL_law_536 (by decide) ?_
  refine lv_iadd hx hb dL_law_537 ?_
  refine va_sld hx hb hX hbl hbA hS hI.2.1 dL_law_538 ?_
  refine y_mi (own := RL) (As := [.int (sc (i + 1).toNatClampNeg)]) (rest := [.int r]) (w0 := mW ba T' ms) (w1 := mW ba T' ms') (wr := xW bx T xa' xs' ++ lO cL o f) (wd' := xW bx T xa' xs' ++ (mW ba T' ms' ++ lO cL o f)) hx hb hml hown hts (okX11_presses l D ba T' e2) (cwV 1 hts gL_law_X11_presses rfl rfl rfl hdX11_presses ⟨Nat.le_of_ble_eq_true rfl, Nat.le_of_ble_eq_true rfl⟩) hKm hA hP hD hS (pm1 _ _ _) (pm1 _ _ _) (ci := 11) (q0 := 0) rfl rfl rfl hl.1 rfl (Nat.le_of_ble_eq_true rfl) dL_law_539 ⟨lf2 hf.1 (Nat.le_of_ble_eq_true rfl), lf2 hf.2 (Nat.le_of_ble_eq_true rfl)⟩ (fun H locs hP hD hS => ?_)
  refine lv_icmp_eq (tgt := 1477) hx hb dL_law_542 (by decide) (fun _ => ?_) (fun h => absurd rfl h)
  refine W.widen (k := cells + 101) (n := slots + 102) (lf2 (Nat.le_refl _) (Nat.le_of_ble_eq_true rfl)) (lf2 (Nat.le_refl _) (Nat.le_of_ble_eq_true rfl)) ?_
  exact kk xa' xs' ms' f H locs ls hR' hRR' hP hD hS hl
set_option maxHeartbeats 4000000 in
theorem cs_holds (C : LX p l s m meth c b L sc D T T' cL z e0) (hI : lwI L i) (hf : cells + 101 ≤ 601024 ∧ slots + 102 ≤ 7293034) (kk : LK p l e s m below meth c Q b D T T' cL bx ba o i 1477 (cells + 101) (slots + 102)) : LK p l e s m below meth c Q b D T T' cL bx ba o i 547 cells slots := by
  intro xa xs ms f H locs ls hR hRR hP hD hS hl
  obtain ⟨⟨hx, hb, hr, hml, hown, hts, hX, hbl, hlocks, hgv⟩, hKx, hKm, hKo, hXS, hE, hl0⟩ := C
  have hA : ∀ q : Nat, s.heap.size ≤ q → lwA s q := fun _ h => h
  have hbA : ¬ lwA s b := Nat.not_le.mpr hbl
  obtain ⟨r, xs', ms', e1, e2, hRR'⟩ := qm_holds hRR (sc (i + 1).toNatClampNeg)
  refine lv_aload_n hx hb dL_law_547 rfl (lv_at hl 1 rfl) ?_
  refine lv_aload_n hx hb dL_law_548 rfl (lv_at hl 0 rfl) ?_
  refine lv_iload hx hb dL_law_549 (lv_at hl 4 rfl) ?_
  refine lv_iconst (v := (1 : Int32)) hx hb dL_law_551 (by decide) ?_
  refine lv_iadd hx hb dL_law_552 ?_
  refine va_sld hx hb hX hbl hbA hS hI.2.1 dL_law_553 ?_
  refine y_vi (own := RL) (As := [.int (sc (i + 1).toNatClampNeg)]) (rest := []) (wr := mW ba T' ms ++ lO cL o f) hx hb hml hown hts (okX10_holds z l D T bx hR e1) (cwV 1 hts gL_law_X10_holds rfl rfl rfl hdX10_holds ⟨Nat.le_of_ble_eq_true rfl, Nat.le_of_ble_eq_true rfl⟩) hKx hA hXS hP hD hS (List.Perm.refl _) (ci := 10) (q0 := 0) rfl rfl rfl hl.1 rfl (Nat.le_of_ble_eq_true rfl) dL_law_554 ⟨lf1 hf.1 (Nat.le_of_ble_eq_true rfl), lf1 hf.2 (Nat.le_of_ble_eq_true rfl)⟩ (fun xa' H locs hR' _ hP hD hS => ?_)
  refine lv_aload_n hx hb dL_law_557 rfl (lv_at hl 2 rfl) ?_
  refine lv_aload_n hx hb dL_law_558 rfl (lv_at hl 0 rfl) ?_
  refine lv_iload hx hb dL_law_559 (lv_at hl 4 rfl) ?_
  refine lv_iconst (v := (1 : Int32)) hx hb dL_law_561 (by decide) ?_
  refine lv_iadd hx hb dL_law_562 ?_
  refine va_sld hx hb hX hbl hbA hS hI.2.1 dL_law_563 ?_
  refine y_mi (own := RL) (As := [.int (sc (i + 1).toNatClampNeg)]) (rest := [.int r]) (w0 := mW ba T' ms) (w1 := mW ba T' ms') (wr := xW bx T xa' xs' ++ lO cL o f) (wd' := xW bx T xa' xs' ++ (mW ba T' ms' ++ lO cL o f)) hx hb hml hown hts (okX11_holds l D ba T' e2) (cwV 1 hts gL_law_X11_holds rfl rfl rfl hdX11_holds ⟨Nat.le_of_ble_eq_true rfl, Nat.le_of_ble_eq_true rfl⟩) hKm hA hP hD hS (pm1 _ _ _) (pm1 _ _ _) (ci := 11) (q0 := 0) rfl rfl rfl hl.1 rfl (Nat.le_of_ble_eq_true rfl) dL_law_564 ⟨lf2 hf.1 (Nat.le_of_ble_eq_true rfl), lf2 hf.2 (Nat.le_of_ble_eq_true rfl)⟩ (fun H locs hP hD hS => ?_)
  refine lv_icmp_eq (tgt := 1477) hx hb dL_law_567 (by decide) (fun _ => ?_) (fun h => absurd rfl h)
  refine W.widen (k := cells + 101) (n := slots + 102) (lf2 (Nat.le_refl _) (Nat.le_of_ble_eq_true rfl)) (lf2 (Nat.le_refl _) (Nat.le_of_ble_eq_true rfl)) ?_
  exact kk xa' xs' ms' f H locs ls hR' hRR' hP hD hS hl
set_option maxHeartbeats 4000000 in
theorem cs_lacks (C : LX p l s m meth c b L sc D T T' cL z e0) (hI : lwI L i) (hf : cells + 101 ≤ 601024 ∧ slots + 102 ≤ 7293034) (kk : LK p l e s m below meth c Q b D T T' cL bx ba o i 1477 (cells + 101) (slots + 102)) : LK p l e s m below meth c Q b D T T' cL bx ba o i 572 cells slots := by
  intro xa xs ms f H locs ls hR hRR hP hD hS hl
  obtain ⟨⟨hx, hb, hr, hml, hown, hts, hX, hbl, hlocks, hgv⟩, hKx, hKm, hKo, hXS, hE, hl0⟩ := C
  have hA : ∀ q : Nat, s.heap.size ≤ q → lwA s q := fun _ h => h
  have hbA : ¬ lwA s b := Nat.not_le.mpr hbl
  obtain ⟨r, xs', ms', e1, e2, hRR'⟩ := qm_lacks hRR (sc (i + 1).toNatClampNeg)
  refine lv_aload_n hx hb dL_law_572 rfl (lv_at hl 1 rfl) ?_
  refine lv_aload_n hx hb dL_law_573 rfl (lv_at hl 0 rfl) ?_
  refine lv_iload hx hb dL_law_574 (lv_at hl 4 rfl) ?_
  refine lv_iconst (v := (1 : Int32)) hx hb dL_law_576 (by decide) ?_
  refine lv_iadd hx hb dL_law_577 ?_
  refine va_sld hx hb hX hbl hbA hS hI.2.1 dL_law_578 ?_
  refine y_vi (own := RL) (As := [.int (sc (i + 1).toNatClampNeg)]) (rest := []) (wr := mW ba T' ms ++ lO cL o f) hx hb hml hown hts (okX10_lacks z l D T bx hR e1) (cwV 1 hts gL_law_X10_lacks rfl rfl rfl hdX10_lacks ⟨Nat.le_of_ble_eq_true rfl, Nat.le_of_ble_eq_true rfl⟩) hKx hA hXS hP hD hS (List.Perm.refl _) (ci := 10) (q0 := 0) rfl rfl rfl hl.1 rfl (Nat.le_of_ble_eq_true rfl) dL_law_579 ⟨lf1 hf.1 (Nat.le_of_ble_eq_true rfl), lf1 hf.2 (Nat.le_of_ble_eq_true rfl)⟩ (fun xa' H locs hR' _ hP hD hS => ?_)
  refine lv_aload_n hx hb dL_law_582 rfl (lv_at hl 2 rfl) ?_
  refine lv_aload_n hx hb dL_law_583 rfl (lv_at hl 0 rfl) ?_
  refine lv_iload hx hb dL_law_584 (lv_at hl 4 rfl) ?_
  refine lv_iconst (v := (1 : Int32)) hx hb dL_law_586 (by decide) ?_
  refine lv_iadd hx hb dL_law_587 ?_
  refine va_sld hx hb hX hbl hbA hS hI.2.1 dL_law_588 ?_
  refine y_mi (own := RL) (As := [.int (sc (i + 1).toNatClampNeg)]) (rest := [.int r]) (w0 := mW ba T' ms) (w1 := mW ba T' ms') (wr := xW bx T xa' xs' ++ lO cL o f) (wd' := xW bx T xa' xs' ++ (mW ba T' ms' ++ lO cL o f)) hx hb hml hown hts (okX11_lacks l D ba T' e2) (cwV 1 hts gL_law_X11_lacks rfl rfl rfl hdX11_lacks ⟨Nat.le_of_ble_eq_true rfl, Nat.le_of_ble_eq_true rfl⟩) hKm hA hP hD hS (pm1 _ _ _) (pm1 _ _ _) (ci := 11) (q0 := 0) rfl rfl rfl hl.1 rfl (Nat.le_of_ble_eq_true rfl) dL_law_589 ⟨lf2 hf.1 (Nat.le_of_ble_eq_true rfl), lf2 hf.2 (Nat.le_of_ble_eq_true rfl)⟩ (fun H locs hP hD hS => ?_)
  refine lv_icmp_eq (tgt := 1477) hx hb dL_law_592 (by decide) (fun _ => ?_) (fun h => absurd rfl h)
  refine W.widen (k := cells + 101) (n := slots + 102) (lf2 (Nat.le_refl _) (Nat.le_of_ble_eq_true rfl)) (lf2 (Nat.le_refl _) (Nat.le_of_ble_eq_true rfl)) ?_
  exact kk xa' xs' ms' f H locs ls hR' hRR' hP hD hS hl
set_option maxHeartbeats 4000000 in
theorem cs_falls (C : LX p l s m meth c b L sc D T T' cL z e0) (hI : lwI L i) (hf : cells + 101 ≤ 601024 ∧ slots + 102 ≤ 7293034) (kk : LK p l e s m below meth c Q b D T T' cL bx ba o i 1477 (cells + 101) (slots + 102)) : LK p l e s m below meth c Q b D T T' cL bx ba o i 597 cells slots := by
  intro xa xs ms f H locs ls hR hRR hP hD hS hl
  obtain ⟨⟨hx, hb, hr, hml, hown, hts, hX, hbl, hlocks, hgv⟩, hKx, hKm, hKo, hXS, hE, hl0⟩ := C
  have hA : ∀ q : Nat, s.heap.size ≤ q → lwA s q := fun _ h => h
  have hbA : ¬ lwA s b := Nat.not_le.mpr hbl
  obtain ⟨r, xs', ms', e1, e2, hRR'⟩ := qm_falls hRR
  refine lv_aload_n hx hb dL_law_597 rfl (lv_at hl 1 rfl) ?_
  refine y_vi (own := RL) (As := []) (rest := []) (wr := mW ba T' ms ++ lO cL o f) hx hb hml hown hts (okX10_falls z l D T bx hR e1) (cwV 0 hts gL_law_X10_falls rfl rfl rfl hdX10_falls ⟨Nat.le_of_ble_eq_true rfl, Nat.le_of_ble_eq_true rfl⟩) hKx hA hXS hP hD hS (List.Perm.refl _) (ci := 10) (q0 := 0) rfl rfl rfl hl.1 rfl (Nat.le_of_ble_eq_true rfl) dL_law_598 ⟨lf1 hf.1 (Nat.le_of_ble_eq_true rfl), lf1 hf.2 (Nat.le_of_ble_eq_true rfl)⟩ (fun xa' H locs hR' _ hP hD hS => ?_)
  refine lv_aload_n hx hb dL_law_601 rfl (lv_at hl 2 rfl) ?_
  refine y_mi (own := RL) (As := []) (rest := [.int r]) (w0 := mW ba T' ms) (w1 := mW ba T' ms') (wr := xW bx T xa' xs' ++ lO cL o f) (wd' := xW bx T xa' xs' ++ (mW ba T' ms' ++ lO cL o f)) hx hb hml hown hts (okX11_falls l D ba T' e2) (cwV 0 hts gL_law_X11_falls rfl rfl rfl hdX11_falls ⟨Nat.le_of_ble_eq_true rfl, Nat.le_of_ble_eq_true rfl⟩) hKm hA hP hD hS (pm1 _ _ _) (pm1 _ _ _) (ci := 11) (q0 := 0) rfl rfl rfl hl.1 rfl (Nat.le_of_ble_eq_true rfl) dL_law_602 ⟨lf2 hf.1 (Nat.le_of_ble_eq_true rfl), lf2 hf.2 (Nat.le_of_ble_eq_true rfl)⟩ (fun H locs hP hD hS => ?_)
  refine lv_icmp_eq (tgt := 1477) hx hb dL_law_605 (by decide) (fun _ => ?_) (fun h => absurd rfl h)
  refine W.widen (k := cells + 101) (n := slots + 102) (lf2 (Nat.le_refl _) (Nat.le_of_ble_eq_true rfl)) (lf2 (Nat.le_refl _) (Nat.le_of_ble_eq_true rfl)) ?_
  exact kk xa' xs' ms' f H locs ls hR' hRR' hP hD hS hl
set_option maxHeartbeats 4000000 in
theorem cs_canCut (C : LX p l s m meth c b L sc D T T' cL z e0) (hI : lwI L i) (hf : cells + 101 ≤ 601024 ∧ slots + 102 ≤ 7293034) (kk : LK p l e s m below meth c Q b D T T' cL bx ba o i 1477 (cells + 101) (slots + 102)) : LK p l e s m below meth c Q b D T T' cL bx ba o i 610 cells slots := by
  intro xa xs ms f H locs ls hR hRR hP hD hS hl
  obtain ⟨⟨hx, hb, hr, hml, hown, hts, hX, hbl, hlocks, hgv⟩, hKx, hKm, hKo, hXS, hE, hl0⟩ := C
  have hA : ∀ q : Nat, s.heap.size ≤ q → lwA s q := fun _ h => h
  have hbA : ¬ lwA s b := Nat.not_le.mpr hbl
  obtain ⟨r, xs', ms', e1, e2, hRR'⟩ := qm_canCut hRR
  refine lv_aload_n hx hb dL_law_610 rfl (lv_at hl 1 rfl) ?_
  refine y_vi (own := RL) (As := []) (rest := []) (wr := mW ba T' ms ++ lO cL o f) hx hb hml hown hts (okX10_canCut z l D T bx hR e1) (cwV 0 hts gL_law_X10_canCut rfl rfl rfl hdX10_canCut ⟨Nat.le_of_ble_eq_true rfl, Nat.le_of_ble_eq_true rfl⟩) hKx hA hXS hP hD hS (List.Perm.refl _) (ci := 10) (q0 := 0) rfl rfl rfl hl.1 rfl (Nat.le_of_ble_eq_true rfl) dL_law_611 ⟨lf1 hf.1 (Nat.le_of_ble_eq_true rfl), lf1 hf.2 (Nat.le_of_ble_eq_true rfl)⟩ (fun xa' H locs hR' _ hP hD hS => ?_)
  refine lv_aload_n hx hb dL_law_614 rfl (lv_at hl 2 rfl) ?_
  refine y_mi (own := RL) (As := []) (rest := [.int r]) (w0 := mW ba T' ms) (w1 := mW ba T' ms') (wr := xW bx T xa' xs' ++ lO cL o f) (wd' := xW bx T xa' xs' ++ (mW ba T' ms' ++ lO cL o f)) hx hb hml hown hts (okX11_canCut l D ba T' e2) (cwV 0 hts gL_law_X11_canCut rfl rfl rfl hdX11_canCut ⟨Nat.le_of_ble_eq_true rfl, Nat.le_of_ble_eq_true rfl⟩) hKm hA hP hD hS (pm1 _ _ _) (pm1 _ _ _) (ci := 11) (q0 := 0) rfl rfl rfl hl.1 rfl (Nat.le_of_ble_eq_true rfl) dL_law_615 ⟨lf2 hf.1 (Nat.le_of_ble_eq_true rfl), lf2 hf.2 (Nat.le_of_ble_eq_true rfl)⟩ (fun H locs hP hD hS => ?_)
  refine lv_icmp_eq (tgt := 1477) hx hb dL_law_618 (by decide) (fun _ => ?_) (fun h => absurd rfl h)
  refine W.widen (k := cells + 101) (n := slots + 102) (lf2 (Nat.le_refl _) (Nat.le_of_ble_eq_true rfl)) (lf2 (Nat.le_refl _) (Nat.le_of_ble_eq_true rfl)) ?_
  exact kk xa' xs' ms' f H locs ls hR' hRR' hP hD hS hl
set_option maxHeartbeats 4000000 in
theorem cs_weakest (C : LX p l s m meth c b L sc D T T' cL z e0) (hI : lwI L i) (hf : cells + 101 ≤ 601024 ∧ slots + 102 ≤ 7293034) (kk : LK p l e s m below meth c Q b D T T' cL bx ba o i 1477 (cells + 101) (slots + 102)) : LK p l e s m below meth c Q b D T T' cL bx ba o i 623 cells slots := by
  intro xa xs ms f H locs ls hR hRR hP hD hS hl
  obtain ⟨⟨hx, hb, hr, hml, hown, hts, hX, hbl, hlocks, hgv⟩, hKx, hKm, hKo, hXS, hE, hl0⟩ := C
  have hA : ∀ q : Nat, s.heap.size ≤ q → lwA s q := fun _ h => h
  have hbA : ¬ lwA s b := Nat.not_le.mpr hbl
  obtain ⟨r, xs', ms', e1, e2, hRR'⟩ := qm_weakest hRR
  refine lv_aload_n hx hb dL_law_623 rfl (lv_at hl 1 rfl) ?_
  refine y_vi (own := RL) (As := []) (rest := []) (wr := mW ba T' ms ++ lO cL o f) hx hb hml hown hts (okX10_weakest z l D T bx hR e1) (cwV 0 hts gL_law_X10_weakest rfl rfl rfl hdX10_weakest ⟨Nat.le_of_ble_eq_true rfl, Nat.le_of_ble_eq_true rfl⟩) hKx hA hXS hP hD hS (List.Perm.refl _) (ci := 10) (q0 := 0) rfl rfl rfl hl.1 rfl (Nat.le_of_ble_eq_true rfl) dL_law_624 ⟨lf1 hf.1 (Nat.le_of_ble_eq_true rfl), lf1 hf.2 (Nat.le_of_ble_eq_true rfl)⟩ (fun xa' H locs hR' _ hP hD hS => ?_)
  refine lv_aload_n hx hb dL_law_627 rfl (lv_at hl 2 rfl) ?_
  refine y_mi (own := RL) (As := []) (rest := [.int r]) (w0 := mW ba T' ms) (w1 := mW ba T' ms') (wr := xW bx T xa' xs' ++ lO cL o f) (wd' := xW bx T xa' xs' ++ (mW ba T' ms' ++ lO cL o f)) hx hb hml hown hts (okX11_weakest l D ba T' e2) (cwV 0 hts gL_law_X11_weakest rfl rfl rfl hdX11_weakest ⟨Nat.le_of_ble_eq_true rfl, Nat.le_of_ble_eq_true rfl⟩) hKm hA hP hD hS (pm1 _ _ _) (pm1 _ _ _) (ci := 11) (q0 := 0) rfl rfl rfl hl.1 rfl (Nat.le_of_ble_eq_true rfl) dL_law_628 ⟨lf2 hf.1 (Nat.le_of_ble_eq_true rfl), lf2 hf.2 (Nat.le_of_ble_eq_true rfl)⟩ (fun H locs hP hD hS => ?_)
  refine lv_icmp_eq (tgt := 1477) hx hb dL_law_631 (by decide) (fun _ => ?_) (fun h => absurd rfl h)
  refine W.widen (k := cells + 101) (n := slots + 102) (lf2 (Nat.le_refl _) (Nat.le_of_ble_eq_true rfl)) (lf2 (Nat.le_refl _) (Nat.le_of_ble_eq_true rfl)) ?_
  exact kk xa' xs' ms' f H locs ls hR' hRR' hP hD hS hl
end LAWCASE
