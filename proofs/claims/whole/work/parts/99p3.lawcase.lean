/-! the law's cases -/
section LAWCASE
variable {p : Program} {l : Launch} {e : Env} {s : State} {m : MethodId} {below : List Frame} {meth : Method} {c : Code} {Q : State → Prop} {cells slots : Nat}
variable {b L : Nat} {sc : Nat → Int32} {D : va_G} {T T' : mT3} {cL : ClassId} {z e0 bx ba : Nat → Nat} {o : Nat} {i : Int32}
set_option maxHeartbeats 4000000 in
theorem cs_forLane (C : LX p l s m meth c b L sc D T T' cL z e0) (hI : lwI L i) (hf : cells + 101 ≤ 601024 ∧ slots + 102 ≤ 7293034) (kk : LK p l e s m below meth c Q b D T T' cL bx ba o i 1477 (cells + 101) (slots + 102)) : LK p l e s m below meth c Q b D T T' cL bx ba o i 636 cells slots := by
  intro xa xs ms f H locs ls hR hRR hP hD hS hl
  obtain ⟨⟨hx, hb, hr, hml, hown, hts, hX, hbl, hlocks, hgv⟩, hKx, hKm, hKo, hXS, hE, hl0⟩ := C
  have hA : ∀ q : Nat, s.heap.size ≤ q → lwA s q := fun _ h => h
  have hbA : ¬ lwA s b := Nat.not_le.mpr hbl
  obtain ⟨r, xs', ms', e1, e2, hRR'⟩ := qm_forLane hRR
  refine lv_aload_n hx hb dL_law_636 rfl (lv_at hl 1 rfl) ?_
  refine y_vi (own := RL) (As := []) (rest := []) (wr := mW ba T' ms ++ lO cL o f) hx hb hml hown hts (okX10_forLane z l D T bx hR e1) (cwV 0 hts gL_law_X10_forLane rfl rfl rfl hdX10_forLane ⟨Nat.le_of_ble_eq_true rfl, Nat.le_of_ble_eq_true rfl⟩) hKx hA hXS hP hD hS (List.Perm.refl _) (ci := 10) (q0 := 0) rfl rfl rfl hl.1 rfl (Nat.le_of_ble_eq_true rfl) dL_law_637 ⟨lf1 hf.1 (Nat.le_of_ble_eq_true rfl), lf1 hf.2 (Nat.le_of_ble_eq_true rfl)⟩ (fun xa' H locs hR' _ hP hD hS => ?_)
  refine lv_aload_n hx hb dL_law_640 rfl (lv_at hl 2 rfl) ?_
  refine y_mi (own := RL) (As := []) (rest := [.int r]) (w0 := mW ba T' ms) (w1 := mW ba T' ms') (wr := xW bx T xa' xs' ++ lO cL o f) (wd' := xW bx T xa' xs' ++ (mW ba T' ms' ++ lO cL o f)) hx hb hml hown hts (okX11_forLane l D ba T' e2) (cwV 0 hts gL_law_X11_forLane rfl rfl rfl hdX11_forLane ⟨Nat.le_of_ble_eq_true rfl, Nat.le_of_ble_eq_true rfl⟩) hKm hA hP hD hS (pm1 _ _ _) (pm1 _ _ _) (ci := 11) (q0 := 0) rfl rfl rfl hl.1 rfl (Nat.le_of_ble_eq_true rfl) dL_law_641 ⟨lf2 hf.1 (Nat.le_of_ble_eq_true rfl), lf2 hf.2 (Nat.le_of_ble_eq_true rfl)⟩ (fun H locs hP hD hS => ?_)
  refine lv_icmp_eq (tgt := 1477) hx hb dL_law_644 (by decide) (fun _ => ?_) (fun h => absurd rfl h)
  refine W.widen (k := cells + 101) (n := slots + 102) (lf2 (Nat.le_refl _) (Nat.le_of_ble_eq_true rfl)) (lf2 (Nat.le_refl _) (Nat.le_of_ble_eq_true rfl)) ?_
  exact kk xa' xs' ms' f H locs ls hR' hRR' hP hD hS hl
set_option maxHeartbeats 4000000 in
theorem cs_order (C : LX p l s m meth c b L sc D T T' cL z e0) (hI : lwI L i) (hf : cells + 101 ≤ 601024 ∧ slots + 102 ≤ 7293034) (kk : LK p l e s m below meth c Q b D T T' cL bx ba o i 1477 (cells + 101) (slots + 102)) : LK p l e s m below meth c Q b D T T' cL bx ba o i 649 cells slots := by
  intro xa xs ms f H locs ls hR hRR hP hD hS hl
  obtain ⟨⟨hx, hb, hr, hml, hown, hts, hX, hbl, hlocks, hgv⟩, hKx, hKm, hKo, hXS, hE, hl0⟩ := C
  have hA : ∀ q : Nat, s.heap.size ≤ q → lwA s q := fun _ h => h
  have hbA : ¬ lwA s b := Nat.not_le.mpr hbl
  obtain ⟨r, xs', ms', e1, e2, hRR'⟩ := qm_order hRR (sc (i + 1).toNatClampNeg) (sc (i + 2).toNatClampNeg)
  refine lv_aload_n hx hb dL_law_649 rfl (lv_at hl 1 rfl) ?_
  refine lv_aload_n hx hb dL_law_650 rfl (lv_at hl 0 rfl) ?_
  refine lv_iload hx hb dL_law_651 (lv_at hl 4 rfl) ?_
  refine lv_iconst (v := (1 : Int32)) hx hb dL_law_653 (by decide) ?_
  refine lv_iadd hx hb dL_law_654 ?_
  refine va_sld hx hb hX hbl hbA hS hI.2.1 dL_law_655 ?_
  refine lv_aload_n hx hb dL_law_656 rfl (lv_at hl 0 rfl) ?_
  refine lv_iload hx hb dL_law_657 (lv_at hl 4 rfl) ?_
  refine lv_iconst (v := (2 : Int32)) hx hb dL_law_659 (by decide) ?_
  refine lv_iadd hx hb dL_law_660 ?_
  refine va_sld hx hb hX hbl hbA hS hI.2.2.1 dL_law_661 ?_
  refine y_vi (own := RL) (As := [.int (sc (i + 1).toNatClampNeg), .int (sc (i + 2).toNatClampNeg)]) (rest := []) (wr := mW ba T' ms ++ lO cL o f) hx hb hml hown hts (okX10_order z l D T bx hR e1) (cwV 2 hts gL_law_X10_order rfl rfl rfl hdX10_order ⟨Nat.le_of_ble_eq_true rfl, Nat.le_of_ble_eq_true rfl⟩) hKx hA hXS hP hD hS (List.Perm.refl _) (ci := 10) (q0 := 0) rfl rfl rfl hl.1 rfl (Nat.le_of_ble_eq_true rfl) dL_law_662 ⟨lf1 hf.1 (Nat.le_of_ble_eq_true rfl), lf1 hf.2 (Nat.le_of_ble_eq_true rfl)⟩ (fun xa' H locs hR' _ hP hD hS => ?_)
  refine lv_aload_n hx hb dL_law_665 rfl (lv_at hl 2 rfl) ?_
  refine lv_aload_n hx hb dL_law_666 rfl (lv_at hl 0 rfl) ?_
  refine lv_iload hx hb dL_law_667 (lv_at hl 4 rfl) ?_
  refine lv_iconst (v := (1 : Int32)) hx hb dL_law_669 (by decide) ?_
  refine lv_iadd hx hb dL_law_670 ?_
  refine va_sld hx hb hX hbl hbA hS hI.2.1 dL_law_671 ?_
  refine lv_aload_n hx hb dL_law_672 rfl (lv_at hl 0 rfl) ?_
  refine lv_iload hx hb dL_law_673 (lv_at hl 4 rfl) ?_
  refine lv_iconst (v := (2 : Int32)) hx hb dL_law_675 (by decide) ?_
  refine lv_iadd hx hb dL_law_676 ?_
  refine va_sld hx hb hX hbl hbA hS hI.2.2.1 dL_law_677 ?_
  refine y_mi (own := RL) (As := [.int (sc (i + 1).toNatClampNeg), .int (sc (i + 2).toNatClampNeg)]) (rest := [.int r]) (w0 := mW ba T' ms) (w1 := mW ba T' ms') (wr := xW bx T xa' xs' ++ lO cL o f) (wd' := xW bx T xa' xs' ++ (mW ba T' ms' ++ lO cL o f)) hx hb hml hown hts (okX11_order l D ba T' e2) (cwV 2 hts gL_law_X11_order rfl rfl rfl hdX11_order ⟨Nat.le_of_ble_eq_true rfl, Nat.le_of_ble_eq_true rfl⟩) hKm hA hP hD hS (pm1 _ _ _) (pm1 _ _ _) (ci := 11) (q0 := 0) rfl rfl rfl hl.1 rfl (Nat.le_of_ble_eq_true rfl) dL_law_678 ⟨lf2 hf.1 (Nat.le_of_ble_eq_true rfl), lf2 hf.2 (Nat.le_of_ble_eq_true rfl)⟩ (fun H locs hP hD hS => ?_)
  refine lv_icmp_eq (tgt := 1477) hx hb dL_law_681 (by decide) (fun _ => ?_) (fun h => absurd rfl h)
  refine W.widen (k := cells + 101) (n := slots + 102) (lf2 (Nat.le_refl _) (Nat.le_of_ble_eq_true rfl)) (lf2 (Nat.le_refl _) (Nat.le_of_ble_eq_true rfl)) ?_
  exact kk xa' xs' ms' f H locs ls hR' hRR' hP hD hS hl
set_option maxHeartbeats 4000000 in
theorem cs_round (C : LX p l s m meth c b L sc D T T' cL z e0) (hI : lwI L i) (hf : cells + 101 ≤ 601024 ∧ slots + 102 ≤ 7293034) (kk : LK p l e s m below meth c Q b D T T' cL bx ba o i 1477 (cells + 101) (slots + 102)) : LK p l e s m below meth c Q b D T T' cL bx ba o i 686 cells slots := by
  intro xa xs ms f H locs ls hR hRR hP hD hS hl
  obtain ⟨⟨hx, hb, hr, hml, hown, hts, hX, hbl, hlocks, hgv⟩, hKx, hKm, hKo, hXS, hE, hl0⟩ := C
  have hA : ∀ q : Nat, s.heap.size ≤ q → lwA s q := fun _ h => h
  have hbA : ¬ lwA s b := Nat.not_le.mpr hbl
  obtain ⟨r, xs', ms', e1, e2, hRR'⟩ := qm_round hRR
  refine lv_aload_n hx hb dL_law_686 rfl (lv_at hl 1 rfl) ?_
  refine y_vi (own := RL) (As := []) (rest := []) (wr := mW ba T' ms ++ lO cL o f) hx hb hml hown hts (okX10_round z l D T bx hR e1) (cwV 0 hts gL_law_X10_round rfl rfl rfl hdX10_round ⟨Nat.le_of_ble_eq_true rfl, Nat.le_of_ble_eq_true rfl⟩) hKx hA hXS hP hD hS (List.Perm.refl _) (ci := 10) (q0 := 0) rfl rfl rfl hl.1 rfl (Nat.le_of_ble_eq_true rfl) dL_law_687 ⟨lf1 hf.1 (Nat.le_of_ble_eq_true rfl), lf1 hf.2 (Nat.le_of_ble_eq_true rfl)⟩ (fun xa' H locs hR' _ hP hD hS => ?_)
  refine lv_aload_n hx hb dL_law_690 rfl (lv_at hl 2 rfl) ?_
  refine y_mi (own := RL) (As := []) (rest := [.int r]) (w0 := mW ba T' ms) (w1 := mW ba T' ms') (wr := xW bx T xa' xs' ++ lO cL o f) (wd' := xW bx T xa' xs' ++ (mW ba T' ms' ++ lO cL o f)) hx hb hml hown hts (okX11_round l D ba T' e2) (cwV 0 hts gL_law_X11_round rfl rfl rfl hdX11_round ⟨Nat.le_of_ble_eq_true rfl, Nat.le_of_ble_eq_true rfl⟩) hKm hA hP hD hS (pm1 _ _ _) (pm1 _ _ _) (ci := 11) (q0 := 0) rfl rfl rfl hl.1 rfl (Nat.le_of_ble_eq_true rfl) dL_law_691 ⟨lf2 hf.1 (Nat.le_of_ble_eq_true rfl), lf2 hf.2 (Nat.le_of_ble_eq_true rfl)⟩ (fun H locs hP hD hS => ?_)
  refine lv_icmp_eq (tgt := 1477) hx hb dL_law_694 (by decide) (fun _ => ?_) (fun h => absurd rfl h)
  refine W.widen (k := cells + 101) (n := slots + 102) (lf2 (Nat.le_refl _) (Nat.le_of_ble_eq_true rfl)) (lf2 (Nat.le_refl _) (Nat.le_of_ble_eq_true rfl)) ?_
  exact kk xa' xs' ms' f H locs ls hR' hRR' hP hD hS hl
set_option maxHeartbeats 4000000 in
theorem cs_moreOn (C : LX p l s m meth c b L sc D T T' cL z e0) (hI : lwI L i) (hf : cells + 101 ≤ 601024 ∧ slots + 102 ≤ 7293034) (kk : LK p l e s m below meth c Q b D T T' cL bx ba o i 1477 (cells + 101) (slots + 102)) : LK p l e s m below meth c Q b D T T' cL bx ba o i 699 cells slots := by
  intro xa xs ms f H locs ls hR hRR hP hD hS hl
  obtain ⟨⟨hx, hb, hr, hml, hown, hts, hX, hbl, hlocks, hgv⟩, hKx, hKm, hKo, hXS, hE, hl0⟩ := C
  have hA : ∀ q : Nat, s.heap.size ≤ q → lwA s q := fun _ h => h
  have hbA : ¬ lwA s b := Nat.not_le.mpr hbl
  obtain ⟨r, xs', ms', e1, e2, hRR'⟩ := qm_moreOn hRR
  refine lv_aload_n hx hb dL_law_699 rfl (lv_at hl 1 rfl) ?_
  refine y_vi (own := RL) (As := []) (rest := []) (wr := mW ba T' ms ++ lO cL o f) hx hb hml hown hts (okX10_moreOn z l D T bx hR e1) (cwV 0 hts gL_law_X10_moreOn rfl rfl rfl hdX10_moreOn ⟨Nat.le_of_ble_eq_true rfl, Nat.le_of_ble_eq_true rfl⟩) hKx hA hXS hP hD hS (List.Perm.refl _) (ci := 10) (q0 := 0) rfl rfl rfl hl.1 rfl (Nat.le_of_ble_eq_true rfl) dL_law_700 ⟨lf1 hf.1 (Nat.le_of_ble_eq_true rfl), lf1 hf.2 (Nat.le_of_ble_eq_true rfl)⟩ (fun xa' H locs hR' _ hP hD hS => ?_)
  refine lv_aload_n hx hb dL_law_703 rfl (lv_at hl 2 rfl) ?_
  refine y_mi (own := RL) (As := []) (rest := [.int r]) (w0 := mW ba T' ms) (w1 := mW ba T' ms') (wr := xW bx T xa' xs' ++ lO cL o f) (wd' := xW bx T xa' xs' ++ (mW ba T' ms' ++ lO cL o f)) hx hb hml hown hts (okX11_moreOn l D ba T' e2) (cwV 0 hts gL_law_X11_moreOn rfl rfl rfl hdX11_moreOn ⟨Nat.le_of_ble_eq_true rfl, Nat.le_of_ble_eq_true rfl⟩) hKm hA hP hD hS (pm1 _ _ _) (pm1 _ _ _) (ci := 11) (q0 := 0) rfl rfl rfl hl.1 rfl (Nat.le_of_ble_eq_true rfl) dL_law_704 ⟨lf2 hf.1 (Nat.le_of_ble_eq_true rfl), lf2 hf.2 (Nat.le_of_ble_eq_true rfl)⟩ (fun H locs hP hD hS => ?_)
  refine lv_icmp_eq (tgt := 1477) hx hb dL_law_707 (by decide) (fun _ => ?_) (fun h => absurd rfl h)
  refine W.widen (k := cells + 101) (n := slots + 102) (lf2 (Nat.le_refl _) (Nat.le_of_ble_eq_true rfl)) (lf2 (Nat.le_refl _) (Nat.le_of_ble_eq_true rfl)) ?_
  exact kk xa' xs' ms' f H locs ls hR' hRR' hP hD hS hl
set_option maxHeartbeats 4000000 in
theorem cs_will (C : LX p l s m meth c b L sc D T T' cL z e0) (hI : lwI L i) (hf : cells + 101 ≤ 601024 ∧ slots + 102 ≤ 7293034) (kk : LK p l e s m below meth c Q b D T T' cL bx ba o i 1477 (cells + 101) (slots + 102)) : LK p l e s m below meth c Q b D T T' cL bx ba o i 712 cells slots := by
  intro xa xs ms f H locs ls hR hRR hP hD hS hl
  obtain ⟨⟨hx, hb, hr, hml, hown, hts, hX, hbl, hlocks, hgv⟩, hKx, hKm, hKo, hXS, hE, hl0⟩ := C
  have hA : ∀ q : Nat, s.heap.size ≤ q → lwA s q := fun _ h => h
  have hbA : ¬ lwA s b := Nat.not_le.mpr hbl
  obtain ⟨r, xs', ms', e1, e2, hRR'⟩ := qm_will hRR (sc (i + 1).toNatClampNeg)
  refine lv_aload_n hx hb dL_law_712 rfl (lv_at hl 1 rfl) ?_
  refine lv_aload_n hx hb dL_law_713 rfl (lv_at hl 0 rfl) ?_
  refine lv_iload hx hb dL_law_714 (lv_at hl 4 rfl) ?_
  refine lv_iconst (v := (1 : Int32)) hx hb dL_law_716 (by decide) ?_
  refine lv_iadd hx hb dL_law_717 ?_
  refine va_sld hx hb hX hbl hbA hS hI.2.1 dL_law_718 ?_
  refine y_vi (own := RL) (As := [.int (sc (i + 1).toNatClampNeg)]) (rest := []) (wr := mW ba T' ms ++ lO cL o f) hx hb hml hown hts (okX10_will z l D T bx hR e1) (cwV 1 hts gL_law_X10_will rfl rfl rfl hdX10_will ⟨Nat.le_of_ble_eq_true rfl, Nat.le_of_ble_eq_true rfl⟩) hKx hA hXS hP hD hS (List.Perm.refl _) (ci := 10) (q0 := 0) rfl rfl rfl hl.1 rfl (Nat.le_of_ble_eq_true rfl) dL_law_719 ⟨lf1 hf.1 (Nat.le_of_ble_eq_true rfl), lf1 hf.2 (Nat.le_of_ble_eq_true rfl)⟩ (fun xa' H locs hR' _ hP hD hS => ?_)
  refine lv_aload_n hx hb dL_law_722 rfl (lv_at hl 2 rfl) ?_
  refine lv_aload_n hx hb dL_law_723 rfl (lv_at hl 0 rfl) ?_
  refine lv_iload hx hb dL_law_724 (lv_at hl 4 rfl) ?_
  refine lv_iconst (v := (1 : Int32)) hx hb dL_law_726 (by decide) ?_
  refine lv_iadd hx hb dL_law_727 ?_
  refine va_sld hx hb hX hbl hbA hS hI.2.1 dL_law_728 ?_
  refine y_mi (own := RL) (As := [.int (sc (i + 1).toNatClampNeg)]) (rest := [.int r]) (w0 := mW ba T' ms) (w1 := mW ba T' ms') (wr := xW bx T xa' xs' ++ lO cL o f) (wd' := xW bx T xa' xs' ++ (mW ba T' ms' ++ lO cL o f)) hx hb hml hown hts (okX11_will l D ba T' e2) (cwV 1 hts gL_law_X11_will rfl rfl rfl hdX11_will ⟨Nat.le_of_ble_eq_true rfl, Nat.le_of_ble_eq_true rfl⟩) hKm hA hP hD hS (pm1 _ _ _) (pm1 _ _ _) (ci := 11) (q0 := 0) rfl rfl rfl hl.1 rfl (Nat.le_of_ble_eq_true rfl) dL_law_729 ⟨lf2 hf.1 (Nat.le_of_ble_eq_true rfl), lf2 hf.2 (Nat.le_of_ble_eq_true rfl)⟩ (fun H locs hP hD hS => ?_)
  refine lv_icmp_eq (tgt := 1477) hx hb dL_law_732 (by decide) (fun _ => ?_) (fun h => absurd rfl h)
  refine W.widen (k := cells + 101) (n := slots + 102) (lf2 (Nat.le_refl _) (Nat.le_of_ble_eq_true rfl)) (lf2 (Nat.le_refl _) (Nat.le_of_ble_eq_true rfl)) ?_
  exact kk xa' xs' ms' f H locs ls hR' hRR' hP hD hS hl
set_option maxHeartbeats 4000000 in
theorem cs_thick (C : LX p l s m meth c b L sc D T T' cL z e0) (hI : lwI L i) (hf : cells + 101 ≤ 601024 ∧ slots + 102 ≤ 7293034) (kk : LK p l e s m below meth c Q b D T T' cL bx ba o i 1477 (cells + 101) (slots + 102)) : LK p l e s m below meth c Q b D T T' cL bx ba o i 737 cells slots := by
  intro xa xs ms f H locs ls hR hRR hP hD hS hl
  obtain ⟨⟨hx, hb, hr, hml, hown, hts, hX, hbl, hlocks, hgv⟩, hKx, hKm, hKo, hXS, hE, hl0⟩ := C
  have hA : ∀ q : Nat, s.heap.size ≤ q → lwA s q := fun _ h => h
  have hbA : ¬ lwA s b := Nat.not_le.mpr hbl
  obtain ⟨r, xs', ms', e1, e2, hRR'⟩ := qm_thick hRR (sc (i + 1).toNatClampNeg)
  refine lv_aload_n hx hb dL_law_737 rfl (lv_at hl 1 rfl) ?_
  refine lv_aload_n hx hb dL_law_738 rfl (lv_at hl 0 rfl) ?_
  refine lv_iload hx hb dL_law_739 (lv_at hl 4 rfl) ?_
  refine lv_iconst (v := (1 : Int32)) hx hb dL_law_741 (by decide) ?_
  refine lv_iadd hx hb dL_law_742 ?_
  refine va_sld hx hb hX hbl hbA hS hI.2.1 dL_law_743 ?_
  refine y_vi (own := RL) (As := [.int (sc (i + 1).toNatClampNeg)]) (rest := []) (wr := mW ba T' ms ++ lO cL o f) hx hb hml hown hts (okX10_thick z l D T bx hR e1) (cwV 1 hts gL_law_X10_thick rfl rfl rfl hdX10_thick ⟨Nat.le_of_ble_eq_true rfl, Nat.le_of_ble_eq_true rfl⟩) hKx hA hXS hP hD hS (List.Perm.refl _) (ci := 10) (q0 := 0) rfl rfl rfl hl.1 rfl (Nat.le_of_ble_eq_true rfl) dL_law_744 ⟨lf1 hf.1 (Nat.le_of_ble_eq_true rfl), lf1 hf.2 (Nat.le_of_ble_eq_true rfl)⟩ (fun xa' H locs hR' _ hP hD hS => ?_)
  refine lv_aload_n hx hb dL_law_747 rfl (lv_at hl 2 rfl) ?_
  refine lv_aload_n hx hb dL_law_748 rfl (lv_at hl 0 rfl) ?_
  refine lv_iload hx hb dL_law_749 (lv_at hl 4 rfl) ?_
  refine lv_iconst (v := (1 : Int32)) hx hb dL_law_751 (by decide) ?_
  refine lv_iadd hx hb dL_law_752 ?_
  refine va_sld hx hb hX hbl hbA hS hI.2.1 dL_law_753 ?_
  refine y_mi (own := RL) (As := [.int (sc (i + 1).toNatClampNeg)]) (rest := [.int r]) (w0 := mW ba T' ms) (w1 := mW ba T' ms') (wr := xW bx T xa' xs' ++ lO cL o f) (wd' := xW bx T xa' xs' ++ (mW ba T' ms' ++ lO cL o f)) hx hb hml hown hts (okX11_thick l D ba T' e2) (cwV 1 hts gL_law_X11_thick rfl rfl rfl hdX11_thick ⟨Nat.le_of_ble_eq_true rfl, Nat.le_of_ble_eq_true rfl⟩) hKm hA hP hD hS (pm1 _ _ _) (pm1 _ _ _) (ci := 11) (q0 := 0) rfl rfl rfl hl.1 rfl (Nat.le_of_ble_eq_true rfl) dL_law_754 ⟨lf2 hf.1 (Nat.le_of_ble_eq_true rfl), lf2 hf.2 (Nat.le_of_ble_eq_true rfl)⟩ (fun H locs hP hD hS => ?_)
  refine lv_icmp_eq (tgt := 1477) hx hb dL_law_757 (by decide) (fun _ => ?_) (fun h => absurd rfl h)
  refine W.widen (k := cells + 101) (n := slots + 102) (lf2 (Nat.le_refl _) (Nat.le_of_ble_eq_true rfl)) (lf2 (Nat.le_refl _) (Nat.le_of_ble_eq_true rfl)) ?_
  exact kk xa' xs' ms' f H locs ls hR' hRR' hP hD hS hl
set_option maxHeartbeats 4000000 in
theorem cs_winds (C : LX p l s m meth c b L sc D T T' cL z e0) (hI : lwI L i) (hf : cells + 101 ≤ 601024 ∧ slots + 102 ≤ 7293034) (kk : LK p l e s m below meth c Q b D T T' cL bx ba o i 1477 (cells + 101) (slots + 102)) : LK p l e s m below meth c Q b D T T' cL bx ba o i 762 cells slots := by
  intro xa xs ms f H locs ls hR hRR hP hD hS hl
  obtain ⟨⟨hx, hb, hr, hml, hown, hts, hX, hbl, hlocks, hgv⟩, hKx, hKm, hKo, hXS, hE, hl0⟩ := C
  have hA : ∀ q : Nat, s.heap.size ≤ q → lwA s q := fun _ h => h
  have hbA : ¬ lwA s b := Nat.not_le.mpr hbl
  obtain ⟨r, xs', ms', e1, e2, hRR'⟩ := qm_winds hRR (sc (i + 1).toNatClampNeg)
  refine lv_aload_n hx hb dL_law_762 rfl (lv_at hl 1 rfl) ?_
  refine lv_aload_n hx hb dL_law_763 rfl (lv_at hl 0 rfl) ?_
  refine lv_iload hx hb dL_law_764 (lv_at hl 4 rfl) ?_
  refine lv_iconst (v := (1 : Int32)) hx hb dL_law_766 (by decide) ?_
  refine lv_iadd hx hb dL_law_767 ?_
  refine va_sld hx hb hX hbl hbA hS hI.2.1 dL_law_768 ?_
  refine y_vi (own := RL) (As := [.int (sc (i + 1).toNatClampNeg)]) (rest := []) (wr := mW ba T' ms ++ lO cL o f) hx hb hml hown hts (okX10_winds z l D T bx hR e1) (cwV 1 hts gL_law_X10_winds rfl rfl rfl hdX10_winds ⟨Nat.le_of_ble_eq_true rfl, Nat.le_of_ble_eq_true rfl⟩) hKx hA hXS hP hD hS (List.Perm.refl _) (ci := 10) (q0 := 0) rfl rfl rfl hl.1 rfl (Nat.le_of_ble_eq_true rfl) dL_law_769 ⟨lf1 hf.1 (Nat.le_of_ble_eq_true rfl), lf1 hf.2 (Nat.le_of_ble_eq_true rfl)⟩ (fun xa' H locs hR' _ hP hD hS => ?_)
  refine lv_aload_n hx hb dL_law_772 rfl (lv_at hl 2 rfl) ?_
  refine lv_aload_n hx hb dL_law_773 rfl (lv_at hl 0 rfl) ?_
  refine lv_iload hx hb dL_law_774 (lv_at hl 4 rfl) ?_
  refine lv_iconst (v := (1 : Int32)) hx hb dL_law_776 (by decide) ?_
  refine lv_iadd hx hb dL_law_777 ?_
  refine va_sld hx hb hX hbl hbA hS hI.2.1 dL_law_778 ?_
  refine y_mi (own := RL) (As := [.int (sc (i + 1).toNatClampNeg)]) (rest := [.int r]) (w0 := mW ba T' ms) (w1 := mW ba T' ms') (wr := xW bx T xa' xs' ++ lO cL o f) (wd' := xW bx T xa' xs' ++ (mW ba T' ms' ++ lO cL o f)) hx hb hml hown hts (okX11_winds l D ba T' e2) (cwV 1 hts gL_law_X11_winds rfl rfl rfl hdX11_winds ⟨Nat.le_of_ble_eq_true rfl, Nat.le_of_ble_eq_true rfl⟩) hKm hA hP hD hS (pm1 _ _ _) (pm1 _ _ _) (ci := 11) (q0 := 0) rfl rfl rfl hl.1 rfl (Nat.le_of_ble_eq_true rfl) dL_law_779 ⟨lf2 hf.1 (Nat.le_of_ble_eq_true rfl), lf2 hf.2 (Nat.le_of_ble_eq_true rfl)⟩ (fun H locs hP hD hS => ?_)
  refine lv_icmp_eq (tgt := 1477) hx hb dL_law_782 (by decide) (fun _ => ?_) (fun h => absurd rfl h)
  refine W.widen (k := cells + 101) (n := slots + 102) (lf2 (Nat.le_refl _) (Nat.le_of_ble_eq_true rfl)) (lf2 (Nat.le_refl _) (Nat.le_of_ble_eq_true rfl)) ?_
  exact kk xa' xs' ms' f H locs ls hR' hRR' hP hD hS hl
set_option maxHeartbeats 4000000 in
theorem cs_anyWind (C : LX p l s m meth c b L sc D T T' cL z e0) (hI : lwI L i) (hf : cells + 101 ≤ 601024 ∧ slots + 102 ≤ 7293034) (kk : LK p l e s m below meth c Q b D T T' cL bx ba o i 1477 (cells + 101) (slots + 102)) : LK p l e s m below meth c Q b D T T' cL bx ba o i 787 cells slots := by
  intro xa xs ms f H locs ls hR hRR hP hD hS hl
  obtain ⟨⟨hx, hb, hr, hml, hown, hts, hX, hbl, hlocks, hgv⟩, hKx, hKm, hKo, hXS, hE, hl0⟩ := C
  have hA : ∀ q : Nat, s.heap.size ≤ q → lwA s q := fun _ h => h
  have hbA : ¬ lwA s b := Nat.not_le.mpr hbl
  obtain ⟨r, xs', ms', e1, e2, hRR'⟩ := qm_anyWind hRR (sc (i + 1).toNatClampNeg)
  refine lv_aload_n hx hb dL_law_787 rfl (lv_at hl 1 rfl) ?_
  refine lv_aload_n hx hb dL_law_788 rfl (lv_at hl 0 rfl) ?_
  refine lv_iload hx hb dL_law_789 (lv_at hl 4 rfl) ?_
  refine lv_iconst (v := (1 : Int32)) hx hb dL_law_791 (by decide) ?_
  refine lv_iadd hx hb dL_law_792 ?_
  refine va_sld hx hb hX hbl hbA hS hI.2.1 dL_law_793 ?_
  refine y_vl (own := RL) (As := [.int (sc (i + 1).toNatClampNeg)]) (rest := []) (wr := mW ba T' ms ++ lO cL o f) hx hb hml hown hts (okX10_anyWind z l D T bx hR e1) (cwV 1 hts gL_law_X10_anyWind rfl rfl rfl hdX10_anyWind ⟨Nat.le_of_ble_eq_true rfl, Nat.le_of_ble_eq_true rfl⟩) hKx hA hXS hP hD hS (List.Perm.refl _) (ci := 10) (q0 := 0) rfl rfl rfl hl.1 rfl (Nat.le_of_ble_eq_true rfl) dL_law_794 ⟨lf1 hf.1 (Nat.le_of_ble_eq_true rfl), lf1 hf.2 (Nat.le_of_ble_eq_true rfl)⟩ (fun xa' H locs hR' _ hP hD hS => ?_)
  refine lv_aload_n hx hb dL_law_797 rfl (lv_at hl 2 rfl) ?_
  refine lv_aload_n hx hb dL_law_798 rfl (lv_at hl 0 rfl) ?_
  refine lv_iload hx hb dL_law_799 (lv_at hl 4 rfl) ?_
  refine lv_iconst (v := (1 : Int32)) hx hb dL_law_801 (by decide) ?_
  refine lv_iadd hx hb dL_law_802 ?_
  refine va_sld hx hb hX hbl hbA hS hI.2.1 dL_law_803 ?_
  refine y_ml (own := RL) (As := [.int (sc (i + 1).toNatClampNeg)]) (rest := [.long r]) (w0 := mW ba T' ms) (w1 := mW ba T' ms') (wr := xW bx T xa' xs' ++ lO cL o f) (wd' := xW bx T xa' xs' ++ (mW ba T' ms' ++ lO cL o f)) hx hb hml hown hts (okX11_anyWind l D ba T' e2) (cwV 1 hts gL_law_X11_anyWind rfl rfl rfl hdX11_anyWind ⟨Nat.le_of_ble_eq_true rfl, Nat.le_of_ble_eq_true rfl⟩) hKm hA hP hD hS (pm1 _ _ _) (pm1 _ _ _) (ci := 11) (q0 := 0) rfl rfl rfl hl.1 rfl (Nat.le_of_ble_eq_true rfl) dL_law_804 ⟨lf2 hf.1 (Nat.le_of_ble_eq_true rfl), lf2 hf.2 (Nat.le_of_ble_eq_true rfl)⟩ (fun H locs hP hD hS => ?_)
  refine W.lcmp hx hb dL_law_807 ?_
  refine lv_if_eq (tgt := 1477) hx hb dL_law_808 (by decide) (fun _ => ?_) (fun h => absurd ((lg_cmp_eq r r).mpr rfl) h)
  refine W.widen (k := cells + 101) (n := slots + 102) (lf2 (Nat.le_refl _) (Nat.le_of_ble_eq_true rfl)) (lf2 (Nat.le_refl _) (Nat.le_of_ble_eq_true rfl)) ?_
  exact kk xa' xs' ms' f H locs ls hR' hRR' hP hD hS hl
end LAWCASE
