/-! the law's cases -/
section LAWCASE
variable {p : Program} {l : Launch} {e : Env} {s : State} {m : MethodId} {below : List Frame} {meth : Method} {c : Code} {Q : State → Prop} {cells slots : Nat}
variable {b L : Nat} {sc : Nat → Int32} {D : va_G} {T T' : mT3} {cL : ClassId} {z e0 bx ba : Nat → Nat} {o : Nat} {i : Int32}
set_option maxHeartbeats 4000000 in
theorem cs_forged (C : LX p l s m meth c b L sc D T T' cL z e0) (hI : lwI L i) (hf : cells + 101 ≤ 601024 ∧ slots + 102 ≤ 7293034) (kk : LK p l e s m below meth c Q b D T T' cL bx ba o i 1477 (cells + 101) (slots + 102)) : LK p l e s m below meth c Q b D T T' cL bx ba o i 978 cells slots := by
  intro xa xs ms f H locs ls hR hRR hP hD hS hl
  obtain ⟨⟨hx, hb, hr, hml, hown, hts, hX, hbl, hlocks, hgv⟩, hKx, hKm, hKo, hXS, hE, hl0⟩ := C
  have hA : ∀ q : Nat, s.heap.size ≤ q → lwA s q := fun _ h => h
  have hbA : ¬ lwA s b := Nat.not_le.mpr hbl
  obtain ⟨r, xs', ms', e1, e2, hRR'⟩ := qm_forged hRR (sc (i + 1).toNatClampNeg)
  refine lv_aload_n hx hb dL_law_978 rfl (lv_at hl 1 rfl) ?_
  refine lv_aload_n hx hb dL_law_979 rfl (lv_at hl 0 rfl) ?_
  refine lv_iload hx hb dL_law_980 (lv_at hl 4 rfl) ?_
  refine lv_iconst (v := (1 : Int32)) hx hb dL_law_982 (by decide) ?_
  refine lv_iadd hx hb dL_law_983 ?_
  refine va_sld hx hb hX hbl hbA hS hI.2.1 dL_law_984 ?_
  refine y_vi (own := RL) (As := [.int (sc (i + 1).toNatClampNeg)]) (rest := []) (wr := mW ba T' ms ++ lO cL o f) hx hb hml hown hts (okX10_forged z l D T bx hR e1) (cwV 1 hts gL_law_X10_forged rfl rfl rfl hdX10_forged ⟨Nat.le_of_ble_eq_true rfl, Nat.le_of_ble_eq_true rfl⟩) hKx hA hXS hP hD hS (List.Perm.refl _) (ci := 10) (q0 := 0) rfl rfl rfl hl.1 rfl (Nat.le_of_ble_eq_true rfl) dL_law_985 ⟨lf1 hf.1 (Nat.le_of_ble_eq_true rfl), lf1 hf.2 (Nat.le_of_ble_eq_true rfl)⟩ (fun xa' H locs hR' _ hP hD hS => ?_)
  refine lv_aload_n hx hb dL_law_988 rfl (lv_at hl 2 rfl) ?_
  refine lv_aload_n hx hb dL_law_989 rfl (lv_at hl 0 rfl) ?_
  refine lv_iload hx hb dL_law_990 (lv_at hl 4 rfl) ?_
  refine lv_iconst (v := (1 : Int32)) hx hb dL_law_992 (by decide) ?_
  refine lv_iadd hx hb dL_law_993 ?_
  refine va_sld hx hb hX hbl hbA hS hI.2.1 dL_law_994 ?_
  refine y_mi (own := RL) (As := [.int (sc (i + 1).toNatClampNeg)]) (rest := [.int r]) (w0 := mW ba T' ms) (w1 := mW ba T' ms') (wr := xW bx T xa' xs' ++ lO cL o f) (wd' := xW bx T xa' xs' ++ (mW ba T' ms' ++ lO cL o f)) hx hb hml hown hts (okX11_forged l D ba T' e2) (cwV 1 hts gL_law_X11_forged rfl rfl rfl hdX11_forged ⟨Nat.le_of_ble_eq_true rfl, Nat.le_of_ble_eq_true rfl⟩) hKm hA hP hD hS (pm1 _ _ _) (pm1 _ _ _) (ci := 11) (q0 := 0) rfl rfl rfl hl.1 rfl (Nat.le_of_ble_eq_true rfl) dL_law_995 ⟨lf2 hf.1 (Nat.le_of_ble_eq_true rfl), lf2 hf.2 (Nat.le_of_ble_eq_true rfl)⟩ (fun H locs hP hD hS => ?_)
  refine lv_icmp_eq (tgt := 1477) hx hb dL_law_998 (by decide) (fun _ => ?_) (fun h => absurd rfl h)
  refine W.widen (k := cells + 101) (n := slots + 102) (lf2 (Nat.le_refl _) (Nat.le_of_ble_eq_true rfl)) (lf2 (Nat.le_refl _) (Nat.le_of_ble_eq_true rfl)) ?_
  exact kk xa' xs' ms' f H locs ls hR' hRR' hP hD hS hl
set_option maxHeartbeats 4000000 in
theorem cs_judge (C : LX p l s m meth c b L sc D T T' cL z e0) (hI : lwI L i) (hf : cells + 101 ≤ 601024 ∧ slots + 102 ≤ 7293034) (kk : LK p l e s m below meth c Q b D T T' cL bx ba o i 1477 (cells + 101) (slots + 102)) : LK p l e s m below meth c Q b D T T' cL bx ba o i 1003 cells slots := by
  intro xa xs ms f H locs ls hR hRR hP hD hS hl
  obtain ⟨⟨hx, hb, hr, hml, hown, hts, hX, hbl, hlocks, hgv⟩, hKx, hKm, hKo, hXS, hE, hl0⟩ := C
  have hA : ∀ q : Nat, s.heap.size ≤ q → lwA s q := fun _ h => h
  have hbA : ¬ lwA s b := Nat.not_le.mpr hbl
  obtain ⟨r, xs', ms', e1, e2, hRR'⟩ := qm_judge hRR (sc (i + 1).toNatClampNeg)
  refine lv_aload_n hx hb dL_law_1003 rfl (lv_at hl 1 rfl) ?_
  refine lv_aload_n hx hb dL_law_1004 rfl (lv_at hl 0 rfl) ?_
  refine lv_iload hx hb dL_law_1005 (lv_at hl 4 rfl) ?_
  refine lv_iconst (v := (1 : Int32)) hx hb dL_law_1007 (by decide) ?_
  refine lv_iadd hx hb dL_law_1008 ?_
  refine va_sld hx hb hX hbl hbA hS hI.2.1 dL_law_1009 ?_
  refine y_vi (own := RL) (As := [.int (sc (i + 1).toNatClampNeg)]) (rest := []) (wr := mW ba T' ms ++ lO cL o f) hx hb hml hown hts (okX10_judge z l D T bx hR e1) (cwV 1 hts gL_law_X10_judge rfl rfl rfl hdX10_judge ⟨Nat.le_of_ble_eq_true rfl, Nat.le_of_ble_eq_true rfl⟩) hKx hA hXS hP hD hS (List.Perm.refl _) (ci := 10) (q0 := 0) rfl rfl rfl hl.1 rfl (Nat.le_of_ble_eq_true rfl) dL_law_1010 ⟨lf1 hf.1 (Nat.le_of_ble_eq_true rfl), lf1 hf.2 (Nat.le_of_ble_eq_true rfl)⟩ (fun xa' H locs hR' _ hP hD hS => ?_)
  refine lv_aload_n hx hb dL_law_1013 rfl (lv_at hl 2 rfl) ?_
  refine lv_aload_n hx hb dL_law_1014 rfl (lv_at hl 0 rfl) ?_
  refine lv_iload hx hb dL_law_1015 (lv_at hl 4 rfl) ?_
  refine lv_iconst (v := (1 : Int32)) hx hb dL_law_1017 (by decide) ?_
  refine lv_iadd hx hb dL_law_1018 ?_
  refine va_sld hx hb hX hbl hbA hS hI.2.1 dL_law_1019 ?_
  refine y_mi (own := RL) (As := [.int (sc (i + 1).toNatClampNeg)]) (rest := [.int r]) (w0 := mW ba T' ms) (w1 := mW ba T' ms') (wr := xW bx T xa' xs' ++ lO cL o f) (wd' := xW bx T xa' xs' ++ (mW ba T' ms' ++ lO cL o f)) hx hb hml hown hts (okX11_judge l D ba T' e2) (cwV 1 hts gL_law_X11_judge rfl rfl rfl hdX11_judge ⟨Nat.le_of_ble_eq_true rfl, Nat.le_of_ble_eq_true rfl⟩) hKm hA hP hD hS (pm1 _ _ _) (pm1 _ _ _) (ci := 11) (q0 := 0) rfl rfl rfl hl.1 rfl (Nat.le_of_ble_eq_true rfl) dL_law_1020 ⟨lf2 hf.1 (Nat.le_of_ble_eq_true rfl), lf2 hf.2 (Nat.le_of_ble_eq_true rfl)⟩ (fun H locs hP hD hS => ?_)
  refine lv_icmp_eq (tgt := 1477) hx hb dL_law_1023 (by decide) (fun _ => ?_) (fun h => absurd rfl h)
  refine W.widen (k := cells + 101) (n := slots + 102) (lf2 (Nat.le_refl _) (Nat.le_of_ble_eq_true rfl)) (lf2 (Nat.le_refl _) (Nat.le_of_ble_eq_true rfl)) ?_
  exact kk xa' xs' ms' f H locs ls hR' hRR' hP hD hS hl
set_option maxHeartbeats 4000000 in
theorem cs_days (C : LX p l s m meth c b L sc D T T' cL z e0) (hI : lwI L i) (hf : cells + 101 ≤ 601024 ∧ slots + 102 ≤ 7293034) (kk : LK p l e s m below meth c Q b D T T' cL bx ba o i 1477 (cells + 101) (slots + 102)) : LK p l e s m below meth c Q b D T T' cL bx ba o i 1028 cells slots := by
  intro xa xs ms f H locs ls hR hRR hP hD hS hl
  obtain ⟨⟨hx, hb, hr, hml, hown, hts, hX, hbl, hlocks, hgv⟩, hKx, hKm, hKo, hXS, hE, hl0⟩ := C
  have hA : ∀ q : Nat, s.heap.size ≤ q → lwA s q := fun _ h => h
  have hbA : ¬ lwA s b := Nat.not_le.mpr hbl
  obtain ⟨r, xs', ms', e1, e2, hRR'⟩ := qm_days hRR (sc (i + 1).toNatClampNeg) (sc (i + 2).toNatClampNeg) (sc (i + 3).toNatClampNeg)
  refine lv_aload_n hx hb dL_law_1028 rfl (lv_at hl 1 rfl) ?_
  refine lv_aload_n hx hb dL_law_1029 rfl (lv_at hl 0 rfl) ?_
  refine lv_iload hx hb dL_law_1030 (lv_at hl 4 rfl) ?_
  refine lv_iconst (v := (1 : Int32)) hx hb dL_law_1032 (by decide) ?_
  refine lv_iadd hx hb dL_law_1033 ?_
  refine va_sld hx hb hX hbl hbA hS hI.2.1 dL_law_1034 ?_
  refine lv_aload_n hx hb dL_law_1035 rfl (lv_at hl 0 rfl) ?_
  refine lv_iload hx hb dL_law_1036 (lv_at hl 4 rfl) ?_
  refine lv_iconst (v := (2 : Int32)) hx hb dL_law_1038 (by decide) ?_
  refine lv_iadd hx hb dL_law_1039 ?_
  refine va_sld hx hb hX hbl hbA hS hI.2.2.1 dL_law_1040 ?_
  refine lv_aload_n hx hb dL_law_1041 rfl (lv_at hl 0 rfl) ?_
  refine lv_iload hx hb dL_law_1042 (lv_at hl 4 rfl) ?_
  refine lv_iconst (v := (3 : Int32)) hx hb dL_law_1044 (by decide) ?_
  refine lv_iadd hx hb dL_law_1045 ?_
  refine va_sld hx hb hX hbl hbA hS hI.2.2.2.1 dL_law_1046 ?_
  refine y_vi (own := RL) (As := [.int (sc (i + 1).toNatClampNeg), .int (sc (i + 2).toNatClampNeg), .int (sc (i + 3).toNatClampNeg)]) (rest := []) (wr := mW ba T' ms ++ lO cL o f) hx hb hml hown hts (okX10_days z l D T bx hR e1) (cwV 3 hts gL_law_X10_days rfl rfl rfl hdX10_days ⟨Nat.le_of_ble_eq_true rfl, Nat.le_of_ble_eq_true rfl⟩) hKx hA hXS hP hD hS (List.Perm.refl _) (ci := 10) (q0 := 0) rfl rfl rfl hl.1 rfl (Nat.le_of_ble_eq_true rfl) dL_law_1047 ⟨lf1 hf.1 (Nat.le_of_ble_eq_true rfl), lf1 hf.2 (Nat.le_of_ble_eq_true rfl)⟩ (fun xa' H locs hR' _ hP hD hS => ?_)
  refine lv_aload_n hx hb dL_law_1050 rfl (lv_at hl 2 rfl) ?_
  refine lv_aload_n hx hb dL_law_1051 rfl (lv_at hl 0 rfl) ?_
  refine lv_iload hx hb dL_law_1052 (lv_at hl 4 rfl) ?_
  refine lv_iconst (v := (1 : Int32)) hx hb dL_law_1054 (by decide) ?_
  refine lv_iadd hx hb dL_law_1055 ?_
  refine va_sld hx hb hX hbl hbA hS hI.2.1 dL_law_1056 ?_
  refine lv_aload_n hx hb dL_law_1057 rfl (lv_at hl 0 rfl) ?_
  refine lv_iload hx hb dL_law_1058 (lv_at hl 4 rfl) ?_
  refine lv_iconst (v := (2 : Int32)) hx hb dL_law_1060 (by decide) ?_
  refine lv_iadd hx hb dL_law_1061 ?_
  refine va_sld hx hb hX hbl hbA hS hI.2.2.1 dL_law_1062 ?_
  refine lv_aload_n hx hb dL_law_1063 rfl (lv_at hl 0 rfl) ?_
  refine lv_iload hx hb dL_law_1064 (lv_at hl 4 rfl) ?_
  refine lv_iconst (v := (3 : Int32)) hx hb dL_law_1066 (by decide) ?_
  refine lv_iadd hx hb dL_law_1067 ?_
  refine va_sld hx hb hX hbl hbA hS hI.2.2.2.1 dL_law_1068 ?_
  refine y_mi (own := RL) (As := [.int (sc (i + 1).toNatClampNeg), .int (sc (i + 2).toNatClampNeg), .int (sc (i + 3).toNatClampNeg)]) (rest := [.int r]) (w0 := mW ba T' ms) (w1 := mW ba T' ms') (wr := xW bx T xa' xs' ++ lO cL o f) (wd' := xW bx T xa' xs' ++ (mW ba T' ms' ++ lO cL o f)) hx hb hml hown hts (okX11_days l D ba T' e2) (cwV 3 hts gL_law_X11_days rfl rfl rfl hdX11_days ⟨Nat.le_of_ble_eq_true rfl, Nat.le_of_ble_eq_true rfl⟩) hKm hA hP hD hS (pm1 _ _ _) (pm1 _ _ _) (ci := 11) (q0 := 0) rfl rfl rfl hl.1 rfl (Nat.le_of_ble_eq_true rfl) dL_law_1069 ⟨lf2 hf.1 (Nat.le_of_ble_eq_true rfl), lf2 hf.2 (Nat.le_of_ble_eq_true rfl)⟩ (fun H locs hP hD hS => ?_)
  refine lv_icmp_eq (tgt := 1477) hx hb dL_law_1072 (by decide) (fun _ => ?_) (fun h => absurd rfl h)
  refine W.widen (k := cells + 101) (n := slots + 102) (lf2 (Nat.le_refl _) (Nat.le_of_ble_eq_true rfl)) (lf2 (Nat.le_refl _) (Nat.le_of_ble_eq_true rfl)) ?_
  exact kk xa' xs' ms' f H locs ls hR' hRR' hP hD hS hl
set_option maxHeartbeats 4000000 in
theorem cs_image (C : LX p l s m meth c b L sc D T T' cL z e0) (hI : lwI L i) (hf : cells + 101 ≤ 601024 ∧ slots + 102 ≤ 7293034) (kk : LK p l e s m below meth c Q b D T T' cL bx ba o i 1477 (cells + 101) (slots + 102)) : LK p l e s m below meth c Q b D T T' cL bx ba o i 1077 cells slots := by
  intro xa xs ms f H locs ls hR hRR hP hD hS hl
  obtain ⟨⟨hx, hb, hr, hml, hown, hts, hX, hbl, hlocks, hgv⟩, hKx, hKm, hKo, hXS, hE, hl0⟩ := C
  have hA : ∀ q : Nat, s.heap.size ≤ q → lwA s q := fun _ h => h
  have hbA : ¬ lwA s b := Nat.not_le.mpr hbl
  obtain ⟨r, xs', ms', e1, e2, hRR'⟩ := qm_image hRR
  refine lv_aload_n hx hb dL_law_1077 rfl (lv_at hl 1 rfl) ?_
  refine y_vi (own := RL) (As := []) (rest := []) (wr := mW ba T' ms ++ lO cL o f) hx hb hml hown hts (okX10_image z l D T bx hR e1) (cwV 0 hts gL_law_X10_image rfl rfl rfl hdX10_image ⟨Nat.le_of_ble_eq_true rfl, Nat.le_of_ble_eq_true rfl⟩) hKx hA hXS hP hD hS (List.Perm.refl _) (ci := 10) (q0 := 0) rfl rfl rfl hl.1 rfl (Nat.le_of_ble_eq_true rfl) dL_law_1078 ⟨lf1 hf.1 (Nat.le_of_ble_eq_true rfl), lf1 hf.2 (Nat.le_of_ble_eq_true rfl)⟩ (fun xa' H locs hR' _ hP hD hS => ?_)
  refine lv_aload_n hx hb dL_law_1081 rfl (lv_at hl 2 rfl) ?_
  refine y_mi (own := RL) (As := []) (rest := [.int r]) (w0 := mW ba T' ms) (w1 := mW ba T' ms') (wr := xW bx T xa' xs' ++ lO cL o f) (wd' := xW bx T xa' xs' ++ (mW ba T' ms' ++ lO cL o f)) hx hb hml hown hts (okX11_image l D ba T' e2) (cwV 0 hts gL_law_X11_image rfl rfl rfl hdX11_image ⟨Nat.le_of_ble_eq_true rfl, Nat.le_of_ble_eq_true rfl⟩) hKm hA hP hD hS (pm1 _ _ _) (pm1 _ _ _) (ci := 11) (q0 := 0) rfl rfl rfl hl.1 rfl (Nat.le_of_ble_eq_true rfl) dL_law_1082 ⟨lf2 hf.1 (Nat.le_of_ble_eq_true rfl), lf2 hf.2 (Nat.le_of_ble_eq_true rfl)⟩ (fun H locs hP hD hS => ?_)
  refine lv_icmp_eq (tgt := 1477) hx hb dL_law_1085 (by decide) (fun _ => ?_) (fun h => absurd rfl h)
  refine W.widen (k := cells + 101) (n := slots + 102) (lf2 (Nat.le_refl _) (Nat.le_of_ble_eq_true rfl)) (lf2 (Nat.le_refl _) (Nat.le_of_ble_eq_true rfl)) ?_
  exact kk xa' xs' ms' f H locs ls hR' hRR' hP hD hS hl
set_option maxHeartbeats 4000000 in
theorem cs_restore (C : LX p l s m meth c b L sc D T T' cL z e0) (hI : lwI L i) (hf : cells + 101 ≤ 601024 ∧ slots + 102 ≤ 7293034) (kk : LK p l e s m below meth c Q b D T T' cL bx ba o i 1477 (cells + 101) (slots + 102)) : LK p l e s m below meth c Q b D T T' cL bx ba o i 1090 cells slots := by
  intro xa xs ms f H locs ls hR hRR hP hD hS hl
  obtain ⟨⟨hx, hb, hr, hml, hown, hts, hX, hbl, hlocks, hgv⟩, hKx, hKm, hKo, hXS, hE, hl0⟩ := C
  have hA : ∀ q : Nat, s.heap.size ≤ q → lwA s q := fun _ h => h
  have hbA : ¬ lwA s b := Nat.not_le.mpr hbl
  obtain ⟨r, xs', ms', e1, e2, hRR'⟩ := qm_restore hRR
  refine lv_aload_n hx hb dL_law_1090 rfl (lv_at hl 1 rfl) ?_
  refine y_vi (own := RL) (As := []) (rest := []) (wr := mW ba T' ms ++ lO cL o f) hx hb hml hown hts (okX10_restore z l D T bx hR e1) (cwV 0 hts gL_law_X10_restore rfl rfl rfl hdX10_restore ⟨Nat.le_of_ble_eq_true rfl, Nat.le_of_ble_eq_true rfl⟩) hKx hA hXS hP hD hS (List.Perm.refl _) (ci := 10) (q0 := 0) rfl rfl rfl hl.1 rfl (Nat.le_of_ble_eq_true rfl) dL_law_1091 ⟨lf1 hf.1 (Nat.le_of_ble_eq_true rfl), lf1 hf.2 (Nat.le_of_ble_eq_true rfl)⟩ (fun xa' H locs hR' _ hP hD hS => ?_)
  refine lv_aload_n hx hb dL_law_1094 rfl (lv_at hl 2 rfl) ?_
  refine y_mi (own := RL) (As := []) (rest := [.int r]) (w0 := mW ba T' ms) (w1 := mW ba T' ms') (wr := xW bx T xa' xs' ++ lO cL o f) (wd' := xW bx T xa' xs' ++ (mW ba T' ms' ++ lO cL o f)) hx hb hml hown hts (okX11_restore l D ba T' e2) (cwV 0 hts gL_law_X11_restore rfl rfl rfl hdX11_restore ⟨Nat.le_of_ble_eq_true rfl, Nat.le_of_ble_eq_true rfl⟩) hKm hA hP hD hS (pm1 _ _ _) (pm1 _ _ _) (ci := 11) (q0 := 0) rfl rfl rfl hl.1 rfl (Nat.le_of_ble_eq_true rfl) dL_law_1095 ⟨lf2 hf.1 (Nat.le_of_ble_eq_true rfl), lf2 hf.2 (Nat.le_of_ble_eq_true rfl)⟩ (fun H locs hP hD hS => ?_)
  refine lv_icmp_eq (tgt := 1477) hx hb dL_law_1098 (by decide) (fun _ => ?_) (fun h => absurd rfl h)
  refine W.widen (k := cells + 101) (n := slots + 102) (lf2 (Nat.le_refl _) (Nat.le_of_ble_eq_true rfl)) (lf2 (Nat.le_refl _) (Nat.le_of_ble_eq_true rfl)) ?_
  exact kk xa' xs' ms' f H locs ls hR' hRR' hP hD hS hl
set_option maxHeartbeats 4000000 in
theorem cs_count (C : LX p l s m meth c b L sc D T T' cL z e0) (hI : lwI L i) (hf : cells + 101 ≤ 601024 ∧ slots + 102 ≤ 7293034) (kk : LK p l e s m below meth c Q b D T T' cL bx ba o i 1477 (cells + 101) (slots + 102)) : LK p l e s m below meth c Q b D T T' cL bx ba o i 1103 cells slots := by
  intro xa xs ms f H locs ls hR hRR hP hD hS hl
  obtain ⟨⟨hx, hb, hr, hml, hown, hts, hX, hbl, hlocks, hgv⟩, hKx, hKm, hKo, hXS, hE, hl0⟩ := C
  have hA : ∀ q : Nat, s.heap.size ≤ q → lwA s q := fun _ h => h
  have hbA : ¬ lwA s b := Nat.not_le.mpr hbl
  obtain ⟨r, xs', ms', e1, e2, hRR'⟩ := qm_count hRR (sc (i + 1).toNatClampNeg)
  refine lv_aload_n hx hb dL_law_1103 rfl (lv_at hl 1 rfl) ?_
  refine lv_aload_n hx hb dL_law_1104 rfl (lv_at hl 0 rfl) ?_
  refine lv_iload hx hb dL_law_1105 (lv_at hl 4 rfl) ?_
  refine lv_iconst (v := (1 : Int32)) hx hb dL_law_1107 (by decide) ?_
  refine lv_iadd hx hb dL_law_1108 ?_
  refine va_sld hx hb hX hbl hbA hS hI.2.1 dL_law_1109 ?_
  refine y_vi (own := RL) (As := [.int (sc (i + 1).toNatClampNeg)]) (rest := []) (wr := mW ba T' ms ++ lO cL o f) hx hb hml hown hts (okX10_count z l D T bx hR e1) (cwV 1 hts gL_law_X10_count rfl rfl rfl hdX10_count ⟨Nat.le_of_ble_eq_true rfl, Nat.le_of_ble_eq_true rfl⟩) hKx hA hXS hP hD hS (List.Perm.refl _) (ci := 10) (q0 := 0) rfl rfl rfl hl.1 rfl (Nat.le_of_ble_eq_true rfl) dL_law_1110 ⟨lf1 hf.1 (Nat.le_of_ble_eq_true rfl), lf1 hf.2 (Nat.le_of_ble_eq_true rfl)⟩ (fun xa' H locs hR' _ hP hD hS => ?_)
  refine lv_aload_n hx hb dL_law_1113 rfl (lv_at hl 2 rfl) ?_
  refine lv_aload_n hx hb dL_law_1114 rfl (lv_at hl 0 rfl) ?_
  refine lv_iload hx hb dL_law_1115 (lv_at hl 4 rfl) ?_
  refine lv_iconst (v := (1 : Int32)) hx hb dL_law_1117 (by decide) ?_
  refine lv_iadd hx hb dL_law_1118 ?_
  refine va_sld hx hb hX hbl hbA hS hI.2.1 dL_law_1119 ?_
  refine y_mi (own := RL) (As := [.int (sc (i + 1).toNatClampNeg)]) (rest := [.int r]) (w0 := mW ba T' ms) (w1 := mW ba T' ms') (wr := xW bx T xa' xs' ++ lO cL o f) (wd' := xW bx T xa' xs' ++ (mW ba T' ms' ++ lO cL o f)) hx hb hml hown hts (okX11_count l D ba T' e2) (cwV 1 hts gL_law_X11_count rfl rfl rfl hdX11_count ⟨Nat.le_of_ble_eq_true rfl, Nat.le_of_ble_eq_true rfl⟩) hKm hA hP hD hS (pm1 _ _ _) (pm1 _ _ _) (ci := 11) (q0 := 0) rfl rfl rfl hl.1 rfl (Nat.le_of_ble_eq_true rfl) dL_law_1120 ⟨lf2 hf.1 (Nat.le_of_ble_eq_true rfl), lf2 hf.2 (Nat.le_of_ble_eq_true rfl)⟩ (fun H locs hP hD hS => ?_)
  refine lv_icmp_eq (tgt := 1477) hx hb dL_law_1123 (by decide) (fun _ => ?_) (fun h => absurd rfl h)
  refine W.widen (k := cells + 101) (n := slots + 102) (lf2 (Nat.le_refl _) (Nat.le_of_ble_eq_true rfl)) (lf2 (Nat.le_refl _) (Nat.le_of_ble_eq_true rfl)) ?_
  exact kk xa' xs' ms' f H locs ls hR' hRR' hP hD hS hl
set_option maxHeartbeats 4000000 in
theorem cs_keep (C : LX p l s m meth c b L sc D T T' cL z e0) (hI : lwI L i) (hf : cells + 101 ≤ 601024 ∧ slots + 102 ≤ 7293034) (kk : LK p l e s m below meth c Q b D T T' cL bx ba o i 1477 (cells + 101) (slots + 102)) : LK p l e s m below meth c Q b D T T' cL bx ba o i 1128 cells slots := by
  intro xa xs ms f H locs ls hR hRR hP hD hS hl
  obtain ⟨⟨hx, hb, hr, hml, hown, hts, hX, hbl, hlocks, hgv⟩, hKx, hKm, hKo, hXS, hE, hl0⟩ := C
  have hA : ∀ q : Nat, s.heap.size ≤ q → lwA s q := fun _ h => h
  have hbA : ¬ lwA s b := Nat.not_le.mpr hbl
  obtain ⟨r, xs', ms', e1, e2, hRR'⟩ := qm_keep hRR (sc (i + 1).toNatClampNeg) (sc (i + 2).toNatClampNeg) (sc (i + 3).toNatClampNeg) (sc (i + 4).toNatClampNeg)
  refine lv_aload_n hx hb dL_law_1128 rfl (lv_at hl 1 rfl) ?_
  refine lv_aload_n hx hb dL_law_1129 rfl (lv_at hl 0 rfl) ?_
  refine lv_iload hx hb dL_law_1130 (lv_at hl 4 rfl) ?_
  refine lv_iconst (v := (1 : Int32)) hx hb dL_law_1132 (by decide) ?_
  refine lv_iadd hx hb dL_law_1133 ?_
  refine va_sld hx hb hX hbl hbA hS hI.2.1 dL_law_1134 ?_
  refine lv_aload_n hx hb dL_law_1135 rfl (lv_at hl 0 rfl) ?_
  refine lv_iload hx hb dL_law_1136 (lv_at hl 4 rfl) ?_
  refine lv_iconst (v := (2 : Int32)) hx hb dL_law_1138 (by decide) ?_
  refine lv_iadd hx hb dL_law_1139 ?_
  refine va_sld hx hb hX hbl hbA hS hI.2.2.1 dL_law_1140 ?_
  refine lv_aload_n hx hb dL_law_1141 rfl (lv_at hl 0 rfl) ?_
  refine lv_iload hx hb dL_law_1142 (lv_at hl 4 rfl) ?_
  refine lv_iconst (v := (3 : Int32)) hx hb dL_law_1144 (by decide) ?_
  refine lv_iadd hx hb dL_law_1145 ?_
  refine va_sld hx hb hX hbl hbA hS hI.2.2.2.1 dL_law_1146 ?_
  refine lv_aload_n hx hb dL_law_1147 rfl (lv_at hl 0 rfl) ?_
  refine lv_iload hx hb dL_law_1148 (lv_at hl 4 rfl) ?_
  refine lv_iconst (v := (4 : Int32)) hx hb dL_law_1150 (by decide) ?_
  refine lv_iadd hx hb dL_law_1151 ?_
  refine va_sld hx hb hX hbl hbA hS hI.2.2.2.2.1 dL_law_1152 ?_
  refine y_vi (own := RL) (As := [.int (sc (i + 1).toNatClampNeg), .int (sc (i + 2).toNatClampNeg), .int (sc (i + 3).toNatClampNeg), .int (sc (i + 4).toNatClampNeg)]) (rest := []) (wr := mW ba T' ms ++ lO cL o f) hx hb hml hown hts (okX10_keep z l D T bx hR e1) (cwV 4 hts gL_law_X10_keep rfl rfl rfl hdX10_keep ⟨Nat.le_of_ble_eq_true rfl, Nat.le_of_ble_eq_true rfl⟩) hKx hA hXS hP hD hS (List.Perm.refl _) (ci := 10) (q0 := 0) rfl rfl rfl hl.1 rfl (Nat.le_of_ble_eq_true rfl) dL_law_1153 ⟨lf1 hf.1 (Nat.le_of_ble_eq_true rfl), lf1 hf.2 (Nat.le_of_ble_eq_true rfl)⟩ (fun xa' H locs hR' _ hP hD hS => ?_)
  refine lv_aload_n hx hb dL_law_1156 rfl (lv_at hl 2 rfl) ?_
  refine lv_aload_n hx hb dL_law_1157 rfl (lv_at hl 0 rfl) ?_
  refine lv_iload hx hb dL_law_1158 (lv_at hl 4 rfl) ?_
  refine lv_iconst (v := (1 : Int32)) hx hb dL_law_1160 (by decide) ?_
  refine lv_iadd hx hb dL_law_1161 ?_
  refine va_sld hx hb hX hbl hbA hS hI.2.1 dL_law_1162 ?_
  refine lv_aload_n hx hb dL_law_1163 rfl (lv_at hl 0 rfl) ?_
  refine lv_iload hx hb dL_law_1164 (lv_at hl 4 rfl) ?_
  refine lv_iconst (v := (2 : Int32)) hx hb dL_law_1166 (by decide) ?_
  refine lv_iadd hx hb dL_law_1167 ?_
  refine va_sld hx hb hX hbl hbA hS hI.2.2.1 dL_law_1168 ?_
  refine lv_aload_n hx hb dL_law_1169 rfl (lv_at hl 0 rfl) ?_
  refine lv_iload hx hb dL_law_1170 (lv_at hl 4 rfl) ?_
  refine lv_iconst (v := (3 : Int32)) hx hb dL_law_1172 (by decide) ?_
  refine lv_iadd hx hb dL_law_1173 ?_
  refine va_sld hx hb hX hbl hbA hS hI.2.2.2.1 dL_law_1174 ?_
  refine lv_aload_n hx hb dL_law_1175 rfl (lv_at hl 0 rfl) ?_
  refine lv_iload hx hb dL_law_1176 (lv_at hl 4 rfl) ?_
  refine lv_iconst (v := (4 : Int32)) hx hb dL_law_1178 (by decide) ?_
  refine lv_iadd hx hb dL_law_1179 ?_
  refine va_sld hx hb hX hbl hbA hS hI.2.2.2.2.1 dL_law_1180 ?_
  refine y_mi (own := RL) (As := [.int (sc (i + 1).toNatClampNeg), .int (sc (i + 2).toNatClampNeg), .int (sc (i + 3).toNatClampNeg), .int (sc (i + 4).toNatClampNeg)]) (rest := [.int r]) (w0 := mW ba T' ms) (w1 := mW ba T' ms') (wr := xW bx T xa' xs' ++ lO cL o f) (wd' := xW bx T xa' xs' ++ (mW ba T' ms' ++ lO cL o f)) hx hb hml hown hts (okX11_keep l D ba T' e2) (cwV 4 hts gL_law_X11_keep rfl rfl rfl hdX11_keep ⟨Nat.le_of_ble_eq_true rfl, Nat.le_of_ble_eq_true rfl⟩) hKm hA hP hD hS (pm1 _ _ _) (pm1 _ _ _) (ci := 11) (q0 := 0) rfl rfl rfl hl.1 rfl (Nat.le_of_ble_eq_true rfl) dL_law_1181 ⟨lf2 hf.1 (Nat.le_of_ble_eq_true rfl), lf2 hf.2 (Nat.le_of_ble_eq_true rfl)⟩ (fun H locs hP hD hS => ?_)
  refine lv_icmp_eq (tgt := 1477) hx hb dL_law_1184 (by decide) (fun _ => ?_) (fun h => absurd rfl h)
  refine W.widen (k := cells + 101) (n := slots + 102) (lf2 (Nat.le_refl _) (Nat.le_of_ble_eq_true rfl)) (lf2 (Nat.le_refl _) (Nat.le_of_ble_eq_true rfl)) ?_
  exact kk xa' xs' ms' f H locs ls hR' hRR' hP hD hS hl
set_option maxHeartbeats 4000000 in
theorem cs_row (C : LX p l s m meth c b L sc D T T' cL z e0) (hI : lwI L i) (hf : cells + 101 ≤ 601024 ∧ slots + 102 ≤ 7293034) (kk : LK p l e s m below meth c Q b D T T' cL bx ba o i 1477 (cells + 101) (slots + 102)) : LK p l e s m below meth c Q b D T T' cL bx ba o i 1189 cells slots := by
  intro xa xs ms f H locs ls hR hRR hP hD hS hl
  obtain ⟨⟨hx, hb, hr, hml, hown, hts, hX, hbl, hlocks, hgv⟩, hKx, hKm, hKo, hXS, hE, hl0⟩ := C
  have hA : ∀ q : Nat, s.heap.size ≤ q → lwA s q := fun _ h => h
  have hbA : ¬ lwA s b := Nat.not_le.mpr hbl
  obtain ⟨r, xs', ms', e1, e2, hRR'⟩ := qm_row hRR (sc (i + 1).toNatClampNeg) (sc (i + 2).toNatClampNeg) (sc (i + 3).toNatClampNeg)
  refine lv_aload_n hx hb dL_law_1189 rfl (lv_at hl 1 rfl) ?_
  refine lv_aload_n hx hb dL_law_1190 rfl (lv_at hl 0 rfl) ?_
  refine lv_iload hx hb dL_law_1191 (lv_at hl 4 rfl) ?_
  refine lv_iconst (v := (1 : Int32)) hx hb dL_law_1193 (by decide) ?_
  refine lv_iadd hx hb dL_law_1194 ?_
  refine va_sld hx hb hX hbl hbA hS hI.2.1 dL_law_1195 ?_
  refine lv_aload_n hx hb dL_law_1196 rfl (lv_at hl 0 rfl) ?_
  refine lv_iload hx hb dL_law_1197 (lv_at hl 4 rfl) ?_
  refine lv_iconst (v := (2 : Int32)) hx hb dL_law_1199 (by decide) ?_
  refine lv_iadd hx hb dL_law_1200 ?_
  refine va_sld hx hb hX hbl hbA hS hI.2.2.1 dL_law_1201 ?_
  refine lv_aload_n hx hb dL_law_1202 rfl (lv_at hl 0 rfl) ?_
  refine lv_iload hx hb dL_law_1203 (lv_at hl 4 rfl) ?_
  refine lv_iconst (v := (3 : Int32)) hx hb dL_law_1205 (by decide) ?_
  refine lv_iadd hx hb dL_law_1206 ?_
  refine va_sld hx hb hX hbl hbA hS hI.2.2.2.1 dL_law_1207 ?_
  refine y_vi (own := RL) (As := [.int (sc (i + 1).toNatClampNeg), .int (sc (i + 2).toNatClampNeg), .int (sc (i + 3).toNatClampNeg)]) (rest := []) (wr := mW ba T' ms ++ lO cL o f) hx hb hml hown hts (okX10_row z l D T bx hR e1) (cwV 3 hts gL_law_X10_row rfl rfl rfl hdX10_row ⟨Nat.le_of_ble_eq_true rfl, Nat.le_of_ble_eq_true rfl⟩) hKx hA hXS hP hD hS (List.Perm.refl _) (ci := 10) (q0 := 0) rfl rfl rfl hl.1 rfl (Nat.le_of_ble_eq_true rfl) dL_law_1208 ⟨lf1 hf.1 (Nat.le_of_ble_eq_true rfl), lf1 hf.2 (Nat.le_of_ble_eq_true rfl)⟩ (fun xa' H locs hR' _ hP hD hS => ?_)
  refine lv_aload_n hx hb dL_law_1211 rfl (lv_at hl 2 rfl) ?_
  refine lv_aload_n hx hb dL_law_1212 rfl (lv_at hl 0 rfl) ?_
  refine lv_iload hx hb dL_law_1213 (lv_at hl 4 rfl) ?_
  refine lv_iconst (v := (1 : Int32)) hx hb dL_law_1215 (by decide) ?_
  refine lv_iadd hx hb dL_law_1216 ?_
  refine va_sld hx hb hX hbl hbA hS hI.2.1 dL_law_1217 ?_
  refine lv_aload_n hx hb dL_law_1218 rfl (lv_at hl 0 rfl) ?_
  refine lv_iload hx hb dL_law_1219 (lv_at hl 4 rfl) ?_
  refine lv_iconst (v := (2 : Int32)) hx hb dL_law_1221 (by decide) ?_
  refine lv_iadd hx hb dL_law_1222 ?_
  refine va_sld hx hb hX hbl hbA hS hI.2.2.1 dL_law_1223 ?_
  refine lv_aload_n hx hb dL_law_1224 rfl (lv_at hl 0 rfl) ?_
  refine lv_iload hx hb dL_law_1225 (lv_at hl 4 rfl) ?_
  refine lv_iconst (v := (3 : Int32)) hx hb dL_law_1227 (by decide) ?_
  refine lv_iadd hx hb dL_law_1228 ?_
  refine va_sld hx hb hX hbl hbA hS hI.2.2.2.1 dL_law_1229 ?_
  refine y_mi (own := RL) (As := [.int (sc (i + 1).toNatClampNeg), .int (sc (i + 2).toNatClampNeg), .int (sc (i + 3).toNatClampNeg)]) (rest := [.int r]) (w0 := mW ba T' ms) (w1 := mW ba T' ms') (wr := xW bx T xa' xs' ++ lO cL o f) (wd' := xW bx T xa' xs' ++ (mW ba T' ms' ++ lO cL o f)) hx hb hml hown hts (okX11_row l D ba T' e2) (cwV 3 hts gL_law_X11_row rfl rfl rfl hdX11_row ⟨Nat.le_of_ble_eq_true rfl, Nat.le_of_ble_eq_true rfl⟩) hKm hA hP hD hS (pm1 _ _ _) (pm1 _ _ _) (ci := 11) (q0 := 0) rfl rfl rfl hl.1 rfl (Nat.le_of_ble_eq_true rfl) dL_law_1230 ⟨lf2 hf.1 (Nat.le_of_ble_eq_true rfl), lf2 hf.2 (Nat.le_of_ble_eq_true rfl)⟩ (fun H locs hP hD hS => ?_)
  refine lv_icmp_eq (tgt := 1477) hx hb dL_law_1233 (by decide) (fun _ => ?_) (fun h => absurd rfl h)
  refine W.widen (k := cells + 101) (n := slots + 102) (lf2 (Nat.le_refl _) (Nat.le_of_ble_eq_true rfl)) (lf2 (Nat.le_refl _) (Nat.le_of_ble_eq_true rfl)) ?_
  exact kk xa' xs' ms' f H locs ls hR' hRR' hP hD hS hl
end LAWCASE
