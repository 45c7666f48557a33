/-! the law's cases -/
section LAWCASE
variable {p : Program} {l : Launch} {e : Env} {s : State} {m : MethodId} {below : List Frame} {meth : Method} {c : Code} {Q : State → Prop} {cells slots : Nat}
variable {b L : Nat} {sc : Nat → Int32} {D : va_G} {T T' : mT3} {cL : ClassId} {z e0 bx ba : Nat → Nat} {o : Nat} {i : Int32}
set_option maxHeartbeats 4000000 in
theorem cs_unlike (C : LX p l s m meth c b L sc D T T' cL z e0) (hI : lwI L i) (hf : cells + 101 ≤ 601024 ∧ slots + 102 ≤ 7293034) (kk : LK p l e s m below meth c Q b D T T' cL bx ba o i 1477 (cells + 101) (slots + 102)) : LK p l e s m below meth c Q b D T T' cL bx ba o i 813 cells slots := by
  intro xa xs ms f H locs ls hR hRR hP hD hS hl
  obtain ⟨⟨hx, hb, hr, hml, hown, hts, hX, hbl, hlocks, hgv⟩, hKx, hKm, hKo, hXS, hE, hl0⟩ := C
  have hA : ∀ q : Nat, s.heap.size ≤ q → lwA s q := fun _ h => h
  have hbA : ¬ lwA s b := Nat.not_le.mpr hbl
  obtain ⟨r, xs', ms', e1, e2, hRR'⟩ := qm_unlike hRR (sc (i + 1).toNatClampNeg)
  refine lv_aload_n hx hb dL_law_813 rfl (lv_at hl 1 rfl) ?_
  refine lv_aload_n hx hb dL_law_814 rfl (lv_at hl 0 rfl) ?_
  refine lv_iload hx hb dL_law_815 (lv_at hl 4 rfl) ?_
  refine lv_iconst (v := (1 : Int32)) hx hb dL_law_817 (by decide) ?_
  refine lv_iadd hx hb dL_law_818 ?_
  refine va_sld hx hb hX hbl hbA hS hI.2.1 dL_law_819 ?_
  refine y_vl (own := RL) (As := [.int (sc (i + 1).toNatClampNeg)]) (rest := []) (wr := mW ba T' ms ++ lO cL o f) hx hb hml hown hts (okX10_unlike z l D T bx hR e1) (cwV 1 hts gL_law_X10_unlike rfl rfl rfl hdX10_unlike ⟨Nat.le_of_ble_eq_true rfl, Nat.le_of_ble_eq_true rfl⟩) hKx hA hXS hP hD hS (List.Perm.refl _) (ci := 10) (q0 := 0) rfl rfl rfl hl.1 rfl (Nat.le_of_ble_eq_true rfl) dL_law_820 ⟨lf1 hf.1 (Nat.le_of_ble_eq_true rfl), lf1 hf.2 (Nat.le_of_ble_eq_true rfl)⟩ (fun xa' H locs hR' _ hP hD hS => ?_)
  refine lv_aload_n hx hb dL_law_823 rfl (lv_at hl 2 rfl) ?_
  refine lv_aload_n hx hb dL_law_824 rfl (lv_at hl 0 rfl) ?_
  refine lv_iload hx hb dL_law_825 (lv_at hl 4 rfl) ?_
  refine lv_iconst (v := (1 : Int32)) hx hb dL_law_827 (by decide) ?_
  refine lv_iadd hx hb dL_law_828 ?_
  refine va_sld hx hb hX hbl hbA hS hI.2.1 dL_law_829 ?_
  refine y_ml (own := RL) (As := [.int (sc (i + 1).toNatClampNeg)]) (rest := [.long r]) (w0 := mW ba T' ms) (w1 := mW ba T' ms') (wr := xW bx T xa' xs' ++ lO cL o f) (wd' := xW bx T xa' xs' ++ (mW ba T' ms' ++ lO cL o f)) hx hb hml hown hts (okX11_unlike l D ba T' e2) (cwV 1 hts gL_law_X11_unlike rfl rfl rfl hdX11_unlike ⟨Nat.le_of_ble_eq_true rfl, Nat.le_of_ble_eq_true rfl⟩) hKm hA hP hD hS (pm1 _ _ _) (pm1 _ _ _) (ci := 11) (q0 := 0) rfl rfl rfl hl.1 rfl (Nat.le_of_ble_eq_true rfl) dL_law_830 ⟨lf2 hf.1 (Nat.le_of_ble_eq_true rfl), lf2 hf.2 (Nat.le_of_ble_eq_true rfl)⟩ (fun H locs hP hD hS => ?_)
  refine W.lcmp hx hb dL_law_833 ?_
  refine lv_if_eq (tgt := 1477) hx hb dL_law_834 (by decide) (fun _ => ?_) (fun h => absurd ((lg_cmp_eq r r).mpr rfl) h)
  refine W.widen (k := cells + 101) (n := slots + 102) (lf2 (Nat.le_refl _) (Nat.le_of_ble_eq_true rfl)) (lf2 (Nat.le_refl _) (Nat.le_of_ble_eq_true rfl)) ?_
  exact kk xa' xs' ms' f H locs ls hR' hRR' hP hD hS hl
set_option maxHeartbeats 4000000 in
theorem cs_wedge (C : LX p l s m meth c b L sc D T T' cL z e0) (hI : lwI L i) (hf : cells + 101 ≤ 601024 ∧ slots + 102 ≤ 7293034) (kk : LK p l e s m below meth c Q b D T T' cL bx ba o i 1477 (cells + 101) (slots + 102)) : LK p l e s m below meth c Q b D T T' cL bx ba o i 839 cells slots := by
  intro xa xs ms f H locs ls hR hRR hP hD hS hl
  obtain ⟨⟨hx, hb, hr, hml, hown, hts, hX, hbl, hlocks, hgv⟩, hKx, hKm, hKo, hXS, hE, hl0⟩ := C
  have hA : ∀ q : Nat, s.heap.size ≤ q → lwA s q := fun _ h => h
  have hbA : ¬ lwA s b := Nat.not_le.mpr hbl
  obtain ⟨r, xs', ms', e1, e2, hRR'⟩ := qm_wedge hRR
  refine lv_aload_n hx hb dL_law_839 rfl (lv_at hl 1 rfl) ?_
  refine y_vi (own := RL) (As := []) (rest := []) (wr := mW ba T' ms ++ lO cL o f) hx hb hml hown hts (okX10_wedge z l D T bx hR e1) (cwV 0 hts gL_law_X10_wedge rfl rfl rfl hdX10_wedge ⟨Nat.le_of_ble_eq_true rfl, Nat.le_of_ble_eq_true rfl⟩) hKx hA hXS hP hD hS (List.Perm.refl _) (ci := 10) (q0 := 0) rfl rfl rfl hl.1 rfl (Nat.le_of_ble_eq_true rfl) dL_law_840 ⟨lf1 hf.1 (Nat.le_of_ble_eq_true rfl), lf1 hf.2 (Nat.le_of_ble_eq_true rfl)⟩ (fun xa' H locs hR' _ hP hD hS => ?_)
  refine lv_aload_n hx hb dL_law_843 rfl (lv_at hl 2 rfl) ?_
  refine y_mi (own := RL) (As := []) (rest := [.int r]) (w0 := mW ba T' ms) (w1 := mW ba T' ms') (wr := xW bx T xa' xs' ++ lO cL o f) (wd' := xW bx T xa' xs' ++ (mW ba T' ms' ++ lO cL o f)) hx hb hml hown hts (okX11_wedge l D ba T' e2) (cwV 0 hts gL_law_X11_wedge rfl rfl rfl hdX11_wedge ⟨Nat.le_of_ble_eq_true rfl, Nat.le_of_ble_eq_true rfl⟩) hKm hA hP hD hS (pm1 _ _ _) (pm1 _ _ _) (ci := 11) (q0 := 0) rfl rfl rfl hl.1 rfl (Nat.le_of_ble_eq_true rfl) dL_law_844 ⟨lf2 hf.1 (Nat.le_of_ble_eq_true rfl), lf2 hf.2 (Nat.le_of_ble_eq_true rfl)⟩ (fun H locs hP hD hS => ?_)
  refine lv_icmp_eq (tgt := 1477) hx hb dL_law_847 (by decide) (fun _ => ?_) (fun h => absurd rfl h)
  refine W.widen (k := cells + 101) (n := slots + 102) (lf2 (Nat.le_refl _) (Nat.le_of_ble_eq_true rfl)) (lf2 (Nat.le_refl _) (Nat.le_of_ble_eq_true rfl)) ?_
  exact kk xa' xs' ms' f H locs ls hR' hRR' hP hD hS hl
set_option maxHeartbeats 4000000 in
theorem cs_sits (C : LX p l s m meth c b L sc D T T' cL z e0) (hI : lwI L i) (hf : cells + 101 ≤ 601024 ∧ slots + 102 ≤ 7293034) (kk : LK p l e s m below meth c Q b D T T' cL bx ba o i 1477 (cells + 101) (slots + 102)) : LK p l e s m below meth c Q b D T T' cL bx ba o i 852 cells slots := by
  intro xa xs ms f H locs ls hR hRR hP hD hS hl
  obtain ⟨⟨hx, hb, hr, hml, hown, hts, hX, hbl, hlocks, hgv⟩, hKx, hKm, hKo, hXS, hE, hl0⟩ := C
  have hA : ∀ q : Nat, s.heap.size ≤ q → lwA s q := fun _ h => h
  have hbA : ¬ lwA s b := Nat.not_le.mpr hbl
  obtain ⟨r, xs', ms', e1, e2, hRR'⟩ := qm_sits hRR
  refine lv_aload_n hx hb dL_law_852 rfl (lv_at hl 1 rfl) ?_
  refine y_vi (own := RL) (As := []) (rest := []) (wr := mW ba T' ms ++ lO cL o f) hx hb hml hown hts (okX10_sits z l D T bx hR e1) (cwV 0 hts gL_law_X10_sits rfl rfl rfl hdX10_sits ⟨Nat.le_of_ble_eq_true rfl, Nat.le_of_ble_eq_true rfl⟩) hKx hA hXS hP hD hS (List.Perm.refl _) (ci := 10) (q0 := 0) rfl rfl rfl hl.1 rfl (Nat.le_of_ble_eq_true rfl) dL_law_853 ⟨lf1 hf.1 (Nat.le_of_ble_eq_true rfl), lf1 hf.2 (Nat.le_of_ble_eq_true rfl)⟩ (fun xa' H locs hR' _ hP hD hS => ?_)
  refine lv_aload_n hx hb dL_law_856 rfl (lv_at hl 2 rfl) ?_
  refine y_mi (own := RL) (As := []) (rest := [.int r]) (w0 := mW ba T' ms) (w1 := mW ba T' ms') (wr := xW bx T xa' xs' ++ lO cL o f) (wd' := xW bx T xa' xs' ++ (mW ba T' ms' ++ lO cL o f)) hx hb hml hown hts (okX11_sits l D ba T' e2) (cwV 0 hts gL_law_X11_sits rfl rfl rfl hdX11_sits ⟨Nat.le_of_ble_eq_true rfl, Nat.le_of_ble_eq_true rfl⟩) hKm hA hP hD hS (pm1 _ _ _) (pm1 _ _ _) (ci := 11) (q0 := 0) rfl rfl rfl hl.1 rfl (Nat.le_of_ble_eq_true rfl) dL_law_857 ⟨lf2 hf.1 (Nat.le_of_ble_eq_true rfl), lf2 hf.2 (Nat.le_of_ble_eq_true rfl)⟩ (fun H locs hP hD hS => ?_)
  refine lv_icmp_eq (tgt := 1477) hx hb dL_law_860 (by decide) (fun _ => ?_) (fun h => absurd rfl h)
  refine W.widen (k := cells + 101) (n := slots + 102) (lf2 (Nat.le_refl _) (Nat.le_of_ble_eq_true rfl)) (lf2 (Nat.le_refl _) (Nat.le_of_ble_eq_true rfl)) ?_
  exact kk xa' xs' ms' f H locs ls hR' hRR' hP hD hS hl
set_option maxHeartbeats 4000000 in
theorem cs_hits (C : LX p l s m meth c b L sc D T T' cL z e0) (hI : lwI L i) (hf : cells + 101 ≤ 601024 ∧ slots + 102 ≤ 7293034) (kk : LK p l e s m below meth c Q b D T T' cL bx ba o i 1477 (cells + 101) (slots + 102)) : LK p l e s m below meth c Q b D T T' cL bx ba o i 865 cells slots := by
  intro xa xs ms f H locs ls hR hRR hP hD hS hl
  obtain ⟨⟨hx, hb, hr, hml, hown, hts, hX, hbl, hlocks, hgv⟩, hKx, hKm, hKo, hXS, hE, hl0⟩ := C
  have hA : ∀ q : Nat, s.heap.size ≤ q → lwA s q := fun _ h => h
  have hbA : ¬ lwA s b := Nat.not_le.mpr hbl
  obtain ⟨r, xs', ms', e1, e2, hRR'⟩ := qm_hits hRR (sc (i + 1).toNatClampNeg) (sc (i + 2).toNatClampNeg)
  refine lv_aload_n hx hb dL_law_865 rfl (lv_at hl 1 rfl) ?_
  refine lv_aload_n hx hb dL_law_866 rfl (lv_at hl 0 rfl) ?_
  refine lv_iload hx hb dL_law_867 (lv_at hl 4 rfl) ?_
  refine lv_iconst (v := (1 : Int32)) hx hb dL_law_869 (by decide) ?_
  refine lv_iadd hx hb dL_law_870 ?_
  refine va_sld hx hb hX hbl hbA hS hI.2.1 dL_law_871 ?_
  refine lv_aload_n hx hb dL_law_872 rfl (lv_at hl 0 rfl) ?_
  refine lv_iload hx hb dL_law_873 (lv_at hl 4 rfl) ?_
  refine lv_iconst (v := (2 : Int32)) hx hb dL_law_875 (by decide) ?_
  refine lv_iadd hx hb dL_law_876 ?_
  refine va_sld hx hb hX hbl hbA hS hI.2.2.1 dL_law_877 ?_
  refine y_vi (own := RL) (As := [.int (sc (i + 1).toNatClampNeg), .int (sc (i + 2).toNatClampNeg)]) (rest := []) (wr := mW ba T' ms ++ lO cL o f) hx hb hml hown hts (okX10_hits z l D T bx hR e1) (cwV 2 hts gL_law_X10_hits rfl rfl rfl hdX10_hits ⟨Nat.le_of_ble_eq_true rfl, Nat.le_of_ble_eq_true rfl⟩) hKx hA hXS hP hD hS (List.Perm.refl _) (ci := 10) (q0 := 0) rfl rfl rfl hl.1 rfl (Nat.le_of_ble_eq_true rfl) dL_law_878 ⟨lf1 hf.1 (Nat.le_of_ble_eq_true rfl), lf1 hf.2 (Nat.le_of_ble_eq_true rfl)⟩ (fun xa' H locs hR' _ hP hD hS => ?_)
  refine lv_aload_n hx hb dL_law_881 rfl (lv_at hl 2 rfl) ?_
  refine lv_aload_n hx hb dL_law_882 rfl (lv_at hl 0 rfl) ?_
  refine lv_iload hx hb dL_law_883 (lv_at hl 4 rfl) ?_
  refine lv_iconst (v := (1 : Int32)) hx hb dL_law_885 (by decide) ?_
  refine lv_iadd hx hb dL_law_886 ?_
  refine va_sld hx hb hX hbl hbA hS hI.2.1 dL_law_887 ?_
  refine lv_aload_n hx hb dL_law_888 rfl (lv_at hl 0 rfl) ?_
  refine lv_iload hx hb dL_law_889 (lv_at hl 4 rfl) ?_
  refine lv_iconst (v := (2 : Int32)) hx hb dL_law_891 (by decide) ?_
  refine lv_iadd hx hb dL_law_892 ?_
  refine va_sld hx hb hX hbl hbA hS hI.2.2.1 dL_law_893 ?_
  refine y_mi (own := RL) (As := [.int (sc (i + 1).toNatClampNeg), .int (sc (i + 2).toNatClampNeg)]) (rest := [.int r]) (w0 := mW ba T' ms) (w1 := mW ba T' ms') (wr := xW bx T xa' xs' ++ lO cL o f) (wd' := xW bx T xa' xs' ++ (mW ba T' ms' ++ lO cL o f)) hx hb hml hown hts (okX11_hits l D ba T' e2) (cwV 2 hts gL_law_X11_hits rfl rfl rfl hdX11_hits ⟨Nat.le_of_ble_eq_true rfl, Nat.le_of_ble_eq_true rfl⟩) hKm hA hP hD hS (pm1 _ _ _) (pm1 _ _ _) (ci := 11) (q0 := 0) rfl rfl rfl hl.1 rfl (Nat.le_of_ble_eq_true rfl) dL_law_894 ⟨lf2 hf.1 (Nat.le_of_ble_eq_true rfl), lf2 hf.2 (Nat.le_of_ble_eq_true rfl)⟩ (fun H locs hP hD hS => ?_)
  refine lv_icmp_eq (tgt := 1477) hx hb dL_law_897 (by decide) (fun _ => ?_) (fun h => absurd rfl h)
  refine W.widen (k := cells + 101) (n := slots + 102) (lf2 (Nat.le_refl _) (Nat.le_of_ble_eq_true rfl)) (lf2 (Nat.le_refl _) (Nat.le_of_ble_eq_true rfl)) ?_
  exact kk xa' xs' ms' f H locs ls hR' hRR' hP hD hS hl
set_option maxHeartbeats 4000000 in
theorem cs_sendOut (C : LX p l s m meth c b L sc D T T' cL z e0) (hI : lwI L i) (hf : cells + 101 ≤ 601024 ∧ slots + 102 ≤ 7293034) (kk : LK p l e s m below meth c Q b D T T' cL bx ba o i 1477 (cells + 101) (slots + 102)) : LK p l e s m below meth c Q b D T T' cL bx ba o i 902 cells slots := by
  intro xa xs ms f H locs ls hR hRR hP hD hS hl
  obtain ⟨⟨hx, hb, hr, hml, hown, hts, hX, hbl, hlocks, hgv⟩, hKx, hKm, hKo, hXS, hE, hl0⟩ := C
  have hA : ∀ q : Nat, s.heap.size ≤ q → lwA s q := fun _ h => h
  have hbA : ¬ lwA s b := Nat.not_le.mpr hbl
  obtain ⟨r, xs', ms', e1, e2, hRR'⟩ := qm_sendOut hRR
  refine lv_aload_n hx hb dL_law_902 rfl (lv_at hl 1 rfl) ?_
  refine y_vi (own := RL) (As := []) (rest := []) (wr := mW ba T' ms ++ lO cL o f) hx hb hml hown hts (okX10_sendOut z l D T bx hR e1) (cwV 0 hts gL_law_X10_sendOut rfl rfl rfl hdX10_sendOut ⟨Nat.le_of_ble_eq_true rfl, Nat.le_of_ble_eq_true rfl⟩) hKx hA hXS hP hD hS (List.Perm.refl _) (ci := 10) (q0 := 0) rfl rfl rfl hl.1 rfl (Nat.le_of_ble_eq_true rfl) dL_law_903 ⟨lf1 hf.1 (Nat.le_of_ble_eq_true rfl), lf1 hf.2 (Nat.le_of_ble_eq_true rfl)⟩ (fun xa' H locs hR' _ hP hD hS => ?_)
  refine lv_aload_n hx hb dL_law_906 rfl (lv_at hl 2 rfl) ?_
  refine y_mi (own := RL) (As := []) (rest := [.int r]) (w0 := mW ba T' ms) (w1 := mW ba T' ms') (wr := xW bx T xa' xs' ++ lO cL o f) (wd' := xW bx T xa' xs' ++ (mW ba T' ms' ++ lO cL o f)) hx hb hml hown hts (okX11_sendOut l D ba T' e2) (cwV 0 hts gL_law_X11_sendOut rfl rfl rfl hdX11_sendOut ⟨Nat.le_of_ble_eq_true rfl, Nat.le_of_ble_eq_true rfl⟩) hKm hA hP hD hS (pm1 _ _ _) (pm1 _ _ _) (ci := 11) (q0 := 0) rfl rfl rfl hl.1 rfl (Nat.le_of_ble_eq_true rfl) dL_law_907 ⟨lf2 hf.1 (Nat.le_of_ble_eq_true rfl), lf2 hf.2 (Nat.le_of_ble_eq_true rfl)⟩ (fun H locs hP hD hS => ?_)
  refine lv_icmp_eq (tgt := 1477) hx hb dL_law_910 (by decide) (fun _ => ?_) (fun h => absurd rfl h)
  refine W.widen (k := cells + 101) (n := slots + 102) (lf2 (Nat.le_refl _) (Nat.le_of_ble_eq_true rfl)) (lf2 (Nat.le_refl _) (Nat.le_of_ble_eq_true rfl)) ?_
  exact kk xa' xs' ms' f H locs ls hR' hRR' hP hD hS hl
set_option maxHeartbeats 4000000 in
theorem cs_crowd (C : LX p l s m meth c b L sc D T T' cL z e0) (hI : lwI L i) (hf : cells + 101 ≤ 601024 ∧ slots + 102 ≤ 7293034) (kk : LK p l e s m below meth c Q b D T T' cL bx ba o i 1477 (cells + 101) (slots + 102)) : LK p l e s m below meth c Q b D T T' cL bx ba o i 915 cells slots := by
  intro xa xs ms f H locs ls hR hRR hP hD hS hl
  obtain ⟨⟨hx, hb, hr, hml, hown, hts, hX, hbl, hlocks, hgv⟩, hKx, hKm, hKo, hXS, hE, hl0⟩ := C
  have hA : ∀ q : Nat, s.heap.size ≤ q → lwA s q := fun _ h => h
  have hbA : ¬ lwA s b := Nat.not_le.mpr hbl
  obtain ⟨r, xs', ms', e1, e2, hRR'⟩ := qm_crowd hRR (sc (i + 1).toNatClampNeg)
  refine lv_aload_n hx hb dL_law_915 rfl (lv_at hl 1 rfl) ?_
  refine lv_aload_n hx hb dL_law_916 rfl (lv_at hl 0 rfl) ?_
  refine lv_iload hx hb dL_law_917 (lv_at hl 4 rfl) ?_
  refine lv_iconst (v := (1 : Int32)) hx hb dL_law_919 (by decide) ?_
  refine lv_iadd hx hb dL_law_920 ?_
  refine va_sld hx hb hX hbl hbA hS hI.2.1 dL_law_921 ?_
  refine y_vi (own := RL) (As := [.int (sc (i + 1).toNatClampNeg)]) (rest := []) (wr := mW ba T' ms ++ lO cL o f) hx hb hml hown hts (okX10_crowd z l D T bx hR e1) (cwV 1 hts gL_law_X10_crowd rfl rfl rfl hdX10_crowd ⟨Nat.le_of_ble_eq_true rfl, Nat.le_of_ble_eq_true rfl⟩) hKx hA hXS hP hD hS (List.Perm.refl _) (ci := 10) (q0 := 0) rfl rfl rfl hl.1 rfl (Nat.le_of_ble_eq_true rfl) dL_law_922 ⟨lf1 hf.1 (Nat.le_of_ble_eq_true rfl), lf1 hf.2 (Nat.le_of_ble_eq_true rfl)⟩ (fun xa' H locs hR' _ hP hD hS => ?_)
  refine lv_aload_n hx hb dL_law_925 rfl (lv_at hl 2 rfl) ?_
  refine lv_aload_n hx hb dL_law_926 rfl (lv_at hl 0 rfl) ?_
  refine lv_iload hx hb dL_law_927 (lv_at hl 4 rfl) ?_
  refine lv_iconst (v := (1 : Int32)) hx hb dL_law_929 (by decide) ?_
  refine lv_iadd hx hb dL_law_930 ?_
  refine va_sld hx hb hX hbl hbA hS hI.2.1 dL_law_931 ?_
  refine y_mi (own := RL) (As := [.int (sc (i + 1).toNatClampNeg)]) (rest := [.int r]) (w0 := mW ba T' ms) (w1 := mW ba T' ms') (wr := xW bx T xa' xs' ++ lO cL o f) (wd' := xW bx T xa' xs' ++ (mW ba T' ms' ++ lO cL o f)) hx hb hml hown hts (okX11_crowd l D ba T' e2) (cwV 1 hts gL_law_X11_crowd rfl rfl rfl hdX11_crowd ⟨Nat.le_of_ble_eq_true rfl, Nat.le_of_ble_eq_true rfl⟩) hKm hA hP hD hS (pm1 _ _ _) (pm1 _ _ _) (ci := 11) (q0 := 0) rfl rfl rfl hl.1 rfl (Nat.le_of_ble_eq_true rfl) dL_law_932 ⟨lf2 hf.1 (Nat.le_of_ble_eq_true rfl), lf2 hf.2 (Nat.le_of_ble_eq_true rfl)⟩ (fun H locs hP hD hS => ?_)
  refine lv_icmp_eq (tgt := 1477) hx hb dL_law_935 (by decide) (fun _ => ?_) (fun h => absurd rfl h)
  refine W.widen (k := cells + 101) (n := slots + 102) (lf2 (Nat.le_refl _) (Nat.le_of_ble_eq_true rfl)) (lf2 (Nat.le_refl _) (Nat.le_of_ble_eq_true rfl)) ?_
  exact kk xa' xs' ms' f H locs ls hR' hRR' hP hD hS hl
set_option maxHeartbeats 4000000 in
theorem cs_safest (C : LX p l s m meth c b L sc D T T' cL z e0) (hI : lwI L i) (hf : cells + 101 ≤ 601024 ∧ slots + 102 ≤ 7293034) (kk : LK p l e s m below meth c Q b D T T' cL bx ba o i 1477 (cells + 101) (slots + 102)) : LK p l e s m below meth c Q b D T T' cL bx ba o i 940 cells slots := by
  intro xa xs ms f H locs ls hR hRR hP hD hS hl
  obtain ⟨⟨hx, hb, hr, hml, hown, hts, hX, hbl, hlocks, hgv⟩, hKx, hKm, hKo, hXS, hE, hl0⟩ := C
  have hA : ∀ q : Nat, s.heap.size ≤ q → lwA s q := fun _ h => h
  have hbA : ¬ lwA s b := Nat.not_le.mpr hbl
  obtain ⟨r, xs', ms', e1, e2, hRR'⟩ := qm_safest hRR
  refine lv_aload_n hx hb dL_law_940 rfl (lv_at hl 1 rfl) ?_
  refine y_vi (own := RL) (As := []) (rest := []) (wr := mW ba T' ms ++ lO cL o f) hx hb hml hown hts (okX10_safest z l D T bx hR e1) (cwV 0 hts gL_law_X10_safest rfl rfl rfl hdX10_safest ⟨Nat.le_of_ble_eq_true rfl, Nat.le_of_ble_eq_true rfl⟩) hKx hA hXS hP hD hS (List.Perm.refl _) (ci := 10) (q0 := 0) rfl rfl rfl hl.1 rfl (Nat.le_of_ble_eq_true rfl) dL_law_941 ⟨lf1 hf.1 (Nat.le_of_ble_eq_true rfl), lf1 hf.2 (Nat.le_of_ble_eq_true rfl)⟩ (fun xa' H locs hR' _ hP hD hS => ?_)
  refine lv_aload_n hx hb dL_law_944 rfl (lv_at hl 2 rfl) ?_
  refine y_mi (own := RL) (As := []) (rest := [.int r]) (w0 := mW ba T' ms) (w1 := mW ba T' ms') (wr := xW bx T xa' xs' ++ lO cL o f) (wd' := xW bx T xa' xs' ++ (mW ba T' ms' ++ lO cL o f)) hx hb hml hown hts (okX11_safest l D ba T' e2) (cwV 0 hts gL_law_X11_safest rfl rfl rfl hdX11_safest ⟨Nat.le_of_ble_eq_true rfl, Nat.le_of_ble_eq_true rfl⟩) hKm hA hP hD hS (pm1 _ _ _) (pm1 _ _ _) (ci := 11) (q0 := 0) rfl rfl rfl hl.1 rfl (Nat.le_of_ble_eq_true rfl) dL_law_945 ⟨lf2 hf.1 (Nat.le_of_ble_eq_true rfl), lf2 hf.2 (Nat.le_of_ble_eq_true rfl)⟩ (fun H locs hP hD hS => ?_)
  refine lv_icmp_eq (tgt := 1477) hx hb dL_law_948 (by decide) (fun _ => ?_) (fun h => absurd rfl h)
  refine W.widen (k := cells + 101) (n := slots + 102) (lf2 (Nat.le_refl _) (Nat.le_of_ble_eq_true rfl)) (lf2 (Nat.le_refl _) (Nat.le_of_ble_eq_true rfl)) ?_
  exact kk xa' xs' ms' f H locs ls hR' hRR' hP hD hS hl
set_option maxHeartbeats 4000000 in
theorem cs_fell (C : LX p l s m meth c b L sc D T T' cL z e0) (hI : lwI L i) (hf : cells + 101 ≤ 601024 ∧ slots + 102 ≤ 7293034) (kk : LK p l e s m below meth c Q b D T T' cL bx ba o i 1477 (cells + 101) (slots + 102)) : LK p l e s m below meth c Q b D T T' cL bx ba o i 953 cells slots := by
  intro xa xs ms f H locs ls hR hRR hP hD hS hl
  obtain ⟨⟨hx, hb, hr, hml, hown, hts, hX, hbl, hlocks, hgv⟩, hKx, hKm, hKo, hXS, hE, hl0⟩ := C
  have hA : ∀ q : Nat, s.heap.size ≤ q → lwA s q := fun _ h => h
  have hbA : ¬ lwA s b := Nat.not_le.mpr hbl
  obtain ⟨r, xs', ms', e1, e2, hRR'⟩ := qm_fell hRR (sc (i + 1).toNatClampNeg)
  refine lv_aload_n hx hb dL_law_953 rfl (lv_at hl 1 rfl) ?_
  refine lv_aload_n hx hb dL_law_954 rfl (lv_at hl 0 rfl) ?_
  refine lv_iload hx hb dL_law_955 (lv_at hl 4 rfl) ?_
  refine lv_iconst (v := (1 : Int32)) hx hb dL_law_957 (by decide) ?_
  refine lv_iadd hx hb dL_law_958 ?_
  refine va_sld hx hb hX hbl hbA hS hI.2.1 dL_law_959 ?_
  refine y_vi (own := RL) (As := [.int (sc (i + 1).toNatClampNeg)]) (rest := []) (wr := mW ba T' ms ++ lO cL o f) hx hb hml hown hts (okX10_fell z l D T bx hR e1) (cwV 1 hts gL_law_X10_fell rfl rfl rfl hdX10_fell ⟨Nat.le_of_ble_eq_true rfl, Nat.le_of_ble_eq_true rfl⟩) hKx hA hXS hP hD hS (List.Perm.refl _) (ci := 10) (q0 := 0) rfl rfl rfl hl.1 rfl (Nat.le_of_ble_eq_true rfl) dL_law_960 ⟨lf1 hf.1 (Nat.le_of_ble_eq_true rfl), lf1 hf.2 (Nat.le_of_ble_eq_true rfl)⟩ (fun xa' H locs hR' _ hP hD hS => ?_)
  refine lv_aload_n hx hb dL_law_963 rfl (lv_at hl 2 rfl) ?_
  refine lv_aload_n hx hb dL_law_964 rfl (lv_at hl 0 rfl) ?_
  refine lv_iload hx hb dL_law_965 (lv_at hl 4 rfl) ?_
  refine lv_iconst (v := (1 : Int32)) hx hb dL_law_967 (by decide) ?_
  refine lv_iadd hx hb dL_law_968 ?_
  refine va_sld hx hb hX hbl hbA hS hI.2.1 dL_law_969 ?_
  refine y_mi (own := RL) (As := [.int (sc (i + 1).toNatClampNeg)]) (rest := [.int r]) (w0 := mW ba T' ms) (w1 := mW ba T' ms') (wr := xW bx T xa' xs' ++ lO cL o f) (wd' := xW bx T xa' xs' ++ (mW ba T' ms' ++ lO cL o f)) hx hb hml hown hts (okX11_fell l D ba T' e2) (cwV 1 hts gL_law_X11_fell rfl rfl rfl hdX11_fell ⟨Nat.le_of_ble_eq_true rfl, Nat.le_of_ble_eq_true rfl⟩) hKm hA hP hD hS (pm1 _ _ _) (pm1 _ _ _) (ci := 11) (q0 := 0) rfl rfl rfl hl.1 rfl (Nat.le_of_ble_eq_true rfl) dL_law_970 ⟨lf2 hf.1 (Nat.le_of_ble_eq_true rfl), lf2 hf.2 (Nat.le_of_ble_eq_true rfl)⟩ (fun H locs hP hD hS => ?_)
  refine lv_icmp_eq (tgt := 1477) hx hb dL_law_973 (by decide) (fun _ => ?_) (fun h => absurd rfl h)
  refine W.widen (k := cells + 101) (n := slots + 102) (lf2 (Nat.le_refl _) (Nat.le_of_ble_eq_true rfl)) (lf2 (Nat.le_refl _) (Nat.le_of_ble_eq_true rfl)) ?_
  exact kk xa' xs' ms' f H locs ls hR' hRR' hP hD hS hl
end LAWCASE
