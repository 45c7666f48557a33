/-! a turn of the law's loop -/
section LAWCASE
variable {p : Program} {l : Launch} {e : Env} {s : State} {m : MethodId} {below : List Frame} {meth : Method} {c : Code} {Q : State → Prop} {cells slots : Nat}
variable {b L : Nat} {sc : Nat → Int32} {D : va_G} {T T' : mT3} {cL : ClassId} {z e0 bx ba : Nat → Nat} {o : Nat} {i : Int32}
set_option maxHeartbeats 8000000 in
set_option maxRecDepth 20000 in
theorem law_step (C : LX p l s m meth c b L sc D T T' cL z e0) (hI : lwI L i) (hf : cells + 101 ≤ 601024 ∧ slots + 102 ≤ 7293034) (kk : LK p l e s m below meth c Q b D T T' cL bx ba o i 1477 (cells + 101) (slots + 102)) : LK p l e s m below meth c Q b D T T' cL bx ba o i 33 cells slots := by
  intro xa xs ms f H locs ls hR hRR hP hD hS hl
  obtain ⟨⟨hx, hb, hr, hml, hown, hts, hX, hbl, hlocks, hgv⟩, hKx, hKm, hKo, hXS, hE, hl0⟩ := id C
  have hA : ∀ q : Nat, s.heap.size ≤ q → lwA s q := fun _ h => h
  have hbA : ¬ lwA s b := Nat.not_le.mpr hbl
  refine lv_aload_n hx hb dL_law_33 rfl (lv_at hl 0 rfl) ?_
  refine lv_iload hx hb dL_law_34 (lv_at hl 4 rfl) ?_
  refine va_sld hx hb hX hbl hbA hS hI.1 dL_law_36 ?_
  refine lv_bipush (v := (63 : Int32)) hx hb dL_law_37 (by decide) ?_
  refine lv_iand hx hb dL_law_39 ?_
  obtain ⟨j, hj, ej⟩ := vp_in_of (pk_andIn (sc i.toNatClampNeg) (m := 63) 6 (by decide) (by decide)) (by decide)
  rw [ej]
  by_cases h45 : j < 45
  · rcases (show j = 0 ∨ j = 1 ∨ j = 2 ∨ j = 3 ∨ j = 4 ∨ j = 5 ∨ j = 6 ∨ j = 7 ∨ j = 8 ∨ j = 9 ∨ j = 10 ∨ j = 11 ∨ j = 12 ∨ j = 13 ∨ j = 14 ∨ j = 15 ∨ j = 16 ∨ j = 17 ∨ j = 18 ∨ j = 19 ∨ j = 20 ∨ j = 21 ∨ j = 22 ∨ j = 23 ∨ j = 24 ∨ j = 25 ∨ j = 26 ∨ j = 27 ∨ j = 28 ∨ j = 29 ∨ j = 30 ∨ j = 31 ∨ j = 32 ∨ j = 33 ∨ j = 34 ∨ j = 35 ∨ j = 36 ∨ j = 37 ∨ j = 38 ∨ j = 39 ∨ j = 40 ∨ j = 41 ∨ j = 42 ∨ j = 43 ∨ j = 44 by omega) with rfl | rfl | rfl | rfl | rfl | rfl | rfl | rfl | rfl | rfl | rfl | rfl | rfl | rfl | rfl | rfl | rfl | rfl | rfl | rfl | rfl | rfl | rfl | rfl | rfl | rfl | rfl | rfl | rfl | rfl | rfl | rfl | rfl | rfl | rfl | rfl | rfl | rfl | rfl | rfl | rfl | rfl | rfl | rfl | rfl
    · exact lv_tableIn hx hb dL_law_40 (off := 196) (tgt := 236) (by decide) (by decide) rfl (by decide) (cs_town C hI hf kk xa xs ms f H locs ls hR hRR hP hD hS hl)
    · exact lv_tableIn hx hb dL_law_40 (off := 221) (tgt := 261) (by decide) (by decide) rfl (by decide) (cs_cell C hI hf kk xa xs ms f H locs ls hR hRR hP hD hS hl)
    · exact lv_tableIn hx hb dL_law_40 (off := 258) (tgt := 298) (by decide) (by decide) rfl (by decide) (cs_cuts C hI hf kk xa xs ms f H locs ls hR hRR hP hD hS hl)
    · exact lv_tableIn hx hb dL_law_40 (off := 283) (tgt := 323) (by decide) (by decide) rfl (by decide) (cs_lays C hI hf kk xa xs ms f H locs ls hR hRR hP hD hS hl)
    · exact lv_tableIn hx hb dL_law_40 (off := 320) (tgt := 360) (by decide) (by decide) rfl (by decide) (cs_set C hI hf kk xa xs ms f H locs ls hR hRR hP hD hS hl)
    · exact lv_tableIn hx hb dL_law_40 (off := 357) (tgt := 397) (by decide) (by decide) rfl (by decide) (cs_house C hI hf kk xa xs ms f H locs ls hR hRR hP hD hS hl)
    · exact lv_tableIn hx hb dL_law_40 (off := 394) (tgt := 434) (by decide) (by decide) rfl (by decide) (cs_about C hI hf kk xa xs ms f H locs ls hR hRR hP hD hS hl)
    · exact lv_tableIn hx hb dL_law_40 (off := 431) (tgt := 471) (by decide) (by decide) rfl (by decide) (cs_light C hI hf kk xa xs ms f H locs ls hR hRR hP hD hS hl)
    · exact lv_tableIn hx hb dL_law_40 (off := 444) (tgt := 484) (by decide) (by decide) rfl (by decide) (cs_minutes C hI hf kk xa xs ms f H locs ls hR hRR hP hD hS hl)
    · exact lv_tableIn hx hb dL_law_40 (off := 469) (tgt := 509) (by decide) (by decide) rfl (by decide) (cs_anew C hI hf kk xa xs ms f H locs ls hR hRR hP hD hS hl)
    · exact lv_tableIn hx hb dL_law_40 (off := 482) (tgt := 522) (by decide) (by decide) rfl (by decide) (cs_presses C hI hf kk xa xs ms f H locs ls hR hRR hP hD hS hl)
    · exact lv_tableIn hx hb dL_law_40 (off := 507) (tgt := 547) (by decide) (by decide) rfl (by decide) (cs_holds C hI hf kk xa xs ms f H locs ls hR hRR hP hD hS hl)
    · exact lv_tableIn hx hb dL_law_40 (off := 532) (tgt := 572) (by decide) (by decide) rfl (by decide) (cs_lacks C hI hf kk xa xs ms f H locs ls hR hRR hP hD hS hl)
    · exact lv_tableIn hx hb dL_law_40 (off := 557) (tgt := 597) (by decide) (by decide) rfl (by decide) (cs_falls C hI hf kk xa xs ms f H locs ls hR hRR hP hD hS hl)
    · exact lv_tableIn hx hb dL_law_40 (off := 570) (tgt := 610) (by decide) (by decide) rfl (by decide) (cs_canCut C hI hf kk xa xs ms f H locs ls hR hRR hP hD hS hl)
    · exact lv_tableIn hx hb dL_law_40 (off := 583) (tgt := 623) (by decide) (by decide) rfl (by decide) (cs_weakest C hI hf kk xa xs ms f H locs ls hR hRR hP hD hS hl)
    · exact lv_tableIn hx hb dL_law_40 (off := 596) (tgt := 636) (by decide) (by decide) rfl (by decide) (cs_forLane C hI hf kk xa xs ms f H locs ls hR hRR hP hD hS hl)
    · exact lv_tableIn hx hb dL_law_40 (off := 609) (tgt := 649) (by decide) (by decide) rfl (by decide) (cs_order C hI hf kk xa xs ms f H locs ls hR hRR hP hD hS hl)
    · exact lv_tableIn hx hb dL_law_40 (off := 646) (tgt := 686) (by decide) (by decide) rfl (by decide) (cs_round C hI hf kk xa xs ms f H locs ls hR hRR hP hD hS hl)
    · exact lv_tableIn hx hb dL_law_40 (off := 659) (tgt := 699) (by decide) (by decide) rfl (by decide) (cs_moreOn C hI hf kk xa xs ms f H locs ls hR hRR hP hD hS hl)
    · exact lv_tableIn hx hb dL_law_40 (off := 672) (tgt := 712) (by decide) (by decide) rfl (by decide) (cs_will C hI hf kk xa xs ms f H locs ls hR hRR hP hD hS hl)
    · exact lv_tableIn hx hb dL_law_40 (off := 697) (tgt := 737) (by decide) (by decide) rfl (by decide) (cs_thick C hI hf kk xa xs ms f H locs ls hR hRR hP hD hS hl)
    · exact lv_tableIn hx hb dL_law_40 (off := 722) (tgt := 762) (by decide) (by decide) rfl (by decide) (cs_winds C hI hf kk xa xs ms f H locs ls hR hRR hP hD hS hl)
    · exact lv_tableIn hx hb dL_law_40 (off := 747) (tgt := 787) (by decide) (by decide) rfl (by decide) (cs_anyWind C hI hf kk xa xs ms f H locs ls hR hRR hP hD hS hl)
    · exact lv_tableIn hx hb dL_law_40 (off := 773) (tgt := 813) (by decide) (by decide) rfl (by decide) (cs_unlike C hI hf kk xa xs ms f H locs ls hR hRR hP hD hS hl)
    · exact lv_tableIn hx hb dL_law_40 (off := 799) (tgt := 839) (by decide) (by decide) rfl (by decide) (cs_wedge C hI hf kk xa xs ms f H locs ls hR hRR hP hD hS hl)
    · exact lv_tableIn hx hb dL_law_40 (off := 812) (tgt := 852) (by decide) (by decide) rfl (by decide) (cs_sits C hI hf kk xa xs ms f H locs ls hR hRR hP hD hS hl)
    · exact lv_tableIn hx hb dL_law_40 (off := 825) (tgt := 865) (by decide) (by decide) rfl (by decide) (cs_hits C hI hf kk xa xs ms f H locs ls hR hRR hP hD hS hl)
    · exact lv_tableIn hx hb dL_law_40 (off := 862) (tgt := 902) (by decide) (by decide) rfl (by decide) (cs_sendOut C hI hf kk xa xs ms f H locs ls hR hRR hP hD hS hl)
    · exact lv_tableIn hx hb dL_law_40 (off := 875) (tgt := 915) (by decide) (by decide) rfl (by decide) (cs_crowd C hI hf kk xa xs ms f H locs ls hR hRR hP hD hS hl)
    · exact lv_tableIn hx hb dL_law_40 (off := 900) (tgt := 940) (by decide) (by decide) rfl (by decide) (cs_safest C hI hf kk xa xs ms f H locs ls hR hRR hP hD hS hl)
    · exact lv_tableIn hx hb dL_law_40 (off := 913) (tgt := 953) (by decide) (by decide) rfl (by decide) (cs_fell C hI hf kk xa xs ms f H locs ls hR hRR hP hD hS hl)
    · exact lv_tableIn hx hb dL_law_40 (off := 938) (tgt := 978) (by decide) (by decide) rfl (by decide) (cs_forged C hI hf kk xa xs ms f H locs ls hR hRR hP hD hS hl)
    · exact lv_tableIn hx hb dL_law_40 (off := 963) (tgt := 1003) (by decide) (by decide) rfl (by decide) (cs_judge C hI hf kk xa xs ms f H locs ls hR hRR hP hD hS hl)
    · exact lv_tableIn hx hb dL_law_40 (off := 988) (tgt := 1028) (by decide) (by decide) rfl (by decide) (cs_days C hI hf kk xa xs ms f H locs ls hR hRR hP hD hS hl)
    · exact lv_tableIn hx hb dL_law_40 (off := 1037) (tgt := 1077) (by decide) (by decide) rfl (by decide) (cs_image C hI hf kk xa xs ms f H locs ls hR hRR hP hD hS hl)
    · exact lv_tableIn hx hb dL_law_40 (off := 1050) (tgt := 1090) (by decide) (by decide) rfl (by decide) (cs_restore C hI hf kk xa xs ms f H locs ls hR hRR hP hD hS hl)
    · exact lv_tableIn hx hb dL_law_40 (off := 1063) (tgt := 1103) (by decide) (by decide) rfl (by decide) (cs_count C hI hf kk xa xs ms f H locs ls hR hRR hP hD hS hl)
    · exact lv_tableIn hx hb dL_law_40 (off := 1088) (tgt := 1128) (by decide) (by decide) rfl (by decide) (cs_keep C hI hf kk xa xs ms f H locs ls hR hRR hP hD hS hl)
    · exact lv_tableIn hx hb dL_law_40 (off := 1149) (tgt := 1189) (by decide) (by decide) rfl (by decide) (cs_row C hI hf kk xa xs ms f H locs ls hR hRR hP hD hS hl)
    · exact lv_tableIn hx hb dL_law_40 (off := 1198) (tgt := 1238) (by decide) (by decide) rfl (by decide) (cs_put C hI hf kk xa xs ms f H locs ls hR hRR hP hD hS hl)
    · exact lv_tableIn hx hb dL_law_40 (off := 1247) (tgt := 1287) (by decide) (by decide) rfl (by decide) (cs_element C hI hf kk xa xs ms f H locs ls hR hRR hP hD hS hl)
    · exact lv_tableIn hx hb dL_law_40 (off := 1314) (tgt := 1354) (by decide) (by decide) rfl (by decide) (cs_copy C hI hf kk xa xs ms f H locs ls hR hRR hP hD hS hl)
    · exact lv_tableIn hx hb dL_law_40 (off := 1387) (tgt := 1427) (by decide) (by decide) rfl (by decide) (cs_cost C hI hf kk xa xs ms f H locs ls hR hRR hP hD hS hl)
    · exact lv_tableIn hx hb dL_law_40 (off := 1412) (tgt := 1452) (by decide) (by decide) rfl (by decide) (cs_toss C hI hf kk xa xs ms f H locs ls hR hRR hP hD hS hl)
  · refine lv_tableOut hx hb dL_law_40 (tgt := 1477) (Or.inr ?_) (by decide) ?_
    · rw [nI_toInt (by omega)]
      omega
    · refine W.widen (k := cells + 101) (n := slots + 102) (Nat.le_add_right _ _) (Nat.le_add_right _ _) ?_
      exact kk xa xs ms f H locs ls hR hRR hP hD hS hl
end LAWCASE
