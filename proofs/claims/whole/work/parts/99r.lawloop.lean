/-! the law's loop -/
section LAWCASE
variable {p : Program} {l : Launch} {e : Env} {s : State} {m : MethodId} {below : List Frame} {meth : Method} {c : Code} {Q : State → Prop} {cells slots : Nat}
variable {b L : Nat} {sc : Nat → Int32} {D : va_G} {T T' : mT3} {cL : ClassId} {z e0 bx ba : Nat → Nat} {o : Nat} {i : Int32}
set_option maxHeartbeats 4000000 in
theorem law_loop (hL : L ≤ 3072) (C : LX p l s m meth c b L sc D T T' cL z e0) : ∀ (d j : Nat), 6 * j ≤ L → L < 6 * j + 6 * d → LK p l e s m below meth c (lw_Z below #[Value.ref b] s) b D T T' cL bx ba o (nI (6 * j)) 23 (51 + 101 * j) (5724 + 102 * j) := by
  intro d
  induction d with
  | zero =>
    intro j h1 h2
    omega
  | succ d ih =>
    intro j h1 h2 xa xs ms f H locs ls hR hRR hP hD hS hl
    obtain ⟨⟨hx, hb, hr, hml, hown, hts, hX, hbl, hlocks, hgv⟩, -⟩ := id C
    have hbA : ¬ lwA s b := Nat.not_le.mpr hbl
    have hlen : (Int32.ofNat L - 6).toInt = (L : Int) - 6 := by
      have e1 : (Int32.ofNat L).toInt = (L : Int) := nI_toInt (by omega)
      have e2 : (6 : Int32).toInt = 6 := by decide
      have e3 := q_sub (x := Int32.ofNat L) (y := 6) (by rw [e1, e2]; omega) (by rw [e1, e2]; omega)
      rw [e3, e1, e2]
    refine lv_iload hx hb dL_law_23 (lv_at hl 4 rfl) ?_
    refine lv_aload_n hx hb dL_law_25 rfl (lv_at hl 0 rfl) ?_
    refine va_slen hx hb hX hbl hbA hS dL_law_26 ?_
    refine lv_bipush (v := (6 : Int32)) hx hb dL_law_27 (by decide) ?_
    refine lv_isub hx hb dL_law_29 ?_
    refine lv_icmp_gt (tgt := 1483) hx hb dL_law_30 (by decide) (fun _ => ?_) (fun h => ?_)
    · refine lv_iconst (v := (1 : Int32)) hx hb dL_law_1483 (by decide) ?_
      refine va_forget (fun q hq => hS.2.2 q hq) ?_
      refine W.widen (k := 601024) (n := 7293034) (by omega) (by omega) ?_
      exact lw_ret hx hb hr hlocks dL_law_1484
    · have h6 : 6 * j + 6 ≤ L := by
        refine Nat.not_lt.mp (fun q => h ?_)
        rw [i_lt, hlen, nI_toInt (by omega)]
        omega
      have e6 : nI (6 * j) + Int32.ofInt 6 = nI (6 * (j + 1)) := by
        rw [show Int32.ofInt 6 = nI 6 by decide, nI_add]
        rfl
      refine law_step C (lwI_of h6 hL) (by omega) ?_ xa xs ms f H locs ls hR hRR hP hD hS hl
      intro xa xs ms f H locs ls hR hRR hP hD hS hl
      refine lv_iinc (v := nI (6 * (j + 1))) (lv' := [(4, .int (nI (6 * (j + 1)))), (0, .ref b), (1, .ref (bx 0)), (2, .ref (ba 0)), (3, .ref o)]) hx hb dL_law_1477 hl (k := 4) rfl e6 (by decide) rfl (fun ls hl => ?_)
      refine lv_goto (tgt := 23) hx hb dL_law_1480 (by decide) ?_
      refine W.widen (k := 51 + 101 * (j + 1)) (n := 5724 + 102 * (j + 1)) (by omega) (by omega) ?_
      exact ih (j + 1) (by omega) (by omega) xa xs ms f H locs ls hR hRR hP hD hS (lv_sub hl [1, 2, 3, 4, 0] rfl)
end LAWCASE
