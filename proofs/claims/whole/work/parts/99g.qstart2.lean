/-! both sides stand alike at first: RR -/
theorem tS0_be : ∀ c, c < 12 → gA tS0 1 c = 9 ∧ gA tS0 2 c = -4 := by decide +kernel
theorem tS0_t : ∀ i, i < 7 → gA tS0 3 i = aT aZ i := by decide +kernel
theorem tS0_h : ∀ x, x < 6 → gA tS0 4 x = 0 ∧ gA tS0 5 x = 0 := by decide +kernel
theorem aZ_be : aBe aZ 0 = 9 ∧ aBu aZ 0 = -4 := by decide +kernel
theorem mS0_0 : ∀ i, i < 12 → gA mS0 0 i = cAh i := by decide +kernel
theorem mS0_1 : ∀ i, i < 12 → gA mS0 1 i = cAs i := by decide +kernel
theorem mS0_4 : ∀ i, i < 7 → gA mS0 4 i = aT aZ i := by decide +kernel
theorem ct_z : ct aZ tS0 (fun _ => (0, 0)) := by
  refine ⟨fun c hc => ⟨rfl, rfl, (show (0 : Nat) < 8 by decide), ?_, ?_⟩, tS0_t, tS0_h, rfl, rfl, rfl⟩
  · rw [(tS0_be c hc).1]; exact aZ_be.1.symm
  · rw [(tS0_be c hc).2]; exact aZ_be.2.symm
theorem mt_z : mt aZ mS0 := ⟨rfl, rfl, rfl, rfl, mS0_4, fun _ _ => ⟨rfl, rfl⟩, fun _ _ => ⟨rfl, rfl⟩⟩
theorem RR_z : RR xs0 mS0 := by
  refine ⟨⟨aZ, okD_z, ct_z, ?_, ⟨mS0_0, mS0_1⟩, fun _ _ => rfl, mt_z⟩, Or.inl ⟨rfl, rfl⟩, fun d hd => Or.inl ⟨rfl, rfl, rfl⟩⟩
  show (-4 : Int32) = aFall aZ 0
  exact aZ_f.symm
