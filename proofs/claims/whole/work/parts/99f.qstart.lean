/-! both sides stand alike at first -/
def aZ : AT := ((0, 0, 0, 0), (fun i => if i = 4 then 150 else if i = 5 then 140 else 0), (fun _ => 0), (fun _ => 0), (fun _ => 0), (fun _ => 0))
theorem aZ_f : aFall aZ 0 = -4 := by decide +kernel
theorem okB_z : okA aZ := by
  refine ⟨Or.inl rfl, ⟨0, by decide, rfl⟩, ⟨0, by decide, rfl⟩, fun c _ => ⟨⟨0, by decide, rfl⟩, ⟨0, by decide, rfl⟩⟩, fun i hi => ?_, fun x _ => ⟨⟨0, by decide, rfl⟩, ⟨0, by decide, rfl⟩⟩, fun _ => rfl⟩
  have : i = 0 ∨ i = 1 ∨ i = 2 ∨ i = 3 ∨ i = 4 ∨ i = 5 ∨ i = 6 := by omega
  rcases this with e | e | e | e | e | e | e <;> subst e
  · exact ⟨0, by decide, rfl⟩
  · exact ⟨0, by decide, rfl⟩
  · exact ⟨0, by decide, rfl⟩
  · exact ⟨0, by decide, rfl⟩
  · exact ⟨150, by decide, rfl⟩
  · exact ⟨140, by decide, rfl⟩
  · exact ⟨0, by decide, rfl⟩
theorem okD_z : okD aZ := ⟨okB_z, by
  show (0 : Int32) = (if aFall aZ 0 = -4 then 0 else 1)
  rw [aZ_f, if_pos rfl]⟩
