/-! bits and rounds of small numbers -/
theorem ar_p : ∀ a, a < 24 → X10_around (nI a) = some (nI (a % 12)) := by decide +kernel
theorem ar_m : ∀ a, a < 12 → ∀ b, b < 13 → X10_around (nI a - nI b) = some (nI ((a + 12 - b) % 12)) := by decide +kernel
theorem rm_12 {a : Nat} (h : a < 2 ^ 31) : nI a - nI a / (12 : Int32) * (12 : Int32) = nI (a % 12) := pk_rem (d := 12) h (by decide) (by decide)
theorem rm_21 {a : Nat} (h : a < 2 ^ 31) : nI a - nI a / (21 : Int32) * (21 : Int32) = nI (a % 21) := pk_rem (d := 21) h (by decide) (by decide)
theorem w12 : ∀ w, w < 12 → ∀ s, s < 12 → nI w - nI s + (12 : Int32) = nI (w + 12 - s) := by decide +kernel
def biI (i : Nat) : Int32 := (1 : Int32) <<< (nI i &&& 31)
theorem bi_or : ∀ a, a < 64 → ∀ i, i < 6 → nI a ||| biI i = nI (a ||| 2 ^ i) ∧ a ||| 2 ^ i < 64 := by decide +kernel
def pcN (v : Nat) : Nat := (List.range 12).foldl (fun n i => n + v / 2 ^ i % 2) 0
theorem pc_64 : ∀ v, v < 64 → J6_bitCount_0f7a4 (nI v) = some (nI (pcN v)) ∧ X11_onesOf (nI v) = some (nI (pcN v)) ∧ pcN v < 7 := by decide +kernel
theorem pc_a : ∀ a, a < 64 → ∀ b, b < 64 → J6_bitCount_0f7a4 (nI (64 * a + b)) = some (nI (pcN (64 * a + b))) ∧ X11_onesOf (nI (64 * a + b)) = some (nI (pcN (64 * a + b))) ∧ pcN (64 * a + b) < 13 := by decide +kernel
theorem pc_s {v : Nat} (h : v < 4096) : J6_bitCount_0f7a4 (nI v) = some (nI (pcN v)) ∧ X11_onesOf (nI v) = some (nI (pcN v)) ∧ pcN v < 13 := by
  have e := pc_a (v / 64) (by omega) (v % 64) (by omega)
  rw [show 64 * (v / 64) + v % 64 = v by omega] at e
  exact e
/-- bit i of a set of cells -/
def btN (v i : Nat) : Prop := v / 2 ^ i % 2 = 1
theorem bt_a : ∀ a, a < 64 → ∀ b, b < 64 → ∀ i, i < 12 → ((nI (64 * a + b) >>> (nI i &&& 31)) &&& (1 : Int32) = nI ((64 * a + b) / 2 ^ i % 2)) := by decide +kernel
theorem bt_s {v : Nat} (h : v < 4096) {i : Nat} (hi : i < 12) : (nI v >>> (nI i &&& 31)) &&& (1 : Int32) = nI (v / 2 ^ i % 2) := by
  have e := bt_a (v / 64) (by omega) (v % 64) (by omega) i hi
  rw [show 64 * (v / 64) + v % 64 = v by omega] at e
  exact e
