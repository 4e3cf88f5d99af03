/-! a row for each of some cells: at (1, r), its longs at (12, r) -/
def CR9 (σ : HS) (r : Nat) (f : Nat → Option (List Nat)) : Prop := hV σ (1, r) = true ∧ hR σ 64 r 0 = some (12, r) ∧ hV σ (12, r) = true ∧ hN σ 12 r = 8 ∧ (∀ c, c < 8 → hL σ 768 r c = enc5 ((f c).getD [])) ∧ ∃ m, m < 256 ∧ hI σ 65 r 0 = nI m ∧ ∀ c, c < 8 → m.testBit c = (f c).isSome
theorem cell_in {x : Int32} : (x < 0 ∨ 8 ≤ x.toInt) ∨ inI x 8 = true := by
  unfold inI
  rw [Int32.lt_iff_toInt_lt]
  have : (0 : Int32).toInt = 0 := by decide
  rw [this]
  by_cases h : x.toInt < 0
  · exact Or.inl (Or.inl h)
  · by_cases h2 : 8 ≤ x.toInt
    · exact Or.inl (Or.inr h2)
    · exact Or.inr (by rw [decide_eq_true (show 0 ≤ x.toInt by omega), decide_eq_true (show x.toInt < ((8 : Nat) : Int) by omega)]; rfl)
/-- a bit, by the shift that leaves no sign -/
theorem ubit : ∀ m, m < 256 → ∀ c, c < 8 → ((nI m).toUInt32 >>> ((nI c).toUInt32 &&& Int32.toUInt32 31)).toInt32 &&& nI 1 = nI (m.testBit c).toNat := by decide +kernel
