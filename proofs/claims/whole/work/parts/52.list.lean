/-! the library's lists: a list's row stands at (14, 64 a + its capacity) -/
def AL9 (σ : HS) (a : Nat) (xs : List Tg) (c : Nat) : Prop := hV σ (0, a) = true ∧ hI σ 2 a 0 = nI xs.length ∧ (c = 0 → hR σ 1 a 0 = some (15, 0)) ∧ (c ≠ 0 → hR σ 1 a 0 = some (14, 64 * a + c) ∧ hV σ (14, 64 * a + c) = true ∧ hN σ 14 (64 * a + c) = c) ∧ xs.length ≤ c ∧ c < 64 ∧ (∀ j x, xs[j]? = some x → hR σ 896 (64 * a + c) j = some x ∧ hV σ x = true ∧ x.1 < 11)
theorem AL9.row {σ : HS} {a : Nat} {xs : List Tg} {c j : Nat} {x : Tg} (h : AL9 σ a xs c) (hx : xs[j]? = some x) : j < xs.length ∧ j < c ∧ hR σ 1 a 0 = some (14, 64 * a + c) ∧ At σ (14, 64 * a + c) (hG σ (14, 64 * a + c)) ∧ hN σ 14 (64 * a + c) = c ∧ hR σ 896 (64 * a + c) j = some x ∧ At σ x (hG σ x) ∧ x.1 < 11 := by
  obtain ⟨h0, h1, h2, h3, h4, h5, h6⟩ := h
  have hj : j < xs.length := (List.getElem?_eq_some_iff.mp hx).1
  obtain ⟨k1, k2, k3⟩ := h3 (by omega)
  obtain ⟨g1, g2, g3⟩ := h6 j x hx
  exact ⟨hj, by omega, k1, ⟨k2, rfl⟩, k3, g1, ⟨g2, rfl⟩, g3⟩
