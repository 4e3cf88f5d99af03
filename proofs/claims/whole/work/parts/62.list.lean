/-! the lists' predicate behind their calls -/
/-- a list's tags -/
def LT9 (a : Nat) (t : Tg) : Prop := t = (0, a) ∨ (t.1 = 14 ∧ t.2 / 64 = a)
theorem Sm.sI {σ0 σ : HS} {t : Tg} (h : Sm σ0 σ t) {f i j : Nat} {v : Int32} (hne : ¬ (f / 64 = t.1 ∧ i = t.2)) : Sm σ0 (sI σ f i j v) t := h.tr ⟨fun f' j' e => ⟨up3_ne (fun z => hne ⟨by rw [← z.1]; exact e, z.2.1.symm⟩), rfl, rfl⟩, rfl, rfl, rfl⟩
theorem Sm.sR {σ0 σ : HS} {t : Tg} (h : Sm σ0 σ t) {f i j : Nat} {v : Option Tg} (hne : ¬ (f / 64 = t.1 ∧ i = t.2)) : Sm σ0 (sR σ f i j v) t := h.tr ⟨fun f' j' e => ⟨rfl, rfl, up3_ne (fun z => hne ⟨by rw [← z.1]; exact e, z.2.1.symm⟩)⟩, rfl, rfl, rfl⟩
theorem Sm.new {σ0 σ : HS} {t s : Tg} {q n : Nat} (h : Sm σ0 σ t) (hne : t ≠ s) : Sm σ0 (sNew σ s q n) t := by
  have hc : ∀ f, f / 64 = t.1 → ¬ (f / 64 = s.1 ∧ t.2 = s.2) := fun f e z => hne (Prod.ext (e.symm.trans z.1) z.2)
  exact h.tr ⟨fun f' j' e => ⟨clr_ne (hc f' e), clr_ne (hc f' e), clr_ne (hc f' e)⟩, if_neg (fun z => hne (Prod.ext z.1 z.2)), up1_ne hne, up1_ne hne⟩
theorem lq_0 {a : Nat} {t : Tg} (h : ¬ LT9 a t) {f : Nat} (hf : f < 64) : ¬ (f / 64 = t.1 ∧ a = t.2) := fun z => h (Or.inl (Prod.ext (by show t.1 = 0; omega) z.2.symm))
theorem lq_1 {a c : Nat} {t : Tg} (hc : c < 64) (h : ¬ LT9 a t) : ¬ (896 / 64 = t.1 ∧ 64 * a + c = t.2) := fun z => h (Or.inr ⟨by omega, by omega⟩)
theorem sR_ne {σ : HS} {f i j f' i' j' : Nat} {v : Option Tg} (h : ¬ (f' = f ∧ i' = i ∧ j' = j)) : hR (sR σ f i j v) f' i' j' = hR σ f' i' j' := up3_ne h
theorem sI_ne {σ : HS} {f i j f' i' j' : Nat} {v : Int32} (h : ¬ (f' = f ∧ i' = i ∧ j' = j)) : hI (sI σ f i j v) f' i' j' = hI σ f' i' j' := up3_ne h
section ALS
variable {σ : HS} {a c : Nat} {xs : List Tg}
/-- a list's numbers change: one is put behind, set, or left out -/
theorem AL9.app (h : AL9 σ a xs c) (hroom : xs.length < c) {x : Tg} (hx : hV σ x = true) (hk : x.1 < 11) (v : Int32) : AL9 (sI (sR (sI σ 0 a 0 v) 896 (64 * a + c) xs.length (some x)) 2 a 0 (nI (xs.length + 1))) a (xs ++ [x]) c ∧ ∀ t, ¬ LT9 a t → Sm σ (sI (sR (sI σ 0 a 0 v) 896 (64 * a + c) xs.length (some x)) 2 a 0 (nI (xs.length + 1))) t := by
  obtain ⟨h0, h1, h2, h3, h4, h5, h6⟩ := h
  refine ⟨⟨h0, ?_, fun z => absurd z (by omega), fun z => ?_, by rw [List.length_append, List.length_singleton]; omega, h5, fun j y hy => ?_⟩, fun t ht => ?_⟩
  · rw [List.length_append, List.length_singleton]
    exact up3_eq
  · obtain ⟨k1, k2, k3⟩ := h3 z
    exact ⟨(sR_ne (σ := sI σ 0 a 0 v) (f := 896) (i := 64 * a + c) (j := xs.length) (v := some x) (f' := 1) (i' := a) (j' := 0) (fun q => absurd q.1 (by decide))).trans k1, k2, k3⟩
  · by_cases e : j = xs.length
    · subst e
      rw [List.getElem?_append_right (Nat.le_refl _), Nat.sub_self] at hy
      cases hy
      exact ⟨up3_eq, hx, hk⟩
    · have hj : j < xs.length := by
        have := (List.getElem?_eq_some_iff.mp hy).1
        rw [List.length_append, List.length_singleton] at this
        omega
      rw [List.getElem?_append_left hj] at hy
      obtain ⟨g1, g2, g3⟩ := h6 j y hy
      exact ⟨(up3_ne (fun q => e q.2.2)).trans g1, g2, g3⟩
  · exact ((Sm.rf.sI (lq_0 ht (by decide))).sR (lq_1 h5 ht)).sI (lq_0 ht (by decide))
theorem AL9.put (h : AL9 σ a xs c) {i : Nat} (hi : i < xs.length) {y : Tg} (hy : hV σ y = true) (hk : y.1 < 11) : AL9 (sR σ 896 (64 * a + c) i (some y)) a (xs.set i y) c ∧ ∀ t, ¬ LT9 a t → Sm σ (sR σ 896 (64 * a + c) i (some y)) t := by
  obtain ⟨h0, h1, h2, h3, h4, h5, h6⟩ := h
  refine ⟨⟨h0, by rw [List.length_set]; exact h1, fun z => absurd z (by omega), fun z => ?_, by rw [List.length_set]; exact h4, h5, fun j z hz => ?_⟩, fun t ht => Sm.rf.sR (lq_1 h5 ht)⟩
  · obtain ⟨k1, k2, k3⟩ := h3 z
    exact ⟨(sR_ne (σ := σ) (f := 896) (i := 64 * a + c) (j := i) (v := some y) (f' := 1) (i' := a) (j' := 0) (fun q => absurd q.1 (by decide))).trans k1, k2, k3⟩
  · rw [List.getElem?_set] at hz
    by_cases e : i = j
    · subst e
      rw [if_pos rfl, if_pos hi] at hz
      cases hz
      exact ⟨up3_eq, hy, hk⟩
    · rw [if_neg e] at hz
      obtain ⟨g1, g2, g3⟩ := h6 j z hz
      exact ⟨(up3_ne (fun q => e q.2.2.symm)).trans g1, g2, g3⟩
theorem AL9.pop {x : Tg} (h : AL9 σ a (xs ++ [x]) c) (v : Int32) : AL9 (sR (sI (sI σ 0 a 0 v) 2 a 0 (nI xs.length)) 896 (64 * a + c) xs.length none) a xs c ∧ ∀ t, ¬ LT9 a t → Sm σ (sR (sI (sI σ 0 a 0 v) 2 a 0 (nI xs.length)) 896 (64 * a + c) xs.length none) t := by
  obtain ⟨h0, h1, h2, h3, h4, h5, h6⟩ := h
  rw [List.length_append, List.length_singleton] at h4
  refine ⟨⟨h0, up3_eq, fun z => absurd z (by omega), fun z => ?_, by omega, h5, fun j y hy => ?_⟩, fun t ht => ?_⟩
  · obtain ⟨k1, k2, k3⟩ := h3 z
    exact ⟨(sR_ne (σ := sI (sI σ 0 a 0 v) 2 a 0 (nI xs.length)) (f := 896) (i := 64 * a + c) (j := xs.length) (v := none) (f' := 1) (i' := a) (j' := 0) (fun q => absurd q.1 (by decide))).trans k1, k2, k3⟩
  · have hj := (List.getElem?_eq_some_iff.mp hy).1
    obtain ⟨g1, g2, g3⟩ := h6 j y (by rw [List.getElem?_append_left hj]; exact hy)
    exact ⟨(up3_ne (fun q => by have := q.2.2; omega)).trans g1, g2, g3⟩
  · exact ((Sm.rf.sI (lq_0 ht (by decide))).sI (lq_0 ht (by decide))).sR (lq_1 h5 ht)
theorem AL9.made (h : hV σ (0, a) = true) (hz : hI σ 2 a 0 = nI 0) : AL9 (sR (sI σ 0 a 0 (nI 0)) 1 a 0 (some (15, 0))) a [] 0 ∧ ∀ t, ¬ LT9 a t → Sm σ (sR (sI σ 0 a 0 (nI 0)) 1 a 0 (some (15, 0))) t := by
  refine ⟨⟨h, (sI_ne (σ := σ) (f := 0) (i := a) (j := 0) (v := nI 0) (f' := 2) (i' := a) (j' := 0) (fun q => absurd q.1 (by decide))).trans hz, fun _ => up3_eq, fun z => absurd rfl z, Nat.le_refl _, by decide, fun j x hx => by cases hx⟩, fun t ht => (Sm.rf.sI (lq_0 ht (by decide))).sR (lq_0 ht (by decide))⟩
end ALS
