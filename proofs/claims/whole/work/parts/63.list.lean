section ALG
variable {σ : HS} {a c : Nat} {xs : List Tg}
theorem sI_id {σ : HS} {f i j : Nat} : sI σ f i j (hI σ f i j) = σ := by
  unfold sI
  refine Prod.ext ?_ rfl
  funext x y z
  show up3 _ _ _ _ _ _ _ _ = _
  by_cases e : x = f ∧ y = i ∧ z = j
  · obtain ⟨rfl, rfl, rfl⟩ := e
    exact up3_eq
  · exact up3_ne e
theorem AL9.app2 (h : AL9 σ a xs c) (hroom : xs.length < c) {x : Tg} (hx : hV σ x = true) (hk : x.1 < 11) : AL9 (sI (sR σ 896 (64 * a + c) xs.length (some x)) 2 a 0 (nI (xs.length + 1))) a (xs ++ [x]) c ∧ ∀ t, ¬ LT9 a t → Sm σ (sI (sR σ 896 (64 * a + c) xs.length (some x)) 2 a 0 (nI (xs.length + 1))) t := by
  have k := h.app hroom hx hk (hI σ 0 a 0)
  rw [sI_id] at k
  exact k
theorem AL9.grow (h : AL9 σ a xs c) (hc : c ≠ 0) {M : Nat} (hM : c < M) (hM64 : M < 64) (hf : hV σ (14, 64 * a + M) = false) (q : Nat) : AL9 (sR (cpQ (sNew σ (14, 64 * a + M) q M) (64 * a + c) (64 * a + M) c) 1 a 0 (some (14, 64 * a + M))) a xs M ∧ ∀ t, ¬ LT9 a t → Sm σ (sR (cpQ (sNew σ (14, 64 * a + M) q M) (64 * a + c) (64 * a + M) c) 1 a 0 (some (14, 64 * a + M))) t := by
  obtain ⟨h0, h1, h2, h3, h4, h5, h6⟩ := h
  obtain ⟨k1, k2, k3⟩ := h3 hc
  refine ⟨⟨((Ext.new hf) (0, a) h0).1, (clr_ne (f := hI σ) (v := 0) (t := (14, 64 * a + M)) (x := 2) (y := a) (z := 0) (fun z => absurd (show (0 : Nat) = 14 from z.1) (by decide))).trans h1, fun z => absurd z (by omega), fun _ => ⟨up3_eq, up1_eq, if_pos ⟨rfl, rfl⟩⟩, by omega, hM64, fun j y hy => ?_⟩, fun t ht => ?_⟩
  · obtain ⟨g1, g2, g3⟩ := h6 j y hy
    have hj := (List.getElem?_eq_some_iff.mp hy).1
    refine ⟨?_, ((Ext.new hf) y g2).1, g3⟩
    refine (sR_ne (σ := cpQ (sNew σ (14, 64 * a + M) q M) (64 * a + c) (64 * a + M) c) (f := 1) (i := a) (j := 0) (v := some (14, 64 * a + M)) (f' := 896) (i' := 64 * a + M) (j' := j) (fun z => absurd z.1 (by decide))).trans ?_
    refine (show (cpQ (sNew σ (14, 64 * a + M) q M) (64 * a + c) (64 * a + M) c).2.2.1 896 (64 * a + M) j = (sNew σ (14, 64 * a + M) q M).2.2.1 896 (64 * a + c) j from if_pos ⟨rfl, rfl, by omega⟩).trans ?_
    exact (clr_ne (t := (14, 64 * a + M)) (fun z => absurd z.2 (by show ¬ 64 * a + c = 64 * a + M; omega))).trans g1
  · have hne : t ≠ (14, 64 * a + M) := fun z => ht (Or.inr (by rw [z]; exact ⟨rfl, by show (64 * a + M) / 64 = a; omega⟩))
    have s1 : Sm σ (sNew σ (14, 64 * a + M) q M) t := Sm.rf.new hne
    have s2 : Sm (sNew σ (14, 64 * a + M) q M) (cpQ (sNew σ (14, 64 * a + M) q M) (64 * a + c) (64 * a + M) c) t := ⟨fun f j e => ⟨rfl, rfl, if_neg (fun z => hne (Prod.ext (by show t.1 = 14; omega) z.2.1))⟩, rfl, rfl, rfl⟩
    exact (s1.tr s2).sR (lq_0 ht (by decide))
theorem AL9.grow0 (h : AL9 σ a [] 0) (hf : hV σ (14, 64 * a + 10) = false) (q : Nat) : AL9 (sR (sNew σ (14, 64 * a + 10) q 10) 1 a 0 (some (14, 64 * a + 10))) a [] 10 ∧ ∀ t, ¬ LT9 a t → Sm σ (sR (sNew σ (14, 64 * a + 10) q 10) 1 a 0 (some (14, 64 * a + 10))) t := by
  obtain ⟨h0, h1, h2, h3, h4, h5, h6⟩ := h
  refine ⟨⟨((Ext.new hf) (0, a) h0).1, (clr_ne (f := hI σ) (v := 0) (t := (14, 64 * a + 10)) (x := 2) (y := a) (z := 0) (fun z => absurd (show (0 : Nat) = 14 from z.1) (by decide))).trans h1, fun z => absurd z (by decide), fun _ => ⟨up3_eq, up1_eq, if_pos ⟨rfl, rfl⟩⟩, by decide, by decide, fun j y hy => by cases hy⟩, fun t ht => ?_⟩
  have hne : t ≠ (14, 64 * a + 10) := fun z => ht (Or.inr (by rw [z]; exact ⟨rfl, by show (64 * a + 10) / 64 = a; omega⟩))
  exact (Sm.rf.new hne).sR (lq_0 ht (by decide))
end ALG
