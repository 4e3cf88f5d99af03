theorem Sm.sL {σ0 σ : HS} {t : Tg} (h : Sm σ0 σ t) {f i j : Nat} {v : Int64} (hne : ¬ (f / 64 = t.1 ∧ i = t.2)) : Sm σ0 (sL σ f i j v) t := h.tr ⟨fun f' j' e => ⟨rfl, up3_ne (fun z => hne ⟨by rw [← z.1]; exact e, z.2.1.symm⟩), rfl⟩, rfl, rfl, rfl⟩
theorem CR9.put {σ : HS} {r : Nat} {f : Nat → Option (List Nat)} (h : CR9 σ r f) {m c : Nat} (o : Option (List Nat)) (hm : m < 256) (hb : ∀ u, u < 8 → m.testBit u = if u = c then o.isSome else (f u).isSome) : CR9 (sI (sL σ 768 r c (enc5 (o.getD []))) 65 r 0 (nI m)) r (fun u => if u = c then o else f u) ∧ ∀ t, t ≠ (1, r) → t ≠ (12, r) → Sm σ (sI (sL σ 768 r c (enc5 (o.getD []))) 65 r 0 (nI m)) t := by
  obtain ⟨h1, h2, h3, h4, h5, -⟩ := h
  refine ⟨⟨h1, h2, h3, h4, fun u hu => ?_, m, hm, up3_eq, fun u hu => ?_⟩, fun t ht ht2 => ?_⟩
  · show up3 (hL σ) 768 r c _ 768 r u = _
    dsimp only
    by_cases e : u = c
    · rw [e, up3_eq, if_pos rfl]
    · rw [up3_ne (fun z => e z.2.2), if_neg e]; exact h5 u hu
  · rw [hb u hu]
    dsimp only
    split <;> rfl
  · exact (Sm.rf.sL (fun z => ht2 (Prod.ext (by show t.1 = 12; omega) z.2.symm))).sI (fun z => ht (Prod.ext (by show t.1 = 1; omega) z.2.symm))
