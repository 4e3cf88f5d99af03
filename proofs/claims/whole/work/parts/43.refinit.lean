/-! the model's constructor -/
def S9 (k m : Nat) : SP := (fun f i j => if f = 704 ∧ i = 12 ∧ k ≤ j then 1 else if f = 704 ∧ (i = 25 ∨ i = 26) then 2 else 0, fun f i j => if f = 768 ∧ i = 412 ∧ j < m then none else some [])
theorem S9_N (k m : Nat) : zN (S9 k m) 704 12 k 0 = S9 (k + 1) m := by
  unfold zN S9
  refine Prod.ext ?_ rfl
  funext f i j
  show up3 _ _ _ _ _ _ _ _ = _
  by_cases e : f = 704 ∧ i = 12 ∧ j = k
  · obtain ⟨rfl, rfl, rfl⟩ := e
    rw [up3_eq]; dsimp only; rw [if_neg (by omega), if_neg (by omega)]
  · rw [up3_ne e]; dsimp only
    by_cases e2 : f = 704 ∧ i = 12 ∧ k ≤ j
    · rw [if_pos e2, if_pos ⟨e2.1, e2.2.1, by omega⟩]
    · rw [if_neg e2, if_neg (show ¬ (f = 704 ∧ i = 12 ∧ k + 1 ≤ j) by omega)]
theorem S9_R (k m : Nat) : zR (S9 k m) 768 412 m none = S9 k (m + 1) := by
  unfold zR S9
  refine Prod.ext rfl ?_
  funext f i j
  show up3 _ _ _ _ _ _ _ _ = _
  by_cases e : f = 768 ∧ i = 412 ∧ j = m
  · obtain ⟨rfl, rfl, rfl⟩ := e
    rw [up3_eq]; dsimp only; rw [if_pos ⟨rfl, rfl, Nat.lt_succ_self _⟩]
  · rw [up3_ne e]; dsimp only
    by_cases e2 : f = 768 ∧ i = 412 ∧ j < m
    · rw [if_pos e2, if_pos ⟨e2.1, e2.2.1, by omega⟩]
    · rw [if_neg e2, if_neg (show ¬ (f = 768 ∧ i = 412 ∧ j < m + 1) by omega)]
/-- the model's tags -/
def mtB (t : Tg) : Bool := decide (t.1 = 10) || (decide (t.1 = 11) && decide (10 ≤ t.2) && decide (t.2 < 100)) || (decide (t.1 = 12) && decide (400 ≤ t.2) && decide (t.2 < 500)) || decide (t.1 = 13)
/-- nothing has changed at a tag -/
def Sm (σ σ' : HS) (t : Tg) : Prop := (∀ f j, f / 64 = t.1 → hI σ' f t.2 j = hI σ f t.2 j ∧ hL σ' f t.2 j = hL σ f t.2 j ∧ hR σ' f t.2 j = hR σ f t.2 j) ∧ hN σ' t.1 t.2 = hN σ t.1 t.2 ∧ hV σ' t = hV σ t ∧ hG σ' t = hG σ t
theorem Sm.rf {σ : HS} {t : Tg} : Sm σ σ t := ⟨fun _ _ _ => ⟨rfl, rfl, rfl⟩, rfl, rfl, rfl⟩
theorem Sm.tr {a b c : HS} {t : Tg} (h : Sm a b t) (k : Sm b c t) : Sm a c t := ⟨fun f j e => ⟨(k.1 f j e).1.trans (h.1 f j e).1, (k.1 f j e).2.1.trans (h.1 f j e).2.1, (k.1 f j e).2.2.trans (h.1 f j e).2.2⟩, k.2.1.trans h.2.1, k.2.2.1.trans h.2.2.1, k.2.2.2.trans h.2.2.2⟩
theorem mtB_col {t : Tg} {f : Nat} (h : mtB t = false) (e : f / 64 = t.1) : mcol f t.2 = false := by
  unfold mtB at h
  unfold mcol
  simp only [Bool.or_eq_false_iff, Bool.and_eq_false_iff, decide_eq_false_iff_not] at h ⊢
  omega
theorem ME.sm {σ σ' : HS} (h : ME σ σ') {t : Tg} (ht : mtB t = false) : Sm σ σ' t := by
  refine ⟨fun f j e => ?_, ?_, ?_, ?_⟩
  · exact ⟨h.1 f t.2 j (mtB_col ht e), h.2.1 f t.2 j (mtB_col ht e), congrArg (fun z => z.1 f t.2 j) h.2.2⟩
  · exact congrArg (fun z => z.2.1 t.1 t.2) h.2.2
  · exact congrArg (fun z => z.2.2.1 t) h.2.2
  · exact congrArg (fun z => z.2.2.2.1 t) h.2.2
def IB (D : Nat → Bool) (a : Nat) (σ0 σ : HS) : Prop := At σ (10, 0) a ∧ (∀ s, s < 34 → fk 10 s = 2 → (D s = true → hR σ (640 + s) 0 0 = some (mtag s) ∧ hV σ (mtag s) = true ∧ hN σ (mtag s).1 (mtag s).2 = mlen s) ∧ (D s = false → hV σ (mtag s) = false)) ∧ (∀ f i j, mcol f i = true → hI σ f i j = 0 ∧ hL σ f i j = 0) ∧ (∀ t, mtB t = false → Sm σ0 σ t)
theorem mtag_ne : ∀ s, s < 34 → ∀ r, r < 34 → s ≠ r → mtag s ≠ mtag r := by decide +kernel
theorem mtag_k : ∀ s, s < 34 → ((mtag s).1 = 11 ∨ (mtag s).1 = 12 ∨ (mtag s).1 = 13) ∧ mtB (mtag s) = true := by decide +kernel
theorem clr0 {α : Type} {g : Nat → Nat → Nat → α} {t : Tg} {z : α} {f i j : Nat} (h : g f i j = z) : clr g t z f i j = z := by
  unfold clr
  split
  · rfl
  · exact h
theorem IB.step {D : Nat → Bool} {a : Nat} {σ0 σ : HS} (h : IB D a σ0 σ) {s : Nat} (hs : s < 34) (hk : fk 10 s = 2) (hD : D s = false) (q : Nat) : IB (fun r => if r = s then true else D r) a σ0 (sR (sNew σ (mtag s) q (mlen s)) (640 + s) 0 0 (some (mtag s))) := by
  obtain ⟨h1, h2, h3, h4⟩ := h
  have hv := (h2 s hs hk).2 hD
  obtain ⟨mk, mb⟩ := mtag_k s hs
  refine ⟨h1.ext (Ext.new hv), fun r hr hkr => ?_, fun f i j hc => ⟨clr0 (h3 f i j hc).1, clr0 (h3 f i j hc).2⟩, fun t ht => ?_⟩
  · by_cases e : r = s
    · subst e
      dsimp only
      rw [if_pos rfl]
      exact ⟨fun _ => ⟨up3_eq, up1_eq, if_pos ⟨rfl, rfl⟩⟩, fun z => by cases z⟩
    · dsimp only
      rw [if_neg e]
      have hne := mtag_ne r hr s hs e
      obtain ⟨g1, g2⟩ := h2 r hr hkr
      refine ⟨fun d => ?_, fun d => (up1_ne hne).trans (g2 d)⟩
      obtain ⟨k1, k2, k3⟩ := g1 d
      refine ⟨(up3_ne (fun z => e (by omega))).trans ((clr_ne (fun z => ?_)).trans k1), (up1_ne hne).trans k2, (if_neg (fun z => hne (Prod.ext z.1 z.2))).trans k3⟩
      have : (640 + r) / 64 = (mtag s).1 := z.1
      omega
  · have hne : t ≠ mtag s := fun z => by rw [z, mb] at ht; cases ht
    refine (h4 t ht).tr ⟨fun f j e => ?_, if_neg (fun z => hne (Prod.ext z.1 z.2)), up1_ne hne, up1_ne hne⟩
    have hc : ¬ (f / 64 = (mtag s).1 ∧ t.2 = (mtag s).2) := fun z => hne (Prod.ext (e.symm.trans z.1) z.2)
    refine ⟨clr_ne hc, clr_ne hc, (up3_ne (fun z => ?_)).trans (clr_ne hc)⟩
    have h10 : t.1 = 10 := by rw [← e, z.1]; omega
    unfold mtB at ht
    rw [h10] at ht
    simp at ht
def xof (a : Nat) (σ : HS) (s : Nat) : Nat := if s = 0 then a else hG σ (mtag s)
theorem IB.done {D : Nat → Bool} {a : Nat} {σ0 σ : HS} (h : IB D a σ0 σ) (hD : ∀ s, s < 34 → fk 10 s = 2 → D s = true) : RS (S9 0 0) (xof a σ) 0 σ := by
  obtain ⟨h1, h2, h3, h4⟩ := h
  refine ⟨⟨fun f i j hr => ?_, fun f i j hr => ?_⟩, ⟨h1, fun s hs hk => ?_⟩, (h3 640 0 0 (by decide)).1⟩
  · have hc : mcol f i = true := by
      unfold rci at hr
      unfold mcol
      simp only [Bool.or_eq_true, Bool.and_eq_true, decide_eq_true_eq] at hr ⊢
      omega
    rw [(h3 f i j hc).1]
    unfold S9 offs
    dsimp only
    by_cases e1 : f = 704 ∧ i = 12
    · rw [if_pos ⟨e1.1, e1.2, Nat.zero_le _⟩, if_pos e1]; rfl
    · rw [if_neg (fun z => e1 ⟨z.1, z.2.1⟩), if_neg e1]
      by_cases e2 : f = 704 ∧ (i = 25 ∨ i = 26)
      · rw [if_pos e2]; rfl
      · rw [if_neg e2]; rfl
  · have hc : mcol f i = true := by
      unfold rcl at hr
      unfold mcol
      simp only [Bool.or_eq_true, Bool.and_eq_true, decide_eq_true_eq] at hr ⊢
      omega
    rw [(h3 f i j hc).2]
    have e2 : (S9 0 0).2 f i j = some [] := if_neg (fun z => absurd z.2.2 (Nat.not_lt_zero j))
    have e1 : (S9 0 0).1 768 430 j = 0 := by
      unfold S9
      dsimp only
      rw [if_neg (by omega), if_neg (by omega)]
    unfold encS
    rw [e2]
    split
    · rw [e1]; rfl
    · split <;> rfl
  · obtain ⟨k1, k2, k3⟩ := (h2 s hs hk).1 (hD s hs hk)
    refine ⟨k1, ⟨k2, ?_⟩, k3⟩
    have : s ≠ 0 := fun z => by rw [z] at hk; exact absurd hk (by decide)
    unfold xof
    rw [if_neg this]
