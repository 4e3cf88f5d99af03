theorem k_add (L9 : Launch) (w9 : Wd) {σ : HS} {a c : Nat} {xs : List Tg} (h : LI σ a c xs) (hn : xs.length < 49) {x : Tg} {b : Nat} (hx : At σ x b) (hk : x.1 < 11) {a0 : Nat} (ha0 : At σ (0, a) a0) : MJ L9 w9 yJx4a65c_add_9ea2d cJx4a65c_add_9ea2d 2 (some .boolean) rmAdd [.ref a0, .ref b] σ (fun v σ' => v = some (.int (bI true)) ∧ (∃ c', LI σ' a c' (xs ++ [x])) ∧ Fr (tgL a) σ σ') := by
  obtain ⟨-, rfl⟩ := ha0
  obtain ⟨h1, hc, hf⟩ := h
  have p0 : ∀ f, f < 64 → tgL a (f / 64, a) := fun f hf => Or.inl ⟨by show f / 64 = 0; omega, rfl⟩
  have p1 : ∀ c', c' < 64 → tgL a (896 / 64, 64 * a + c') := fun c' hc' => Or.inr ⟨rfl, by show (64 * a + c') / 64 = a; omega⟩
  have c64 := h1.2.2.2.2.2.1
  by_cases hr : xs.length < c
  · refine ((c_add2 L9 w9 h1 hr hx hk).room (by decide)).imp ?_
    rintro v σ' ⟨rfl, rfl⟩
    exact ⟨rfl, ⟨c, (h1.app hr hx.1 hk (hI σ 0 a 0 + nI 1)).1, hc, fun c' q1 q2 => hf c' q1 q2⟩, ((Fr.rf.sI (p0 0 (by decide))).sR (p1 c c64)).sI (p0 2 (by decide))⟩
  · have e : xs.length = c := Nat.le_antisymm h1.2.2.2.2.1 (Nat.not_lt.mp hr)
    have E := h1.full e
    have hsz : hI σ 2 a 0 = nI c := by rw [← e]; exact h1.2.1
    rcases hc with rfl | rfl | rfl | rfl | rfl | rfl
    · refine ((c_add2_0 L9 w9 h1.1 hsz (h1.2.2.1 rfl) (hf 10 (by decide) (by decide)) hx hk).room (by decide)).imp ?_
      rintro v σ' ⟨rfl, q, rfl⟩
      have hj : hV (sI σ 0 a 0 (hI σ 0 a 0 + nI 1)) (14, 64 * a + 10) = false := hf 10 (by decide) (by decide)
      obtain rfl : xs = [] := List.length_eq_zero_iff.mp e
      have g := ((h1.mod (hI σ 0 a 0 + nI 1)).grow0 hj q).1
      have hx2 : hV (sR (sNew (sI σ 0 a 0 (hI σ 0 a 0 + nI 1)) (14, 64 * a + 10) q 10) 1 a 0 (some (14, 64 * a + 10))) x = true := ((Ext.new (q := q) (n := 10) hj) x hx.1).1
      have k := (g.app2 (by rw [e]; decide) hx2 hk).1
      exact ⟨rfl, ⟨10, k, by decide, fun c' q1 q2 => (up1_ne (fun z => absurd (congrArg Prod.snd z) (by show ¬ 64 * a + c' = 64 * a + 10; omega))).trans (hf c' (by omega) q2)⟩, ((((Fr.rf.sI (p0 0 (by decide))).new hj (p1 10 (by decide))).sR (p0 1 (by decide))).sR (p1 10 (by decide))).sI (p0 2 (by decide))⟩
    · refine ((c_add2_10 L9 w9 h1.1 hsz (h1.2.2.2.1 (by decide)).1 (h1.2.2.2.1 (by decide)).2.1 (h1.2.2.2.1 (by decide)).2.2 (hf 15 (by decide) (by decide)) E hx hk).room (by decide)).imp ?_
      rintro v σ' ⟨rfl, q, rfl⟩
      have hj : hV (sI σ 0 a 0 (hI σ 0 a 0 + nI 1)) (14, 64 * a + 15) = false := hf 15 (by decide) (by decide)
      have g := ((h1.mod (hI σ 0 a 0 + nI 1)).grow (by decide) (M := 15) (by decide) (by decide) hj q).1
      have hx2 : hV (sR (cpQ (sNew (sI σ 0 a 0 (hI σ 0 a 0 + nI 1)) (14, 64 * a + 15) q 15) (64 * a + 10) (64 * a + 15) 10) 1 a 0 (some (14, 64 * a + 15))) x = true := ((Ext.new (q := q) (n := 15) hj) x hx.1).1
      have k := (g.app2 (by rw [e]; decide) hx2 hk).1
      rw [e] at k
      exact ⟨rfl, ⟨15, k, by decide, fun c' q1 q2 => (up1_ne (fun z => absurd (congrArg Prod.snd z) (by show ¬ 64 * a + c' = 64 * a + 15; omega))).trans (hf c' (by omega) q2)⟩, (((((Fr.rf.sI (p0 0 (by decide))).new hj (p1 15 (by decide))).cp (p1 15 (by decide))).sR (p0 1 (by decide))).sR (p1 15 (by decide))).sI (p0 2 (by decide))⟩
    · refine ((c_add2_15 L9 w9 h1.1 hsz (h1.2.2.2.1 (by decide)).1 (h1.2.2.2.1 (by decide)).2.1 (h1.2.2.2.1 (by decide)).2.2 (hf 22 (by decide) (by decide)) E hx hk).room (by decide)).imp ?_
      rintro v σ' ⟨rfl, q, rfl⟩
      have hj : hV (sI σ 0 a 0 (hI σ 0 a 0 + nI 1)) (14, 64 * a + 22) = false := hf 22 (by decide) (by decide)
      have g := ((h1.mod (hI σ 0 a 0 + nI 1)).grow (by decide) (M := 22) (by decide) (by decide) hj q).1
      have hx2 : hV (sR (cpQ (sNew (sI σ 0 a 0 (hI σ 0 a 0 + nI 1)) (14, 64 * a + 22) q 22) (64 * a + 15) (64 * a + 22) 15) 1 a 0 (some (14, 64 * a + 22))) x = true := ((Ext.new (q := q) (n := 22) hj) x hx.1).1
      have k := (g.app2 (by rw [e]; decide) hx2 hk).1
      rw [e] at k
      exact ⟨rfl, ⟨22, k, by decide, fun c' q1 q2 => (up1_ne (fun z => absurd (congrArg Prod.snd z) (by show ¬ 64 * a + c' = 64 * a + 22; omega))).trans (hf c' (by omega) q2)⟩, (((((Fr.rf.sI (p0 0 (by decide))).new hj (p1 22 (by decide))).cp (p1 22 (by decide))).sR (p0 1 (by decide))).sR (p1 22 (by decide))).sI (p0 2 (by decide))⟩
    · refine ((c_add2_22 L9 w9 h1.1 hsz (h1.2.2.2.1 (by decide)).1 (h1.2.2.2.1 (by decide)).2.1 (h1.2.2.2.1 (by decide)).2.2 (hf 33 (by decide) (by decide)) E hx hk).room (by decide)).imp ?_
      rintro v σ' ⟨rfl, q, rfl⟩
      have hj : hV (sI σ 0 a 0 (hI σ 0 a 0 + nI 1)) (14, 64 * a + 33) = false := hf 33 (by decide) (by decide)
      have g := ((h1.mod (hI σ 0 a 0 + nI 1)).grow (by decide) (M := 33) (by decide) (by decide) hj q).1
      have hx2 : hV (sR (cpQ (sNew (sI σ 0 a 0 (hI σ 0 a 0 + nI 1)) (14, 64 * a + 33) q 33) (64 * a + 22) (64 * a + 33) 22) 1 a 0 (some (14, 64 * a + 33))) x = true := ((Ext.new (q := q) (n := 33) hj) x hx.1).1
      have k := (g.app2 (by rw [e]; decide) hx2 hk).1
      rw [e] at k
      exact ⟨rfl, ⟨33, k, by decide, fun c' q1 q2 => (up1_ne (fun z => absurd (congrArg Prod.snd z) (by show ¬ 64 * a + c' = 64 * a + 33; omega))).trans (hf c' (by omega) q2)⟩, (((((Fr.rf.sI (p0 0 (by decide))).new hj (p1 33 (by decide))).cp (p1 33 (by decide))).sR (p0 1 (by decide))).sR (p1 33 (by decide))).sI (p0 2 (by decide))⟩
    · refine ((c_add2_33 L9 w9 h1.1 hsz (h1.2.2.2.1 (by decide)).1 (h1.2.2.2.1 (by decide)).2.1 (h1.2.2.2.1 (by decide)).2.2 (hf 49 (by decide) (by decide)) E hx hk).room (by decide)).imp ?_
      rintro v σ' ⟨rfl, q, rfl⟩
      have hj : hV (sI σ 0 a 0 (hI σ 0 a 0 + nI 1)) (14, 64 * a + 49) = false := hf 49 (by decide) (by decide)
      have g := ((h1.mod (hI σ 0 a 0 + nI 1)).grow (by decide) (M := 49) (by decide) (by decide) hj q).1
      have hx2 : hV (sR (cpQ (sNew (sI σ 0 a 0 (hI σ 0 a 0 + nI 1)) (14, 64 * a + 49) q 49) (64 * a + 33) (64 * a + 49) 33) 1 a 0 (some (14, 64 * a + 49))) x = true := ((Ext.new (q := q) (n := 49) hj) x hx.1).1
      have k := (g.app2 (by rw [e]; decide) hx2 hk).1
      rw [e] at k
      exact ⟨rfl, ⟨49, k, by decide, fun c' q1 q2 => (up1_ne (fun z => absurd (congrArg Prod.snd z) (by show ¬ 64 * a + c' = 64 * a + 49; omega))).trans (hf c' (by omega) q2)⟩, (((((Fr.rf.sI (p0 0 (by decide))).new hj (p1 49 (by decide))).cp (p1 49 (by decide))).sR (p0 1 (by decide))).sR (p1 49 (by decide))).sI (p0 2 (by decide))⟩
    · exact absurd hn (by omega)
theorem k_rem (L9 : Launch) (w9 : Wd) {σ : HS} {a c : Nat} {xs : List Tg} {x : Tg} (h : LI σ a c (xs ++ [x])) {a0 : Nat} (ha0 : At σ (0, a) a0) : MJ L9 w9 yJx4a65c_remove_915e3 cJx4a65c_remove_915e3 4 (some (.object "java/lang/Object")) ({ frames := 2, cells := 0, slots := 0, locals := 43 } : Room) [.ref a0, .int (nI xs.length)] σ (fun v σ' => v = some (.ref (hG σ x)) ∧ LI σ' a c xs ∧ Fr (tgL a) σ σ') := by
  obtain ⟨-, rfl⟩ := ha0
  obtain ⟨h1, hc, hf⟩ := h
  have c64 := h1.2.2.2.2.2.1
  have p0 : ∀ f, f < 64 → tgL a (f / 64, a) := fun f hf => Or.inl ⟨by show f / 64 = 0; omega, rfl⟩
  have hx : (xs ++ [x])[xs.length]? = some x := by rw [List.getElem?_append_right (Nat.le_refl _), Nat.sub_self]; rfl
  refine (c_Jx4a65c_remove_915e3 L9 w9 h1 hx (by rw [List.length_append]; rfl)).imp ?_
  rintro v σ' ⟨rfl, rfl⟩
  exact ⟨rfl, ⟨(h1.pop (hI σ 0 a 0 + nI 1)).1, hc, fun c' q1 q2 => hf c' q1 q2⟩, ((Fr.rf.sI (p0 0 (by decide))).sI (p0 2 (by decide))).sR (Or.inr ⟨rfl, by show (64 * a + c) / 64 = a; omega⟩)⟩
theorem k_set (L9 : Launch) (w9 : Wd) {σ : HS} {a c : Nat} {xs : List Tg} (h : LI σ a c xs) {i : Nat} (hi : i < xs.length) {y : Tg} {b : Nat} (hy : At σ y b) (hyk : y.1 < 11) {a0 : Nat} (ha0 : At σ (0, a) a0) : MJ L9 w9 yJx4a65c_set_bcc79 cJx4a65c_set_bcc79 4 (some (.object "java/lang/Object")) ({ frames := 2, cells := 0, slots := 0, locals := 43 } : Room) [.ref a0, .int (nI i), .ref b] σ (fun v σ' => v = some (.ref (hG σ xs[i])) ∧ LI σ' a c (xs.set i y) ∧ Fr (tgL a) σ σ') := by
  obtain ⟨-, rfl⟩ := ha0
  obtain ⟨h1, hc, hf⟩ := h
  have c64 := h1.2.2.2.2.2.1
  refine (c_Jx4a65c_set_bcc79 L9 w9 h1 (List.getElem?_eq_getElem hi) hy hyk).imp ?_
  rintro v σ' ⟨rfl, rfl⟩
  exact ⟨rfl, ⟨(h1.put hi hy.1 hyk).1, hc, fun c' q1 q2 => hf c' q1 q2⟩, Fr.rf.sR (Or.inr ⟨rfl, by show (64 * a + c) / 64 = a; omega⟩)⟩
theorem k_listI (L9 : Launch) (w9 : Wd) {σ : HS} {a : Nat} {a0 : Nat} (ha0 : At σ (0, a) a0) (hz : hI σ 2 a 0 = nI 0) (hf : ∀ c', c' < 64 → hV σ (14, 64 * a + c') = false) : MJ L9 w9 yJx4a65c_init_da8c8 cJx4a65c_init_da8c8 1 none ({ frames := 3, cells := 0, slots := 0, locals := 52 } : Room) [.ref a0] σ (fun v σ' => v = none ∧ LI σ' a 0 [] ∧ Fr (fun t => t.1 = 0 ∧ t.2 = a) σ σ') := by
  obtain ⟨h0, rfl⟩ := ha0
  refine (c_Jx4a65c_init_da8c8 L9 w9 h0).imp ?_
  rintro v σ' ⟨rfl, rfl⟩
  exact ⟨rfl, ⟨(AL9.made h0 hz).1, Or.inl rfl, fun c' _ q2 => hf c' q2⟩, (Fr.rf.sI ⟨rfl, rfl⟩).sR ⟨rfl, rfl⟩⟩

