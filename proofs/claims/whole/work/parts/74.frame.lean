/-! rooms widen, posts weaken, receivers by their address; frames: nothing but the tags of P has changed, and nothing that lives has moved -/
theorem MJ.room {l : Launch} {w : Wd} {y : MethodName} {cc : ByteArray} {nL : Nat} {ret : Option FieldType} {rm rm' : Room} {av : List Value} {σ : HS} {post : Option Value → HS → Prop} (h : MJ l w y cc nL ret rm av σ post) (hr : rm.frames ≤ rm'.frames ∧ rm.cells ≤ rm'.cells ∧ rm.slots ≤ rm'.slots ∧ rm.locals ≤ rm'.locals) : MJ l w y cc nL ret rm' av σ post := by
  obtain ⟨r1, r2, r3, r4⟩ := hr
  intro p e ha hc hk s m args below hf happ hP _
  have happ' : (headSpec [Cond.code y cc nL ret] rm).appliesLoose y e.platform s = true := by
    rw [Spec.appliesLoose_iff hf] at happ ⊢
    obtain ⟨a1, a2, a3, a4, a5, a6, a7, a8⟩ := happ
    refine ⟨a1, a2, a3, a4, a5, a6, ?_, a8⟩
    have a7' : s.hasRoom e.platform rm' = true := a7
    show s.hasRoom e.platform rm = true
    simp only [State.hasRoom, Bool.and_eq_true, decide_eq_true_eq] at a7' ⊢
    obtain ⟨⟨⟨⟨b5, b1, b2, b3, b4, b6⟩, b7⟩, b8⟩, b9⟩ := a7'
    exact ⟨⟨⟨⟨by omega, by omega, by omega, by omega, by omega, b6⟩, by omega⟩, by omega⟩, b9⟩
  obtain ⟨n, o, g1, g2, g3, g4, L, ⟨f1, f2, f3⟩, f4⟩ := h p e ha hc hk s m args below hf happ' hP trivial
  exact ⟨n, o, g1, g2, g3, g4, L, ⟨f1, f2, f3.mono r2 r3⟩, f4⟩
theorem MJ.imp {l : Launch} {w : Wd} {y : MethodName} {cc : ByteArray} {nL : Nat} {ret : Option FieldType} {rm : Room} {av : List Value} {σ : HS} {post post' : Option Value → HS → Prop} (h : MJ l w y cc nL ret rm av σ post) (hp : ∀ v σ', post v σ' → post' v σ') : MJ l w y cc nL ret rm av σ post' := by
  intro p e ha hc hk s m args below hf happ hP ht
  obtain ⟨n, o, g1, g2, g3, ⟨v, σ', q1, q2, q3⟩, g5⟩ := h p e ha hc hk s m args below hf happ hP ht
  exact ⟨n, o, g1, g2, g3, ⟨v, σ', q1, hp v σ' q2, q3⟩, g5⟩
theorem MJ.at {l : Launch} {w : Wd} {y : MethodName} {cc : ByteArray} {nL : Nat} {ret : Option FieldType} {rm : Room} {As : List Value} {σ : HS} {post : Option Value → HS → Prop} {t : Tg} {a : Nat} (ha : At σ t a) (h : MJ l w y cc nL ret rm (.ref (hG σ t) :: As) σ post) : MJ l w y cc nL ret rm (.ref a :: As) σ post := by
  obtain ⟨-, rfl⟩ := ha
  exact h
def Fr (P : Tg → Prop) (σ σ' : HS) : Prop := (∀ t, hV σ t = true → hV σ' t = true ∧ hG σ' t = hG σ t ∧ hN σ' t.1 t.2 = hN σ t.1 t.2) ∧ ∀ t, ¬ P t → Sm σ σ' t
section FRS
variable {P Q : Tg → Prop} {σ0 σ σ' : HS}
theorem Fr.rf : Fr P σ σ := ⟨fun _ h => ⟨h, rfl, rfl⟩, fun _ _ => Sm.rf⟩
theorem Fr.tr (h : Fr P σ0 σ) (k : Fr P σ σ') : Fr P σ0 σ' := ⟨fun t ht => by
  obtain ⟨a1, a2, a3⟩ := h.1 t ht
  obtain ⟨b1, b2, b3⟩ := k.1 t a1
  exact ⟨b1, b2.trans a2, b3.trans a3⟩, fun t ht => (h.2 t ht).tr (k.2 t ht)⟩
theorem Fr.wide (h : Fr P σ σ') (w : ∀ t, P t → Q t) : Fr Q σ σ' := ⟨h.1, fun t ht => h.2 t (fun z => ht (w t z))⟩
theorem Fr.ext (h : Fr P σ σ') : Ext σ σ' := fun t ht => ⟨(h.1 t ht).1, (h.1 t ht).2.1⟩
theorem Fr.at (h : Fr P σ σ') {t : Tg} {a : Nat} (k : At σ t a) : At σ' t a := k.ext h.ext
theorem Fr.live (h : Fr P σ σ') {t : Tg} (k : hV σ t = true) : hV σ' t = true := (h.1 t k).1
theorem Fr.len (h : Fr P σ σ') {t : Tg} (k : hV σ t = true) : hN σ' t.1 t.2 = hN σ t.1 t.2 := (h.1 t k).2.2
theorem Fr.sI (h : Fr P σ0 σ) {f i j : Nat} {v : Int32} (hp : P (f / 64, i)) : Fr P σ0 (sI σ f i j v) := ⟨h.1, fun t ht => (h.2 t ht).sI (fun z => ht (by rw [show t = (f / 64, i) from Prod.ext z.1.symm z.2.symm]; exact hp))⟩
theorem Fr.sL (h : Fr P σ0 σ) {f i j : Nat} {v : Int64} (hp : P (f / 64, i)) : Fr P σ0 (sL σ f i j v) := ⟨h.1, fun t ht => (h.2 t ht).sL (fun z => ht (by rw [show t = (f / 64, i) from Prod.ext z.1.symm z.2.symm]; exact hp))⟩
theorem Fr.sR (h : Fr P σ0 σ) {f i j : Nat} {v : Option Tg} (hp : P (f / 64, i)) : Fr P σ0 (sR σ f i j v) := ⟨h.1, fun t ht => (h.2 t ht).sR (fun z => ht (by rw [show t = (f / 64, i) from Prod.ext z.1.symm z.2.symm]; exact hp))⟩
theorem Fr.new (h : Fr P σ0 σ) {t : Tg} {q n : Nat} (hv : hV σ t = false) (hp : P t) : Fr P σ0 (sNew σ t q n) := ⟨fun t' ht => by
  obtain ⟨a1, a2, a3⟩ := h.1 t' ht
  have ne : t' ≠ t := fun z => by rw [z, hv] at a1; cases a1
  exact ⟨(up1_ne ne).trans a1, (up1_ne ne).trans a2, (if_neg (fun z => ne (Prod.ext z.1 z.2))).trans a3⟩, fun t' ht => (h.2 t' ht).new (fun z => ht (z ▸ hp))⟩
theorem Fr.cp (h : Fr P σ0 σ) {i j n : Nat} (hp : P (14, j)) : Fr P σ0 (cpQ σ i j n) := ⟨h.1, fun t ht => (h.2 t ht).tr ⟨fun f u e => ⟨rfl, rfl, if_neg (fun z => ht (by rw [show t = (14, j) from Prod.ext (by show t.1 = 14; omega) z.2.1]; exact hp))⟩, rfl, rfl, rfl⟩⟩
theorem Fr.rI (h : Fr P σ σ') {f i j : Nat} (hn : ¬ P (f / 64, i)) : hI σ' f i j = hI σ f i j := ((h.2 (f / 64, i) hn).1 f j rfl).1
theorem Fr.rL (h : Fr P σ σ') {f i j : Nat} (hn : ¬ P (f / 64, i)) : hL σ' f i j = hL σ f i j := ((h.2 (f / 64, i) hn).1 f j rfl).2.1
theorem Fr.rR (h : Fr P σ σ') {f i j : Nat} (hn : ¬ P (f / 64, i)) : hR σ' f i j = hR σ f i j := ((h.2 (f / 64, i) hn).1 f j rfl).2.2
theorem Fr.rV (h : Fr P σ σ') {t : Tg} (hn : ¬ P t) : hV σ' t = hV σ t := (h.2 t hn).2.2.1
end FRS
/-- a row of cells' tags -/
def tgC (r : Nat) (t : Tg) : Prop := (t.1 = 1 ∨ t.1 = 12) ∧ t.2 = r
/-- a list's tags -/
def tgL (a : Nat) (t : Tg) : Prop := (t.1 = 0 ∧ t.2 = a) ∨ (t.1 = 14 ∧ t.2 / 64 = a)
theorem tgL_of {a : Nat} {t : Tg} (h : LT9 a t) : tgL a t := h.elim (fun z => Or.inl (by rw [z]; exact ⟨rfl, rfl⟩)) Or.inr
section FRC
variable {P : Tg → Prop} {σ σ' : HS}
theorem CR9.fr {r : Nat} {f : Nat → Option (List Nat)} (h : CR9 σ r f) (k : Fr P σ σ') (hn : ∀ t, tgC r t → ¬ P t) : CR9 σ' r f := by
  obtain ⟨h1, h2, h3, h4, h5, m, m1, m2, m3⟩ := h
  have n1 : ¬ P (64 / 64, r) := hn _ ⟨Or.inl rfl, rfl⟩
  have n2 : ¬ P (768 / 64, r) := hn _ ⟨Or.inr rfl, rfl⟩
  exact ⟨k.live h1, (k.rR (f := 64) n1).trans h2, k.live h3, (k.len h3).trans h4, fun c hc => (k.rL (f := 768) n2).trans (h5 c hc), m, m1, (k.rI (f := 65) n1).trans m2, m3⟩
theorem CR9.cong {r : Nat} {f g : Nat → Option (List Nat)} (h : CR9 σ r f) (e : ∀ c, c < 8 → f c = g c) : CR9 σ r g := by
  obtain ⟨h1, h2, h3, h4, h5, m, m1, m2, m3⟩ := h
  exact ⟨h1, h2, h3, h4, fun c hc => by rw [← e c hc]; exact h5 c hc, m, m1, m2, fun c hc => by rw [← e c hc]; exact m3 c hc⟩
theorem AL9.fr {a c : Nat} {xs : List Tg} (h : AL9 σ a xs c) (k : Fr P σ σ') (hn : ∀ t, tgL a t → ¬ P t) : AL9 σ' a xs c := by
  obtain ⟨h0, h1, h2, h3, h4, h5, h6⟩ := h
  have n0 : ∀ f, f < 64 → ¬ P (f / 64, a) := fun f hf => hn _ (Or.inl ⟨by show f / 64 = 0; omega, rfl⟩)
  have n1 : ¬ P (896 / 64, 64 * a + c) := hn _ (Or.inr ⟨rfl, by show (64 * a + c) / 64 = a; omega⟩)
  refine ⟨k.live h0, (k.rI (n0 2 (by decide))).trans h1, fun z => (k.rR (n0 1 (by decide))).trans (h2 z), fun z => ?_, h4, h5, fun j x hx => ?_⟩
  · obtain ⟨k1, k2, k3⟩ := h3 z
    exact ⟨(k.rR (n0 1 (by decide))).trans k1, k.live k2, (k.len k2).trans k3⟩
  · obtain ⟨g1, g2, g3⟩ := h6 j x hx
    exact ⟨(k.rR (f := 896) n1).trans g1, k.live g2, g3⟩
end FRC
/-- a list with room to grow: its later rows are not there yet -/
def LI (σ : HS) (a c : Nat) (xs : List Tg) : Prop := AL9 σ a xs c ∧ (c = 0 ∨ c = 10 ∨ c = 15 ∨ c = 22 ∨ c = 33 ∨ c = 49) ∧ ∀ c', c < c' → c' < 64 → hV σ (14, 64 * a + c') = false
theorem LI.fr {P : Tg → Prop} {σ σ' : HS} {a c : Nat} {xs : List Tg} (h : LI σ a c xs) (k : Fr P σ σ') (hn : ∀ t, tgL a t → ¬ P t) : LI σ' a c xs :=
  ⟨h.1.fr k hn, h.2.1, fun c' h1 h2 => (k.rV (hn _ (Or.inr ⟨rfl, by show (64 * a + c') / 64 = a; omega⟩))).trans (h.2.2 c' h1 h2)⟩
def rmAdd : Room := { frames := 6, cells := 1, slots := 49, locals := 170 }
/-- the rows of a list that is full -/
theorem AL9.full {σ : HS} {a c : Nat} {xs : List Tg} (h : AL9 σ a xs c) (e : xs.length = c) : ∀ u, u < c → ∀ t, hR σ 896 (64 * a + c) u = some t → hV σ t = true ∧ t.1 < 11 := by
  intro u hu t ht
  have hx : xs[u]? = some xs[u] := List.getElem?_eq_getElem (by omega)
  obtain ⟨g1, g2, g3⟩ := h.2.2.2.2.2.2 u _ hx
  rw [g1] at ht
  cases ht
  exact ⟨g2, g3⟩
theorem new_V {σ : HS} {t t' : Tg} {q n : Nat} (h : t' ≠ t) : hV (sNew σ t q n) t' = hV σ t' := up1_ne h
theorem new_I {σ : HS} {t : Tg} {q n f j : Nat} (h : f / 64 = t.1) : hI (sNew σ t q n) f t.2 j = 0 := clr_eq h rfl
theorem new_L {σ : HS} {t : Tg} {q n f j : Nat} (h : f / 64 = t.1) : hL (sNew σ t q n) f t.2 j = 0 := clr_eq h rfl
theorem new_Ine {σ : HS} {t : Tg} {q n f i j : Nat} (h : ¬ (f / 64 = t.1 ∧ i = t.2)) : hI (sNew σ t q n) f i j = hI σ f i j := clr_ne h
theorem new_Lne {σ : HS} {t : Tg} {q n f i j : Nat} (h : ¬ (f / 64 = t.1 ∧ i = t.2)) : hL (sNew σ t q n) f i j = hL σ f i j := clr_ne h
theorem new_Rne {σ : HS} {t : Tg} {q n f i j : Nat} (h : ¬ (f / 64 = t.1 ∧ i = t.2)) : hR (sNew σ t q n) f i j = hR σ f i j := clr_ne h
theorem bI_fits (b : Bool) : fits .boolean (.int (bI b)) = true := by cases b <;> rfl
