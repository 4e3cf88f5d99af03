/-! the spec's state changes where a part does not look -/
def EqN (p : Nat → Nat → Bool) (S S' : SP) : Prop := ∀ f i j, p f i = true → S'.1 f i j = S.1 f i j
def EqR (p : Nat → Nat → Bool) (S S' : SP) : Prop := ∀ f i j, p f i = true → S'.2 f i j = S.2 f i j
section EQS
variable {p : Nat → Nat → Bool} {S0 S S' : SP}
theorem EqN.rf : EqN p S S := fun _ _ _ _ => rfl
theorem EqR.rf : EqR p S S := fun _ _ _ _ => rfl
theorem EqN.tr (h : EqN p S0 S) (k : EqN p S S') : EqN p S0 S' := fun f i j q => (k f i j q).trans (h f i j q)
theorem EqR.tr (h : EqR p S0 S) (k : EqR p S S') : EqR p S0 S' := fun f i j q => (k f i j q).trans (h f i j q)
theorem EqN.zN (h : EqN p S0 S) {f i j v : Nat} (hp : p f i = false) : EqN p S0 (zN S f i j v) := fun f' i' j' q => (zN_ne (fun z => by rw [z.1, z.2.1, hp] at q; cases q)).trans (h f' i' j' q)
theorem EqN.zR (h : EqN p S0 S) {f i j : Nat} {v : Option (List Nat)} : EqN p S0 (zR S f i j v) := h
theorem EqR.zN (h : EqR p S0 S) {f i j v : Nat} : EqR p S0 (zN S f i j v) := h
theorem EqR.zR (h : EqR p S0 S) {f i j : Nat} {v : Option (List Nat)} (hp : p f i = false) : EqR p S0 (zR S f i j v) := fun f' i' j' q => (zR_ne (fun z => by rw [z.1, z.2.1, hp] at q; cases q)).trans (h f' i' j' q)
end EQS
def nPs (f i : Nat) : Bool := decide (f = 643) || decide (f = 646) || (decide (f = 704) && decide (i = 11)) || (decide (f = 704) && decide (i = 12)) || (decide (f = 704) && decide (i = 14)) || (decide (f = 704) && decide (i = 15))
def nPr (f i : Nat) : Bool := decide (f = 658) || decide (f = 659) || (decide (f = 704) && decide (i = 23)) || (decide (f = 704) && decide (i = 24)) || (decide (f = 704) && decide (i = 25)) || (decide (f = 704) && decide (i = 26)) || (decide (f = 704) && decide (i = 27))
def rEN (f i : Nat) : Bool := (decide (f = 768) && decide (i = 411))
def nLl (f i : Nat) : Bool := decide (f = 650) || (decide (f = 832) && decide (i = 9))
def rLl (f i : Nat) : Bool := (decide (f = 768) && decide (i = 408))
def nLx (f i : Nat) : Bool := decide (f = 650) || decide (f = 672) || (decide (f = 832) && decide (i = 9)) || (decide (f = 832) && decide (i = 27)) || (decide (f = 704) && decide (i = 38))
def rLx (f i : Nat) : Bool := (decide (f = 768) && decide (i = 412)) || (decide (f = 768) && decide (i = 431))
def nLw (f i : Nat) : Bool := decide (f = 666) || (decide (f = 704) && decide (i = 31)) || (decide (f = 704) && decide (i = 32)) || (decide (f = 704) && decide (i = 33)) || (decide (f = 832) && decide (i = 25))
def rLw (f i : Nat) : Bool := (decide (f = 768) && decide (i = 424))
def nLd (f i : Nat) : Bool := decide (f = 672) || (decide (f = 832) && decide (i = 27)) || (decide (f = 704) && decide (i = 38)) || (decide (f = 704) && decide (i = 39)) || (decide (f = 768) && decide (i = 430))
def rLd (f i : Nat) : Bool := (decide (f = 768) && decide (i = 431))
def rDr (f i : Nat) : Bool := decide (f = 647)
section CGS
variable {S S' : SP} {σ : HS}
theorem PHs.cg (h : PHs S σ) (e : EqN nPs S S') : PHs S' σ := by
  have g0 : nS S' = nS S := e 643 0 0 rfl
  have g1 : nC S' = nC S := e 646 0 0 rfl
  have g2 : ∀ j, fe S' j = fe S j := fun j => e 704 11 j rfl
  have g3 : ∀ j, wi S' j = wi S j := fun j => e 704 12 j rfl
  have g4 : ∀ j, ne S' j = ne S j := fun j => e 704 14 j rfl
  have g5 : ∀ j, ba S' j = ba S j := fun j => e 704 15 j rfl
  simp only [PHs, KD, kcod, isOf, g0, g1, g2, g3, g4, g5] at h ⊢
  exact h
theorem PHr.cg (h : PHr S σ) (e : EqN nPr S S') : PHr S' σ := by
  have g0 : on9 S' = on9 S := e 658 0 0 rfl
  have g1 : nR S' = nR S := e 659 0 0 rfl
  have g2 : ∀ j, ta S' j = ta S j := fun j => e 704 23 j rfl
  have g3 : ∀ j, tu S' j = tu S j := fun j => e 704 24 j rfl
  have g4 : ∀ j, le9 S' j = le9 S j := fun j => e 704 25 j rfl
  have g5 : ∀ j, ri9 S' j = ri9 S j := fun j => e 704 26 j rfl
  have g6 : ∀ j, orr S' j = orr S j := fun j => e 704 27 j rfl
  simp only [PHr, RD, g0, g1, g2, g3, g4, g5, g6] at h ⊢
  exact h
theorem ENc.cg (h : ENc S σ) (e2 : EqR rEN S S') : ENc S' σ := by
  have g0 : ∀ j, en S' j = en S j := fun j => congrArg (fun z => Option.getD z []) (e2 768 411 j rfl)
  simp only [ENc, g0] at h ⊢
  exact h
theorem LXl.cg (h : LXl S σ) (e : EqN nLl S S') (e2 : EqR rLl S S') : LXl S' σ := by
  have g0 : nL S' = nL S := e 650 0 0 rfl
  have g1 : ∀ j, th S' j = th S j := fun j => e 832 9 j rfl
  have g2 : ∀ j, fo S' j = fo S j := fun j => congrArg (fun z => Option.getD z []) (e2 768 408 j rfl)
  simp only [LXl, LD, g0, g1, g2] at h ⊢
  exact h
theorem LXx.cg (h : LXx S σ) (e : EqN nLx S S') (e2 : EqR rLx S S') : LXx S' σ := by
  have g0 : nL S' = nL S := e 650 0 0 rfl
  have g1 : nD S' = nD S := e 672 0 0 rfl
  have g2 : ∀ j, th S' j = th S j := fun j => e 832 9 j rfl
  have g3 : ∀ j, im S' j = im S j := fun j => e 832 27 j rfl
  have g4 : ∀ j, d1 S' j = d1 S j := fun j => e 704 38 j rfl
  have g5 : ∀ j, S'.2 768 412 j = S.2 768 412 j := fun j => e2 768 412 j rfl
  have g6 : ∀ j, S'.2 768 431 j = S.2 768 431 j := fun j => e2 768 431 j rfl
  simp only [LXx, XD, g0, g1, g2, g3, g4, g5, g6] at h ⊢
  exact h
theorem LXw.cg (h : LXw S σ) (e : EqN nLw S S') (e2 : EqR rLw S S') : LXw S' σ := by
  have g0 : nW S' = nW S := e 666 0 0 rfl
  have g1 : ∀ j, ol S' j = ol S j := fun j => e 704 31 j rfl
  have g2 : ∀ j, cw S' j = cw S j := fun j => e 704 32 j rfl
  have g3 : ∀ j, sw S' j = sw S j := fun j => e 704 33 j rfl
  have g4 : ∀ j, hd9 S' j = hd9 S j := fun j => e 832 25 j rfl
  have g5 : ∀ j, hr S' j = hr S j := fun j => congrArg (fun z => Option.getD z []) (e2 768 424 j rfl)
  simp only [LXw, WD, g0, g1, g2, g3, g4, g5] at h ⊢
  exact h
theorem LXd.cg (h : LXd S σ) (e : EqN nLd S S') (e2 : EqR rLd S S') : LXd S' σ := by
  have g0 : nD S' = nD S := e 672 0 0 rfl
  have g1 : ∀ j, im S' j = im S j := fun j => e 832 27 j rfl
  have g2 : ∀ j, d1 S' j = d1 S j := fun j => e 704 38 j rfl
  have g3 : ∀ j, d2 S' j = d2 S j := fun j => e 704 39 j rfl
  have g4 : ∀ j, mv S' j = mv S j := fun j => e 768 430 j rfl
  have g5 : ∀ j, S'.2 768 431 j = S.2 768 431 j := fun j => e2 768 431 j rfl
  simp only [LXd, DD, g0, g1, g2, g3, g4, g5] at h ⊢
  exact h
theorem DRc.cg (h : DRc S σ) (e2 : EqR rDr S S') : DRc S' σ := by
  have g0 : dr S' = dr S := congrArg (fun z => Option.getD z []) (e2 647 0 0 rfl)
  simp only [DRc, g0] at h ⊢
  exact h
end CGS
/-! all of it: nothing but other tags has changed -/
def tgK (t : Tg) : Prop := mtB t = false
theorem tgK_of {t : Tg} (h : mtB t = true → False) : tgK t := by
  unfold tgK
  cases e : mtB t with
  | false => rfl
  | true => exact (h e).elim
theorem mtB_iff {t : Tg} : mtB t = true ↔ (t.1 = 10 ∨ (t.1 = 11 ∧ 10 ≤ t.2 ∧ t.2 < 100) ∨ (t.1 = 12 ∧ 400 ≤ t.2 ∧ t.2 < 500) ∨ t.1 = 13) := by
  unfold mtB
  simp only [Bool.or_eq_true, Bool.and_eq_true, decide_eq_true_eq, or_assoc, and_assoc]
/-- the tags that the class's state is told of -/
def tgA (t : Tg) : Prop := tgP t ∨ tgC 100 t ∨ (t.1 = 5 ∧ t.2 = 0) ∨ tgX t ∨ tgW t ∨ tgD t ∨ (t.1 = 9 ∧ t.2 = 0)
theorem tgA_K {t : Tg} (h : tgA t) : mtB t = false := by
  cases e : mtB t with
  | false => rfl
  | true =>
    have k := mtB_iff.mp e
    simp only [tgA, tgP, tgC, tgX, tgW, tgD, tgL] at h
    omega
section CIF
variable {P : Tg → Prop} {S : SP} {σ σ' : HS}
theorem PH9.fr (h : PH9 S σ) (hw : WF S) (k : Fr P σ σ') (hn : ∀ t, tgP t → ¬ P t) : PH9 S σ' := by
  obtain ⟨h1, h2, h3⟩ := h
  have n6 : ∀ f, f / 64 = 6 → ¬ P (f / 64, 0) := fun f hf => hn _ (Or.inl ⟨hf, rfl⟩)
  refine ⟨h1.fr k (hn (3, 100) (Or.inr (Or.inr (Or.inl rfl)))) (hn (3, 101) (Or.inr (Or.inr (Or.inl rfl)))) (fun f hf => k.rR (n6 f hf)), h2.fr k (fun t z => hn t (by simp only [tgS, tgL, tgP] at z ⊢; omega)) (by have := hw.1.2.2.2.1; omega) (k.rI (n6 386 rfl)), h3.fr k (fun t z => hn t (by simp only [tgR, tgL, tgP] at z ⊢; omega)) (by have := hw.2.1.1; omega) (k.rI (n6 392 rfl))⟩
theorem LXx.fr (h : LXx S σ) (hw : WF S) (k : Fr P σ σ') (hn : ∀ t, (t.1 = 1 ∨ t.1 = 12) → t.2 < 100 → ¬ P t) : LXx S σ' := fun l q => (h l q).fr k (fun t z => hn t z.1 (by have := z.2; have := hw.2.2.1.1; omega))
theorem LX9.fr (h : LX9 S σ) (hw : WF S) (k : Fr P σ σ') (hn : ∀ t, (t.1 = 5 ∧ t.2 = 0) ∨ tgX t ∨ tgW t ∨ tgD t → ¬ P t) : LX9 S σ' := by
  obtain ⟨h1, h2, h3, h4, h5⟩ := h
  refine ⟨h1.fr k (hn _ (Or.inl ⟨rfl, rfl⟩)), h2.fr k (fun t z => hn t (Or.inr (Or.inl (Or.inr (Or.inl z))))) (fun l q => hn _ (Or.inr (Or.inl (Or.inl ⟨rfl, q⟩)))) (by have := hw.2.2.1.1; omega) (fun l _ q => ⟨hn _ (Or.inr (Or.inl (Or.inr (Or.inr ⟨Or.inl rfl, q⟩)))), hn _ (Or.inr (Or.inl (Or.inr (Or.inr ⟨Or.inr rfl, q⟩))))⟩), h3.fr hw k (fun t z q => hn t (Or.inr (Or.inl (Or.inr (Or.inr ⟨z, q⟩))))), h4.fr k (fun t z => hn t (Or.inr (Or.inr (Or.inl z)))) (by have := hw.2.2.2.1.1; omega), h5.fr k (fun t z => hn t (Or.inr (Or.inr (Or.inr z))))⟩
theorem CI.fr (h : CI S σ) (hw : WF S) (k : Fr P σ σ') (hn : ∀ t, tgA t → ¬ P t) : CI S σ' := by
  obtain ⟨h1, h2, h3, h4, h5⟩ := h
  have n9 : ∀ f, f / 64 = 9 → ¬ P (f / 64, 0) := fun f hf => hn (f / 64, 0) (Or.inr (Or.inr (Or.inr (Or.inr (Or.inr (Or.inr ⟨hf, rfl⟩))))))
  exact ⟨h1.fr hw k (fun t z => hn t (Or.inl z)), h2.fr k (fun t z => hn t (Or.inr (Or.inl z))), h3.fr hw k (fun t z => hn t (z.elim (fun z => Or.inr (Or.inr (Or.inl z))) (fun z => z.elim (fun z => Or.inr (Or.inr (Or.inr (Or.inl z)))) (fun z => z.elim (fun z => Or.inr (Or.inr (Or.inr (Or.inr (Or.inl z))))) (fun z => Or.inr (Or.inr (Or.inr (Or.inr (Or.inr (Or.inl z)))))))))), h4.fr k (fun f hf => k.rR (n9 f hf)), (k.rL (n9 579 rfl)).trans h5⟩
end CIF
/-! the lists' calls -/
theorem k_get (L9 : Launch) (w9 : Wd) {σ : HS} {a n : Nat} {f : Nat → Tg} (h : LS9 σ a n f) {p : Nat} (hp : p < n) {a0 : Nat} (ha0 : At σ (0, a) a0) : MJ L9 w9 yJx4a65c_get_915e3 cJx4a65c_get_915e3 2 (some (.object "java/lang/Object")) ({ frames := 2, cells := 0, slots := 0, locals := 43 } : Room) [.ref a0, .int (nI p)] σ (fun a9 σ' => a9 = some (.ref (hG σ (f p))) ∧ σ' = σ) := by
  obtain ⟨c, h, -⟩ := h
  exact MJ.at ha0 (c_Jx4a65c_get_915e3 L9 w9 h (lst_get hp))
theorem k_size (L9 : Launch) (w9 : Wd) {σ : HS} {a n : Nat} {f : Nat → Tg} (h : LS9 σ a n f) {a0 : Nat} (ha0 : At σ (0, a) a0) : MJ L9 w9 yJx4a65c_size_8abf5 cJx4a65c_size_8abf5 1 (some .int) ({ frames := 0, cells := 0, slots := 0, locals := 0 } : Room) [.ref a0] σ (fun a9 σ' => a9 = some (.int (nI n)) ∧ σ' = σ) := by
  obtain ⟨c, h, -⟩ := h
  have k := c_Jx4a65c_size_8abf5 L9 w9 h
  rw [lst_len] at k
  exact MJ.at ha0 k
theorem k_addS (L9 : Launch) (w9 : Wd) {σ : HS} {a n : Nat} {f : Nat → Tg} (h : LS9 σ a n f) (hn : n < 49) {b : Nat} {g : Nat → Tg} (hx : At σ (g n) b) (hk : (g n).1 < 11) (hg : ∀ p, p < n → f p = g p) {a0 : Nat} (ha0 : At σ (0, a) a0) : MJ L9 w9 yJx4a65c_add_9ea2d cJx4a65c_add_9ea2d 2 (some .boolean) ({ frames := 6, cells := 1, slots := 49, locals := 170 } : Room) [.ref a0, .ref b] σ (fun v σ' => v = some (.int (bI true)) ∧ LS9 σ' a (n + 1) g ∧ Fr (tgL a) σ σ') := by
  obtain ⟨c, h⟩ := h
  refine (k_add L9 w9 h (by rw [lst_len]; exact hn) hx hk ha0).imp ?_
  rintro v σ' ⟨rfl, ⟨c', h2⟩, h3⟩
  refine ⟨rfl, ⟨c', ?_⟩, h3⟩
  rw [lst_succ, ← lst_cong hg]
  exact h2
theorem k_remS (L9 : Launch) (w9 : Wd) {σ : HS} {a n : Nat} {f : Nat → Tg} (h : LS9 σ a (n + 1) f) {a0 : Nat} (ha0 : At σ (0, a) a0) : MJ L9 w9 yJx4a65c_remove_915e3 cJx4a65c_remove_915e3 4 (some (.object "java/lang/Object")) ({ frames := 2, cells := 0, slots := 0, locals := 43 } : Room) [.ref a0, .int (nI n)] σ (fun v σ' => v = some (.ref (hG σ (f n))) ∧ LS9 σ' a n f ∧ Fr (tgL a) σ σ') := by
  obtain ⟨c, h⟩ := h
  rw [lst_succ] at h
  have k := k_rem L9 w9 h ha0
  rw [lst_len] at k
  refine k.imp ?_
  rintro v σ' ⟨rfl, h2, h3⟩
  exact ⟨rfl, ⟨c, h2⟩, h3⟩
theorem k_setS (L9 : Launch) (w9 : Wd) {σ : HS} {a n : Nat} {f : Nat → Tg} (h : LS9 σ a n f) {i : Nat} (hi : i < n) {y : Tg} {b : Nat} (hy : At σ y b) (hyk : y.1 < 11) {a0 : Nat} (ha0 : At σ (0, a) a0) : MJ L9 w9 yJx4a65c_set_bcc79 cJx4a65c_set_bcc79 4 (some (.object "java/lang/Object")) ({ frames := 2, cells := 0, slots := 0, locals := 43 } : Room) [.ref a0, .int (nI i), .ref b] σ (fun v σ' => (∃ q, v = some (.ref q)) ∧ LS9 σ' a n (fun q => if q = i then y else f q) ∧ Fr (tgL a) σ σ') := by
  obtain ⟨c, h⟩ := h
  refine (k_set L9 w9 h (by rw [lst_len]; exact hi) hy hyk ha0).imp ?_
  rintro v σ' ⟨rfl, h2, h3⟩
  rw [lst_set] at h2
  exact ⟨⟨_, rfl⟩, ⟨c, h2⟩, h3⟩
