/-! the class's state: what its columns hold of the spec's state -/
def lst (n : Nat) (f : Nat → Tg) : List Tg := (List.range n).map f
theorem lst_len {n : Nat} {f : Nat → Tg} : (lst n f).length = n := by unfold lst; rw [List.length_map, List.length_range]
theorem lst_get {n p : Nat} {f : Nat → Tg} (h : p < n) : (lst n f)[p]? = some (f p) := by unfold lst; rw [List.getElem?_map, List.getElem?_range h]; rfl
theorem lst_succ {n : Nat} {f : Nat → Tg} : lst (n + 1) f = lst n f ++ [f n] := by unfold lst; rw [List.range_succ, List.map_append]; rfl
theorem lst_cong {n : Nat} {f g : Nat → Tg} (h : ∀ p, p < n → f p = g p) : lst n f = lst n g := List.map_congr_left (fun p hp => h p (List.mem_range.mp hp))
theorem lst_set {n p : Nat} {f : Nat → Tg} {y : Tg} : (lst n f).set p y = lst n (fun q => if q = p then y else f q) := by
  apply List.ext_getElem?
  intro i
  rw [List.getElem?_set, lst_len]
  by_cases hi : i < n
  · rw [lst_get hi]
    by_cases e : p = i
    · subst e
      rw [if_pos rfl, if_pos hi, lst_get hi, if_pos rfl]
    · rw [if_neg e, lst_get hi, if_neg (fun z => e z.symm)]
  · have e1 : (lst n (fun q => if q = p then y else f q))[i]? = none := List.getElem?_eq_none (by rw [lst_len]; omega)
    have e2 : (lst n f)[i]? = none := List.getElem?_eq_none (by rw [lst_len]; omega)
    rw [e1, e2]
    by_cases e : p = i
    · rw [if_pos e, if_neg (by omega)]
    · rw [if_neg e]
/-- a list of n objects, of some capacity -/
def LS9 (σ : HS) (a n : Nat) (f : Nat → Tg) : Prop := ∃ c, LI σ a c (lst n f)
/-- a class's codes: bit i + 1 for its sound i -/
def kcod (S : SP) (c j : Nat) : Bool := decide (1 ≤ j ∧ j ≤ nS S) && isOf S (j - 1) c
/-- the class that stands for a side: 0 EDGE, 1 ANY -/
def sideT (n : Nat) : Tg := if n = 0 then (3, 101) else if n = 1 then (3, 100) else (3, n - 2)
def PHf (σ : HS) : Prop := hV σ (6, 0) = true ∧ (hR σ 384 0 0 = some (11, 0) ∧ hV σ (11, 0) = true ∧ hN σ 11 0 = 32) ∧ (hR σ 385 0 0 = some (11, 1) ∧ hV σ (11, 1) = true ∧ hN σ 11 1 = 64) ∧ hR σ 387 0 0 = some (0, 0) ∧ (hR σ 388 0 0 = some (3, 100) ∧ hV σ (3, 100) = true ∧ hI σ 194 100 0 = -1) ∧ (hR σ 389 0 0 = some (3, 101) ∧ hV σ (3, 101) = true ∧ hI σ 194 101 0 = nI 1) ∧ hR σ 390 0 0 = some (0, 1) ∧ hR σ 391 0 0 = some (0, 2) ∧ (hR σ 393 0 0 = some (12, 101) ∧ hV σ (12, 101) = true ∧ hN σ 12 101 = 64)
/-- a class of sounds -/
def KD (S : SP) (σ : HS) (c : Nat) : Prop := hI σ 192 c 0 = nI (ne S c) ∧ hI σ 193 c 0 = nI (ba S c) ∧ ∃ m, m < 2 ^ 17 ∧ hI σ 194 c 0 = nI m ∧ ∀ j, m.testBit j = kcod S c j
def PHs (S : SP) (σ : HS) : Prop := hI σ 386 0 0 = nI (nS S) ∧ (∀ i, i < nS S → hI σ 704 0 (i + 1) = nI (fe S i)) ∧ (∀ f, f < 64 → hI σ 704 1 f = nI (wi S f)) ∧ LS9 σ 0 (nC S) (fun c => (3, c)) ∧ (∀ c, c < nC S → KD S σ c) ∧ (∀ c, nC S ≤ c → c < 100 → hV σ (3, c) = false)
/-- a rule -/
def RD (S : SP) (σ : HS) (r : Nat) : Prop := hI σ 448 r 0 = nI r ∧ hR σ 449 r 0 = some (3, ta S r) ∧ hI σ 450 r 0 = nI (tu S r) ∧ hR σ 451 r 0 = some (sideT (le9 S r)) ∧ hR σ 452 r 0 = some (sideT (ri9 S r))
def PHr (S : SP) (σ : HS) : Prop := hI σ 392 0 0 = nI (on9 S) ∧ LS9 σ 1 (nR S) (fun r => (7, r)) ∧ LS9 σ 2 (nR S) (fun p => (7, orr S p)) ∧ (∀ r, r < nR S → RD S σ r) ∧ (∀ r, nR S ≤ r → r < 100 → hV σ (7, r) = false)
def ENc (S : SP) (σ : HS) : Prop := ∃ f, CR9 σ 100 f ∧ ∀ c, c < 8 → (f c).getD [] = en S c
def LXf (σ : HS) : Prop := hV σ (5, 0) = true ∧ hR σ 320 0 0 = some (0, 3) ∧ hR σ 321 0 0 = some (0, 4) ∧ hR σ 322 0 0 = some (0, 5)
/-- a lexeme, a word -/
def LD (S : SP) (σ : HS) (l : Nat) : Prop := hI σ 256 l 0 = nI l ∧ hL σ 257 l 0 = enc5 (fo S l) ∧ hI σ 258 l 0 = bI (decide (th S l ≠ 1)) ∧ hR σ 259 l 0 = some (1, l)
def LXl (S : SP) (σ : HS) : Prop := LS9 σ 3 (nL S) (fun l => (4, l)) ∧ (∀ l, l < nL S → LD S σ l) ∧ (∀ l, nL S ≤ l → l < 100 → hV σ (4, l) = false ∧ hV σ (1, l) = false ∧ hV σ (12, l) = false)
def XD (S : SP) (σ : HS) (l : Nat) : Prop := ∃ f, CR9 σ l f ∧ (th S l = 1 → ∀ c, c < 8 → f c = xc9 S l c) ∧ (∀ d, d < nD S → im S d = 1 → d1 S d = l → ∀ c, c < 8 → f c = kp S (16 * d + c))
def LXx (S : SP) (σ : HS) : Prop := ∀ l, l < nL S → XD S σ l
def WD (S : SP) (σ : HS) (w : Nat) : Prop := hR σ 512 w 0 = some (4, ol S w) ∧ hI σ 513 w 0 = nI (cw S w) ∧ hI σ 514 w 0 = nI (sw S w) ∧ hL σ 515 w 0 = enc5 (hr S w) ∧ hI σ 516 w 0 = bI (decide (hd9 S w ≠ 1))
def LXw (S : SP) (σ : HS) : Prop := LS9 σ 4 (nW S) (fun w => (8, w)) ∧ (∀ w, w < nW S → WD S σ w) ∧ (∀ w, nW S ≤ w → w < 100 → hV σ (8, w) = false)
/-- a change that can be taken back: its number is s -/
def DD (S : SP) (σ : HS) (d s : Nat) : Prop := hR σ 128 s 0 = some (4, if im S d = 1 then d1 S d else d2 S d) ∧ hR σ 129 s 0 = some (4, if im S d = 1 then d2 S d else d1 S d) ∧ hI σ 130 s 0 = bI (decide (im S d ≠ 1)) ∧ hR σ 131 s 0 = some (1, 1000 + s) ∧ hL σ 132 s 0 = lN (mv S d) ∧ ∃ f, CR9 σ (1000 + s) f ∧ ∀ c, c < 8 → f c = kp S (16 * d + 8 + c)
def LXd (S : SP) (σ : HS) : Prop := ∃ (g : Nat → Nat) (N : Nat), LS9 σ 5 (nD S) (fun d => (2, g d)) ∧ (∀ d, d < nD S → g d < N ∧ DD S σ d (g d)) ∧ (∀ d e, d < nD S → e < nD S → g d = g e → d = e) ∧ (∀ s, N ≤ s → hV σ (2, s) = false ∧ hV σ (1, 1000 + s) = false ∧ hV σ (12, 1000 + s) = false)
def FGf (σ : HS) : Prop := hV σ (9, 0) = true ∧ hR σ 576 0 0 = some (6, 0) ∧ hR σ 577 0 0 = some (5, 0) ∧ hR σ 578 0 0 = some (1, 100)
def DRc (S : SP) (σ : HS) : Prop := hL σ 579 0 0 = enc5 (dr S)
def PH9 (S : SP) (σ : HS) : Prop := PHf σ ∧ PHs S σ ∧ PHr S σ
def LX9 (S : SP) (σ : HS) : Prop := LXf σ ∧ LXl S σ ∧ LXx S σ ∧ LXw S σ ∧ LXd S σ
def CI (S : SP) (σ : HS) : Prop := PH9 S σ ∧ ENc S σ ∧ LX9 S σ ∧ FGf σ ∧ DRc S σ
/-! their tags -/
def tgS (t : Tg) : Prop := (t.1 = 11 ∧ t.2 < 2) ∨ (t.1 = 3 ∧ t.2 < 100) ∨ tgL 0 t
def tgR (t : Tg) : Prop := (t.1 = 7 ∧ t.2 < 100) ∨ tgL 1 t ∨ tgL 2 t
def tgP (t : Tg) : Prop := (t.1 = 6 ∧ t.2 = 0) ∨ (t.1 = 11 ∧ t.2 < 2) ∨ t.1 = 3 ∨ t.1 = 7 ∨ (t.1 = 0 ∧ t.2 < 3) ∨ (t.1 = 14 ∧ t.2 / 64 < 3)
def tgX (t : Tg) : Prop := (t.1 = 4 ∧ t.2 < 100) ∨ tgL 3 t ∨ ((t.1 = 1 ∨ t.1 = 12) ∧ t.2 < 100)
def tgW (t : Tg) : Prop := (t.1 = 8 ∧ t.2 < 100) ∨ tgL 4 t
def tgD (t : Tg) : Prop := t.1 = 2 ∨ tgL 5 t ∨ ((t.1 = 1 ∨ t.1 = 12) ∧ 1000 ≤ t.2)
section CFR
variable {P : Tg → Prop} {S : SP} {σ σ' : HS}
theorem LS9.fr {a n : Nat} {f : Nat → Tg} (h : LS9 σ a n f) (k : Fr P σ σ') (hn : ∀ t, tgL a t → ¬ P t) : LS9 σ' a n f := by
  obtain ⟨c, h⟩ := h
  exact ⟨c, h.fr k hn⟩
theorem LS9.live {a n p : Nat} {f : Nat → Tg} (h : LS9 σ a n f) (hp : p < n) : hV σ (f p) = true := by
  obtain ⟨c, h, -⟩ := h
  exact (h.2.2.2.2.2.2 p _ (lst_get hp)).2.1
theorem LS9.self {a n : Nat} {f : Nat → Tg} (h : LS9 σ a n f) : hV σ (0, a) = true := by
  obtain ⟨c, h, -⟩ := h
  exact h.1
theorem PHf.fr (h : PHf σ) (k : Fr P σ σ') (n1 : ¬ P (3, 100)) (n2 : ¬ P (3, 101)) (e : ∀ f, f / 64 = 6 → hR σ' f 0 0 = hR σ f 0 0) : PHf σ' := by
  obtain ⟨h1, ⟨h2, h3, h4⟩, ⟨h5, h6, h7⟩, h8, ⟨h9, h10, h11⟩, ⟨h12, h13, h14⟩, h15, h16, h17, h18, h19⟩ := h
  exact ⟨k.live h1, ⟨(e 384 rfl).trans h2, k.live h3, (k.len h3).trans h4⟩, ⟨(e 385 rfl).trans h5, k.live h6, (k.len h6).trans h7⟩, (e 387 rfl).trans h8, ⟨(e 388 rfl).trans h9, k.live h10, (k.rI (f := 194) n1).trans h11⟩, ⟨(e 389 rfl).trans h12, k.live h13, (k.rI (f := 194) n2).trans h14⟩, (e 390 rfl).trans h15, (e 391 rfl).trans h16, (e 393 rfl).trans h17, k.live h18, (k.len h18).trans h19⟩
theorem KD.fr {c : Nat} (h : KD S σ c) (k : Fr P σ σ') (hn : ¬ P (3, c)) : KD S σ' c := by
  obtain ⟨h1, h2, m, m1, m2, m3⟩ := h
  exact ⟨(k.rI (f := 192) hn).trans h1, (k.rI (f := 193) hn).trans h2, m, m1, (k.rI (f := 194) hn).trans m2, m3⟩
theorem PHs.fr (h : PHs S σ) (k : Fr P σ σ') (hn : ∀ t, tgS t → ¬ P t) (hc : nC S ≤ 100) (e : hI σ' 386 0 0 = hI σ 386 0 0) : PHs S σ' := by
  obtain ⟨h1, h2, h3, h4, h5, h6⟩ := h
  exact ⟨e.trans h1, fun i hi => (k.rI (f := 704) (hn _ (Or.inl ⟨rfl, by decide⟩))).trans (h2 i hi), fun f hf => (k.rI (f := 704) (hn _ (Or.inl ⟨rfl, by decide⟩))).trans (h3 f hf), h4.fr k (fun t z => hn t (Or.inr (Or.inr z))), fun c q => (h5 c q).fr k (hn _ (Or.inr (Or.inl ⟨rfl, Nat.lt_of_lt_of_le q hc⟩))), fun c q q2 => (k.rV (hn _ (Or.inr (Or.inl ⟨rfl, q2⟩)))).trans (h6 c q q2)⟩
theorem RD.fr {r : Nat} (h : RD S σ r) (k : Fr P σ σ') (hn : ¬ P (7, r)) : RD S σ' r := by
  obtain ⟨h1, h2, h3, h4, h5⟩ := h
  exact ⟨(k.rI (f := 448) hn).trans h1, (k.rR (f := 449) hn).trans h2, (k.rI (f := 450) hn).trans h3, (k.rR (f := 451) hn).trans h4, (k.rR (f := 452) hn).trans h5⟩
theorem PHr.fr (h : PHr S σ) (k : Fr P σ σ') (hn : ∀ t, tgR t → ¬ P t) (hc : nR S ≤ 100) (e : hI σ' 392 0 0 = hI σ 392 0 0) : PHr S σ' := by
  obtain ⟨h1, h2, h3, h4, h5⟩ := h
  exact ⟨e.trans h1, h2.fr k (fun t z => hn t (Or.inr (Or.inl z))), h3.fr k (fun t z => hn t (Or.inr (Or.inr z))), fun r q => (h4 r q).fr k (hn _ (Or.inl ⟨rfl, Nat.lt_of_lt_of_le q hc⟩)), fun r q q2 => (k.rV (hn _ (Or.inl ⟨rfl, q2⟩))).trans (h5 r q q2)⟩
theorem ENc.fr (h : ENc S σ) (k : Fr P σ σ') (hn : ∀ t, tgC 100 t → ¬ P t) : ENc S σ' := by
  obtain ⟨f, h1, h2⟩ := h
  exact ⟨f, h1.fr k hn, h2⟩
theorem LXf.fr (h : LXf σ) (k : Fr P σ σ') (hn : ¬ P (5, 0)) : LXf σ' := by
  obtain ⟨h1, h2, h3, h4⟩ := h
  exact ⟨k.live h1, (k.rR (f := 320) hn).trans h2, (k.rR (f := 321) hn).trans h3, (k.rR (f := 322) hn).trans h4⟩
theorem LD.fr {l : Nat} (h : LD S σ l) (k : Fr P σ σ') (hn : ¬ P (4, l)) : LD S σ' l := by
  obtain ⟨h1, h2, h3, h4⟩ := h
  exact ⟨(k.rI (f := 256) hn).trans h1, (k.rL (f := 257) hn).trans h2, (k.rI (f := 258) hn).trans h3, (k.rR (f := 259) hn).trans h4⟩
theorem LXl.fr (h : LXl S σ) (k : Fr P σ σ') (hn : ∀ t, tgL 3 t → ¬ P t) (hm : ∀ l, l < 100 → ¬ P (4, l)) (hc : nL S ≤ 100) (hf : ∀ l, nL S ≤ l → l < 100 → ¬ P (1, l) ∧ ¬ P (12, l)) : LXl S σ' := by
  obtain ⟨h1, h2, h3⟩ := h
  exact ⟨h1.fr k hn, fun l q => (h2 l q).fr k (hm l (Nat.lt_of_lt_of_le q hc)), fun l q q2 => ⟨(k.rV (hm l q2)).trans (h3 l q q2).1, (k.rV (hf l q q2).1).trans (h3 l q q2).2.1, (k.rV (hf l q q2).2).trans (h3 l q q2).2.2⟩⟩
theorem XD.fr {l : Nat} (h : XD S σ l) (k : Fr P σ σ') (hn : ∀ t, tgC l t → ¬ P t) : XD S σ' l := by
  obtain ⟨f, h1, h2⟩ := h
  exact ⟨f, h1.fr k hn, h2⟩
theorem WD.fr {w : Nat} (h : WD S σ w) (k : Fr P σ σ') (hn : ¬ P (8, w)) : WD S σ' w := by
  obtain ⟨h1, h2, h3, h4, h5⟩ := h
  exact ⟨(k.rR (f := 512) hn).trans h1, (k.rI (f := 513) hn).trans h2, (k.rI (f := 514) hn).trans h3, (k.rL (f := 515) hn).trans h4, (k.rI (f := 516) hn).trans h5⟩
theorem LXw.fr (h : LXw S σ) (k : Fr P σ σ') (hn : ∀ t, tgW t → ¬ P t) (hc : nW S ≤ 100) : LXw S σ' := by
  obtain ⟨h1, h2, h3⟩ := h
  exact ⟨h1.fr k (fun t z => hn t (Or.inr z)), fun w q => (h2 w q).fr k (hn _ (Or.inl ⟨rfl, Nat.lt_of_lt_of_le q hc⟩)), fun w q q2 => (k.rV (hn _ (Or.inl ⟨rfl, q2⟩))).trans (h3 w q q2)⟩
theorem DD.fr {d s : Nat} (h : DD S σ d s) (k : Fr P σ σ') (hn : ¬ P (2, s)) (hn2 : ∀ t, tgC (1000 + s) t → ¬ P t) : DD S σ' d s := by
  obtain ⟨h1, h2, h3, h4, h5, f, h6, h7⟩ := h
  exact ⟨(k.rR (f := 128) hn).trans h1, (k.rR (f := 129) hn).trans h2, (k.rI (f := 130) hn).trans h3, (k.rR (f := 131) hn).trans h4, (k.rL (f := 132) hn).trans h5, f, h6.fr k hn2, h7⟩
theorem LXd.fr (h : LXd S σ) (k : Fr P σ σ') (hn : ∀ t, tgD t → ¬ P t) : LXd S σ' := by
  obtain ⟨g, N, h1, h2, h3, h4⟩ := h
  refine ⟨g, N, h1.fr k (fun t z => hn t (Or.inr (Or.inl z))), fun d q => ⟨(h2 d q).1, (h2 d q).2.fr k (hn _ (Or.inl rfl)) (fun t z => hn t (Or.inr (Or.inr ⟨z.1, by have := z.2; omega⟩)))⟩, h3, fun s q => ?_⟩
  obtain ⟨q1, q2, q3⟩ := h4 s q
  exact ⟨(k.rV (hn _ (Or.inl rfl))).trans q1, (k.rV (hn _ (Or.inr (Or.inr ⟨Or.inl rfl, by show 1000 ≤ 1000 + s; omega⟩)))).trans q2, (k.rV (hn _ (Or.inr (Or.inr ⟨Or.inr rfl, by show 1000 ≤ 1000 + s; omega⟩)))).trans q3⟩
theorem FGf.fr (h : FGf σ) (k : Fr P σ σ') (e : ∀ f, f / 64 = 9 → hR σ' f 0 0 = hR σ f 0 0) : FGf σ' := by
  obtain ⟨h1, h2, h3, h4⟩ := h
  exact ⟨k.live h1, (e 576 rfl).trans h2, (e 577 rfl).trans h3, (e 578 rfl).trans h4⟩
end CFR
