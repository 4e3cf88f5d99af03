/-! what the lexicon's calls rest on -/
theorem xN_nI9 {n : Nat} (h : n < 2 ^ 31) : xN (nI n) = n := by
  show ((nI n).toInt).toNat = n
  rw [nI_toInt h]
  exact Int.toNat_natCast n
theorem isWrd_nI {S : SP} {n : Nat} (h : n < 2 ^ 31) : isWrd S (nI n) = (decide (n < nW S) && decide (hd9 S n = 1)) := by
  unfold isWrd
  rw [inI_nI h, xN_nI9 h]
theorem isLex_nI {S : SP} {n : Nat} (h : n < 2 ^ 31) : isLex S (nI n) = (decide (n < nL S) && decide (th S n = 1)) := by
  unfold isLex
  rw [inI_nI h, xN_nI9 h]
theorem isLex_t {S : SP} {x : Int32} (h : isLex S x = true) : xN x < nL S ∧ th S (xN x) = 1 ∧ x = nI (xN x) := by
  unfold isLex at h
  rw [Bool.and_eq_true, decide_eq_true_eq] at h
  exact ⟨(inI_t h.1).1, h.2, (inI_t h.1).2⟩
theorem isWrd_t {S : SP} {x : Int32} (h : isWrd S x = true) : xN x < nW S ∧ hd9 S (xN x) = 1 ∧ x = nI (xN x) := by
  unfold isWrd at h
  rw [Bool.and_eq_true, decide_eq_true_eq] at h
  exact ⟨(inI_t h.1).1, h.2, (inI_t h.1).2⟩
theorem bI_dn {p : Prop} [Decidable p] (h : p) : bI (decide (¬ p)) = bI false := by rw [decide_eq_false (fun z => z h)]
/-- a word was heard by a speaker, of the same lexeme, cell and form -/
def hbP (S : SP) (p v w : Nat) : Bool := decide (hd9 S w = 1 ∧ sw S w = p ∧ ol S w = ol S v ∧ cw S w = cw S v ∧ hr S w = hr S v)
def shB (S : SP) (l a b w : Nat) : Bool := decide (hd9 S w = 1 ∧ ol S w = l ∧ sw S w = a) && anyB (hbP S b w) (nW S)
/-- the cells that two speakers share of a lexeme, by the first n words -/
def shIn (S : SP) (l a b : Nat) : Nat → Nat
  | 0 => 0
  | n + 1 => if shB S l a b n = true then shIn S l a b n ||| 2 ^ cw S n else shIn S l a b n
theorem shIn_lt {S : SP} (hw : WF S) (l a b : Nat) : ∀ n, n ≤ nW S → shIn S l a b n < 256
  | 0, _ => by show 0 < 256; decide
  | n + 1, h => by
    have ih := shIn_lt hw l a b n (by omega)
    unfold shIn
    split
    · have h8 := (hw.2.2.2.1.2.2 n (by omega)).2.1
      have h9 : 2 ^ cw S n < 2 ^ 8 := Nat.pow_lt_pow_right (by decide) h8
      exact Nat.or_lt_two_pow (n := 8) ih h9
    · exact ih
theorem shIn_bit {S : SP} (l a b c : Nat) : ∀ n, (shIn S l a b n).testBit c = anyB (fun w => shB S l a b w && decide (cw S w = c)) n
  | 0 => Nat.zero_testBit c
  | n + 1 => by
    show (if shB S l a b n = true then shIn S l a b n ||| 2 ^ cw S n else shIn S l a b n).testBit c = (anyB _ n || (shB S l a b n && decide (cw S n = c)))
    have ih := shIn_bit (S := S) l a b c n
    cases e : shB S l a b n with
    | true => rw [if_pos rfl, or_bit, ih, Bool.true_and]
    | false => rw [if_neg (by decide), ih, Bool.false_and, Bool.or_false]
theorem shIn_shared {S : SP} (l a b c : Nat) : (shIn S l a b (nW S)).testBit c = isShared9 S l c a b := by
  rw [shIn_bit, isShared_any]
  have key : (anyB (fun w => shB S l a b w && decide (cw S w = c)) (nW S) = true) ↔ (anyB (fun v => anyB (shP S l c a b v) (nW S)) (nW S) = true) := by
    rw [anyB_iff, anyB_iff]
    constructor
    · rintro ⟨v, h1, h2⟩
      rw [Bool.and_eq_true, decide_eq_true_eq] at h2
      unfold shB at h2
      rw [Bool.and_eq_true, decide_eq_true_eq, anyB_iff] at h2
      obtain ⟨⟨⟨a1, a2, a3⟩, w, h3, h4⟩, h5⟩ := h2
      obtain ⟨b1, b2, b3, b4, b5⟩ := of_decide_eq_true h4
      exact ⟨v, h1, anyB_iff.mpr ⟨w, h3, decide_eq_true ⟨a1, b1, a2, b3.trans a2, h5, b4.trans h5, a3, b2, b5.symm⟩⟩⟩
    · rintro ⟨v, h1, h2⟩
      obtain ⟨w, h3, h4⟩ := anyB_iff.mp h2
      obtain ⟨b1, b2, b3, b4, b5, b6, b7, b8, b9⟩ := of_decide_eq_true h4
      refine ⟨v, h1, ?_⟩
      rw [Bool.and_eq_true, decide_eq_true_eq]
      refine ⟨?_, b5⟩
      unfold shB
      rw [Bool.and_eq_true, decide_eq_true_eq, anyB_iff]
      exact ⟨⟨b1, b3, b7⟩, w, h3, decide_eq_true ⟨b2, b8, b4.trans b3.symm, b6.trans b5.symm, b9.symm⟩⟩
  cases e : anyB (fun w => shB S l a b w && decide (cw S w = c)) (nW S) <;> cases e2 : anyB (fun v => anyB (shP S l c a b v) (nW S)) (nW S) <;> first | rfl | (rw [e, e2] at key; simp at key)
theorem anyB_succ {p : Nat → Bool} {n : Nat} : anyB p (n + 1) = (anyB p n || p n) := rfl
theorem anyB_t {p : Nat → Bool} {k n : Nat} (hk : k < n) (h : p k = true) : anyB p n = true := anyB_iff.mpr ⟨k, hk, h⟩
theorem okR_hr {S : SP} (hw : WF S) (w : Nat) : okR (hr S w) := okS.R hw.1 (WF_hr hw w)
/-- the words, each of the lexeme that o tells -/
def WO (S : SP) (o : Nat → Nat) (σ : HS) (w : Nat) : Prop := hR σ 512 w 0 = some (4, o w) ∧ hI σ 513 w 0 = nI (cw S w) ∧ hI σ 514 w 0 = nI (sw S w) ∧ hL σ 515 w 0 = enc5 (hr S w) ∧ hI σ 516 w 0 = bI (decide (hd9 S w ≠ 1))
def LXo (S : SP) (o : Nat → Nat) (σ : HS) : Prop := LS9 σ 4 (nW S) (fun w => (8, w)) ∧ (∀ w, w < nW S → WO S o σ w) ∧ (∀ w, nW S ≤ w → w < 100 → hV σ (8, w) = false)
theorem LXo.upd {S : SP} {o : Nat → Nat} {σ : HS} (h : LXo S o σ) {w b : Nat} : LXo S (fun x => if x = w then b else o x) (sR σ 512 w 0 (some (4, b))) := by
  have k : Fr (fun t => t.1 = 8 ∧ t.2 = w) σ (sR σ 512 w 0 (some (4, b))) := Fr.rf.sR ⟨rfl, rfl⟩
  refine ⟨h.1.fr k (fun t z => by simp only [tgL] at z; omega), fun x hx => ⟨?_, (h.2.1 x hx).2⟩, h.2.2⟩
  by_cases e : x = w
  · subst e
    show _ = some (4, if x = x then b else o x)
    rw [if_pos rfl]
    exact sR_eq
  · show _ = some (4, if x = w then b else o x)
    rw [if_neg e]
    exact (sR_ne (fun z => e z.2.1)).trans (h.2.1 x hx).1
theorem LXo.cong {S : SP} {o o' : Nat → Nat} {σ : HS} (h : LXo S o σ) (e : ∀ w, w < nW S → o w = o' w) : LXo S o' σ := ⟨h.1, fun w hw => ⟨by rw [← e w hw]; exact (h.2.1 w hw).1, (h.2.1 w hw).2⟩, h.2.2⟩
theorem LXo.fr {P : Tg → Prop} {S : SP} {o : Nat → Nat} {σ σ' : HS} (h : LXo S o σ) (k : Fr P σ σ') (hn : ∀ t, tgW t → ¬ P t) (hc : nW S ≤ 100) : LXo S o σ' := by
  obtain ⟨h1, h2, h3⟩ := h
  refine ⟨h1.fr k (fun t z => hn t (Or.inr z)), fun w q => ?_, fun w q q2 => (k.rV (hn _ (Or.inl ⟨rfl, q2⟩))).trans (h3 w q q2)⟩
  obtain ⟨g1, g2, g3, g4, g5⟩ := h2 w q
  have n8 : ¬ P (8, w) := hn _ (Or.inl ⟨rfl, Nat.lt_of_lt_of_le q hc⟩)
  exact ⟨(k.rR (f := 512) n8).trans g1, (k.rI (f := 513) n8).trans g2, (k.rI (f := 514) n8).trans g3, (k.rL (f := 515) n8).trans g4, (k.rI (f := 516) n8).trans g5⟩
