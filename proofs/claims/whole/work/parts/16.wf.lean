/-! what holds of the spec's state behind every run of calls -/
/-- whether a lexeme is there once the latest k deeds are taken back -/
def thB (S : SP) (l : Nat) : Nat → Nat
  | 0 => th S l
  | k + 1 => if l = d1 S (nD S - 1 - k) then im S (nD S - 1 - k) else thB S l k
/-- a row of sounds that there are -/
def okS (S : SP) (r : List Nat) : Prop := r.length ≤ 8 ∧ ∀ s ∈ r, s < nS S
def WFs (S : SP) : Prop := nS S ≤ 16 ∧ (∀ f, f < 64 → wi S f ≤ nS S ∧ (wi S f ≠ 0 → fe S (wi S f - 1) = f)) ∧ (∀ i, i < nS S → fe S i < 64 ∧ wi S (fe S i) = i + 1) ∧ nC S ≤ 12 ∧ (∀ c, c < nC S → ne S c < 64 ∧ ba S c < 64)
def WFr (S : SP) : Prop := nR S ≤ 6 ∧ (∀ r, r < nR S → ta S r < nC S ∧ tu S r < 64 ∧ le9 S r < nC S + 2 ∧ ri9 S r < nC S + 2) ∧ (∀ p, p < nR S → orr S p < nR S) ∧ (∀ p q, p < nR S → q < nR S → orr S p = orr S q → p = q) ∧ on9 S < 2 ^ nR S
def WFl (S : SP) : Prop := nL S ≤ 16 ∧ (∀ l, l < nL S → okS S (fo S l) ∧ 1 ≤ (fo S l).length ∧ (fo S l).length ≤ 6) ∧ (∀ c, okS S (en S c) ∧ (en S c).length ≤ 2) ∧ okS S (dr S) ∧ (∀ j r, S.2 768 412 j = some r → okS S r) ∧ (∀ j r, S.2 768 431 j = some r → okS S r) ∧ (∀ l, th S l ≤ 1) ∧ (∀ l, nL S ≤ l → th S l = 0) ∧ (∀ l c, nL S ≤ l → l < 16 → c < 8 → xc9 S l c = none)
def WFw (S : SP) : Prop := nW S ≤ 40 ∧ (∀ w, okS S (hr S w)) ∧ (∀ w, w < nW S → ol S w < nL S ∧ cw S w < 8 ∧ sw S w < 4 ∧ hd9 S w ≤ 1 ∧ (hd9 S w = 1 → th S (ol S w) = 1))
def WFd (S : SP) : Prop := nD S ≤ 31 ∧ (∀ d, d < nD S → im S d ≤ 1 ∧ d1 S d < nL S ∧ d2 S d < nL S ∧ d1 S d ≠ d2 S d ∧ mv S d < 2 ^ 40) ∧ (∀ i j, i < j → j < nD S → d1 S i = d1 S j → im S i = 0 ∧ im S j = 1) ∧ (∀ i, i < nD S → im S i = 1 → th S (d1 S i) = 0) ∧ (∀ i, i < nD S → im S i = 0 → 1 ≤ d1 S i) ∧ (∀ k, k < nD S → thB S (d2 S (nD S - 1 - k)) k = 1 ∧ (im S (nD S - 1 - k) = 0 → thB S (d1 S (nD S - 1 - k)) k = 1))
def WF (S : SP) : Prop := WFs S ∧ WFr S ∧ WFl S ∧ WFw S ∧ WFd S
section WFS
variable {S : SP}
theorem okS.R (h : WFs S) {r : List Nat} (k : okS S r) : okR r := ⟨k.1, fun s hs => Nat.lt_of_lt_of_le (k.2 s hs) h.1⟩
theorem WF_dr (h : WF S) : okS S (dr S) := h.2.2.1.2.2.2.1
theorem WF_drR (h : WF S) : okR (dr S) := okS.R h.1 (WF_dr h)
theorem WF_fo (h : WF S) {l : Nat} (hl : l < nL S) : okS S (fo S l) ∧ 1 ≤ (fo S l).length ∧ (fo S l).length ≤ 6 := h.2.2.1.2.1 l hl
theorem WF_en (h : WF S) (c : Nat) : okS S (en S c) ∧ (en S c).length ≤ 2 := h.2.2.1.2.2.1 c
theorem okS_app {a b : List Nat} (ha : okS S a) (hb : okS S b) (hn : a.length + b.length ≤ 8) : okS S (a ++ b) := ⟨by rw [List.length_append]; exact hn, fun s hs => (List.mem_append.mp hs).elim (ha.2 s) (hb.2 s)⟩
theorem WF_base (h : WF S) {l : Nat} (hl : l < nL S) (c : Nat) : okS S (base9 S l c) := okS_app (WF_fo h hl).1 (WF_en h c).1 (by have := (WF_fo h hl).2.2; have := (WF_en h c).2; omega)
theorem WF_hr (h : WF S) (w : Nat) : okS S (hr S w) := h.2.2.2.1.2.1 w
theorem wi_lt (h : WFs S) {f : Nat} (hf : f < 64) (h0 : wi S f ≠ 0) : wi S f - 1 < nS S := by have := (h.2.1 f hf).1; omega
theorem xor_64 {a b : Nat} (ha : a < 64) (hb : b < 64) : a ^^^ b < 64 := Nat.xor_lt_two_pow (n := 6) ha hb
/-- what a rule makes of a row of sounds is one -/
theorem gol_ok (h : WFs S) {r : Nat} (hr : tu S r < 64) {row : List Nat} (hrow : okS S row) : ∀ k, (gol S r row k).1.length ≤ min k row.length ∧ (∀ s ∈ (gol S r row k).1, s < nS S) ∧ (gol S r row k).2 ≤ k := by
  intro k
  induction k with
  | zero => exact ⟨by simp [gol], fun s hs => (nomatch hs), Nat.le_refl _⟩
  | succ k ih =>
    obtain ⟨h1, h2, h3⟩ := ih
    unfold gol
    cases e : row[k]? with
    | none => exact ⟨Nat.le_trans h1 (by omega), h2, by show (gol S r row k).2 ≤ k + 1; omega⟩
    | some s =>
      have hk : k < row.length := (List.getElem?_eq_some_iff.mp e).1
      have hs : s < nS S := hrow.2 s (List.mem_of_getElem? e)
      have app : ∀ t, t < nS S → ((gol S r row k).1 ++ [t]).length ≤ min (k + 1) row.length ∧ ∀ u ∈ (gol S r row k).1 ++ [t], u < nS S := by
        intro t ht
        refine ⟨by rw [List.length_append, List.length_singleton]; omega, fun u hu => ?_⟩
        rcases List.mem_append.mp hu with q | q
        · exact h2 u q
        · rw [List.mem_singleton.mp q]; exact ht
      dsimp only
      split
      · split
        · exact ⟨Nat.le_trans h1 (by omega), h2, by show _ + 1 ≤ _; omega⟩
        · split
          · exact ⟨(app s hs).1, (app s hs).2, by show (gol S r row k).2 ≤ k + 1; omega⟩
          · rename_i q
            have ht := wi_lt h (xor_64 (h.2.2.1 s hs).1 hr) q
            exact ⟨(app _ ht).1, (app _ ht).2, by show _ + 1 ≤ _; omega⟩
      · exact ⟨(app s hs).1, (app s hs).2, by show (gol S r row k).2 ≤ k + 1; omega⟩
theorem gone_ok (h : WFs S) {r : Nat} (hr : tu S r < 64) {row : List Nat} (hrow : okS S row) : okS S (gone S r row).1 := by
  have k := gol_ok h hr hrow row.length
  exact ⟨Nat.le_trans k.1 (by have := hrow.1; omega), k.2.1⟩
theorem derP_ok (h : WF S) {set : Nat} {row : List Nat} (hrow : okS S row) : ∀ p, p ≤ nR S → okS S (derP S set row p) := by
  intro p
  induction p with
  | zero => intro _; exact hrow
  | succ p ih =>
    intro hp
    unfold derP
    split
    · exact gone_ok h.1 (h.2.1.2.1 _ (h.2.1.2.2.1 p hp)).2.1 (ih (Nat.le_of_succ_le hp))
    · exact ih (Nat.le_of_succ_le hp)
theorem der_ok (h : WF S) {set : Nat} {row : List Nat} (hrow : okS S row) : okS S (der S set row) := derP_ok h hrow _ (Nat.le_refl _)
theorem word_ok (h : WF S) {l c : Nat} (hl : l < nL S) : okS S (word9 S l c) := by
  unfold word9
  cases e : xc9 S l c with
  | none => exact der_ok h (WF_base h hl c)
  | some r => exact h.2.2.1.2.2.2.2.1 _ _ e
end WFS
theorem zN_eq {S : SP} {f i j v : Nat} : (zN S f i j v).1 f i j = v := up3_eq
theorem zR_eq {S : SP} {f i j : Nat} {r : Option (List Nat)} : (zR S f i j r).2 f i j = r := up3_eq
theorem zN_ne {S : SP} {f i j v f' i' j' : Nat} (h : ¬ (f' = f ∧ i' = i ∧ j' = j)) : (zN S f i j v).1 f' i' j' = S.1 f' i' j' := up3_ne h
theorem zR_ne {S : SP} {f i j : Nat} {r : Option (List Nat)} {f' i' j' : Nat} (h : ¬ (f' = f ∧ i' = i ∧ j' = j)) : (zR S f i j r).2 f' i' j' = S.2 f' i' j' := up3_ne h
