/-! facts for the questions -/
theorem nn_t {x : Int32} (h : 0 ≤ x.toInt) : xN x < 2 ^ 31 ∧ x = nI (xN x) := by
  have hr := fb_rng x
  exact inI_t (by unfold inI; rw [decide_eq_true h, Bool.true_and]; exact decide_eq_true (by omega))
theorem lt0_iff {x : Int32} : (x < 0) ↔ ¬ 0 ≤ x.toInt := by
  rw [Int32.lt_iff_toInt_lt]
  have : (0 : Int32).toInt = 0 := by decide
  rw [this]; omega
theorem holes_eq : ∀ h, h < 256 → nI 255 &&& (nI h ^^^ (-1)) = nI (255 - h) := by decide +kernel
theorem smal_lt {S : SP} : ∀ {n b : Nat}, smal S n = some b → b < n
  | 0, _, h => by cases h
  | n + 1, b, h => by
    unfold smal at h
    split at h
    · cases h; omega
    · have := smal_lt h; omega
theorem ones_le (s : Nat) : ones s ≤ 6 := fb_ct_le _ 6
/-- the fitting ones of the first n sets -/
def qs9 (S : SP) : Nat → Nat
  | 0 => 0
  | n + 1 => if fitset S n = true then qs9 S n ||| 2 ^ n else qs9 S n
theorem qs9_lt (S : SP) : ∀ n, qs9 S n < 2 ^ n
  | 0 => by show 0 < _; exact Nat.two_pow_pos _
  | n + 1 => by
    have ih := qs9_lt S n
    have h2 : 2 ^ n < 2 ^ (n + 1) := Nat.pow_lt_pow_right (by decide) (by omega)
    unfold qs9
    split
    · exact Nat.or_lt_two_pow (Nat.lt_trans ih h2) h2
    · exact Nat.lt_trans ih h2
theorem qs9_bit (S : SP) (k : Nat) : ∀ n, (qs9 S n).testBit k = (decide (k < n) && fitset S k)
  | 0 => by show (0 : Nat).testBit k = _; rw [Nat.zero_testBit, decide_eq_false (Nat.not_lt_zero k)]; rfl
  | n + 1 => by
    have ih := qs9_bit S k n
    unfold qs9
    by_cases e : k = n
    · subst e
      rw [decide_eq_true (Nat.lt_succ_self _), Bool.true_and]
      have h0 : (qs9 S k).testBit k = false := by rw [ih, decide_eq_false (Nat.lt_irrefl _)]; rfl
      by_cases q : fitset S k = true
      · rw [if_pos q, Nat.testBit_or, Nat.testBit_two_pow, decide_eq_true rfl, Bool.or_true, q]
      · rw [if_neg q, h0]; exact (Bool.eq_false_iff.mpr q).symm
    · have hd : decide (k < n + 1) = decide (k < n) := decide_eq_decide.mpr (by omega)
      rw [hd, ← ih]
      split
      · rw [Nat.testBit_or, Nat.testBit_two_pow, decide_eq_false (fun z => e z.symm), Bool.or_false]
      · rfl
theorem qn_le (S : SP) (l c : Nat) : qn S l c ≤ 2 ^ nR S := by
  unfold qn
  split
  · exact unl_le S _ _
  · exact Nat.zero_le _
theorem ques_le (S : SP) : ∀ k, (ques S k).1 ≤ 2 ^ nR S
  | 0 => Nat.one_le_two_pow
  | k + 1 => by
    have ih := ques_le S k
    unfold ques
    split
    · exact qn_le S _ _
    · exact ih
theorem ques_lt (S : SP) : ∀ {k b : Nat}, (ques S k).2 = some b → b < k
  | 0, _, h => by cases h
  | k + 1, b, h => by
    unfold ques at h
    split at h
    · cases h; omega
    · have := ques_lt S h; omega
theorem ques_out {S : SP} {l : Nat} (h : ¬ th S l = 1) (c : Nat) : ∀ d, c + d ≤ 8 → ques S (8 * l + (c + d)) = ques S (8 * l + c)
  | 0, _ => rfl
  | d + 1, q => by
    rw [← ques_out h c d (by omega)]
    have e : (8 * l + (c + d)) / 8 = l := by omega
    show (if th S ((8 * l + (c + d)) / 8) = 1 ∧ (ques S (8 * l + (c + d))).1 < qn S ((8 * l + (c + d)) / 8) ((8 * l + (c + d)) % 8) then _ else _) = _
    exact if_neg (fun z => h (e ▸ z.1))
theorem ques_succ (S : SP) (l : Nat) {c : Nat} (hc : c < 8) : ques S (8 * l + (c + 1)) = if th S l = 1 ∧ (ques S (8 * l + c)).1 < qn S l c then (qn S l c, some (8 * l + c)) else ques S (8 * l + c) := by
  show (if th S ((8 * l + c) / 8) = 1 ∧ (ques S (8 * l + c)).1 < qn S ((8 * l + c) / 8) ((8 * l + c) % 8) then (qn S ((8 * l + c) / 8) ((8 * l + c) % 8), some (8 * l + c)) else _) = _
  rw [show (8 * l + c) / 8 = l by omega, show (8 * l + c) % 8 = c by omega]; rfl
def prP (S : SP) (a b v w : Nat) : Bool := decide (v < w) && isPair9 S v w a b
theorem prP_low (S : SP) (a b v : Nat) : fb_ct (prP S a b v) (v + 1) = 0 := fb_ct_zero.mpr (fun k hk => by unfold prP; rw [decide_eq_false (by omega)]; rfl)
theorem misF_succ (S : SP) (n w k : Nat) : misF S (n + 1) w k = if hd9 S w = 1 ∧ fits9 S w = false then (if k = 0 then some w else misF S n (w + 1) (k - 1)) else misF S n (w + 1) k := rfl
theorem s_undo_go {S : SP} (h : ¬ nD S = 0) : s_undo S = (0, nI (nD S - 1), zN (backX (backW (zN S 672 0 0 (nD S - 1)) (nD S - 1) (nW S)) (nD S - 1) 8) 832 9 (d1 S (nD S - 1)) (im S (nD S - 1))) := if_neg h
theorem steps_le {S : SP} (hw : WF S) {l c r : Nat} (hl : l < nL S) (hc : c < 8) (hr : r < nR S) : steps9 S l c r ≤ 8 := by
  unfold steps9
  split
  · have h1 := derP_ok hw (WF_base hw hl c) (set := on9 S) (pos9 S r) (Nat.le_of_lt (pos_spec hw hr).1)
    exact Nat.le_trans (gol_ok hw.1 (hw.2.1.2.1 r hr).2.1 h1 _).2.2 h1.1
  · exact Nat.zero_le _
