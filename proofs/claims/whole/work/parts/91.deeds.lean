/-! deeds: what is kept, what is moved, what goes back, column by column -/
def mvd (S : SP) (a m w : Nat) : Bool := decide (hd9 S w = 1 ∧ ol S w = a ∧ m.testBit (cw S w) = true)
def mvm (S : SP) (a m : Nat) : Nat → Nat
  | 0 => 0
  | n + 1 => if mvd S a m n = true then mvm S a m n ||| 2 ^ n else mvm S a m n
theorem mvm_lt (S : SP) (a m : Nat) : ∀ n, mvm S a m n < 2 ^ n
  | 0 => by show 0 < 1; decide
  | n + 1 => by
    have ih := mvm_lt S a m n
    have h : 2 ^ n < 2 ^ (n + 1) := Nat.pow_lt_pow_right (by decide) (by omega)
    unfold mvm
    split
    · exact Nat.or_lt_two_pow (by omega) h
    · omega
theorem mvm_bit (S : SP) (a m w : Nat) : ∀ n, (mvm S a m n).testBit w = (decide (w < n) && mvd S a m w)
  | 0 => by
    rw [decide_eq_false (Nat.not_lt_zero w), Bool.false_and]
    exact Nat.zero_testBit w
  | n + 1 => by
    have ih := mvm_bit S a m w n
    show (if mvd S a m n = true then mvm S a m n ||| 2 ^ n else mvm S a m n).testBit w = _
    by_cases e : w = n
    · subst e
      rw [decide_eq_false (Nat.lt_irrefl w), Bool.false_and] at ih
      rw [decide_eq_true (Nat.lt_succ_self w), Bool.true_and]
      cases h : mvd S a m w with
      | true => rw [if_pos rfl, or_bit, decide_eq_true rfl, Bool.or_true]
      | false => rw [if_neg (by decide)]; exact ih
    · have hd : (w < n) ↔ (w < n + 1) := by omega
      rw [← decide_eq_decide.mpr hd]
      cases h : mvd S a m n with
      | true => rw [if_pos rfl, or_bit, decide_eq_false (fun z => e z.symm), Bool.or_false]; exact ih
      | false => rw [if_neg (by decide)]; exact ih
theorem mvm_ct (S : SP) (a m n : Nat) : fb_ct (fun w => (mvm S a m n).testBit w) n = moveN S a m n := fb_ct_cong (fun w hw => by
  rw [mvm_bit, decide_eq_true hw, Bool.true_and]
  rfl)
theorem moveW_o (S : SP) (a b m w : Nat) : ∀ n, ol (moveW S a b m n) w = if w < n ∧ mvd S a m w = true then b else ol S w
  | 0 => by rw [if_neg (fun z => absurd z.1 (Nat.not_lt_zero w))]; rfl
  | n + 1 => by
    have ih := moveW_o S a b m w n
    show ol (if hd9 S n = 1 ∧ ol S n = a ∧ m.testBit (cw S n) = true then zN (zN (moveW S a b m n) 704 31 n b) 768 430 (nD S) _ else moveW S a b m n) w = _
    by_cases h : hd9 S n = 1 ∧ ol S n = a ∧ m.testBit (cw S n) = true
    · rw [if_pos h]
      show (zN (zN (moveW S a b m n) 704 31 n b) 768 430 (nD S) _).1 704 31 w = _
      rw [zN_f (by decide), zN_row]
      by_cases e : w = n
      · subst e
        rw [if_pos rfl, if_pos (show w < w + 1 ∧ mvd S a m w = true from ⟨Nat.lt_succ_self w, decide_eq_true h⟩)]
      · rw [if_neg e, show (moveW S a b m n).1 704 31 w = _ from ih]
        have hd : (w < n ∧ mvd S a m w = true) ↔ (w < n + 1 ∧ mvd S a m w = true) := ⟨fun z => ⟨by omega, z.2⟩, fun z => ⟨by have := z.1; omega, z.2⟩⟩
        simp only [hd]
    · rw [if_neg h, ih]
      have hd : (w < n ∧ mvd S a m w = true) ↔ (w < n + 1 ∧ mvd S a m w = true) := ⟨fun z => ⟨by omega, z.2⟩, fun z => ⟨by
        have h1 := z.1
        have h2 := of_decide_eq_true z.2
        by_cases e : w = n
        · subst e; exact absurd h2 h
        · omega, z.2⟩⟩
      simp only [hd]
theorem moveW_v (S : SP) (a b m j : Nat) : ∀ n, mv (moveW S a b m n) j = if j = nD S then mv S (nD S) ||| mvm S a m n else mv S j
  | 0 => by
    show mv S j = if j = nD S then mv S (nD S) ||| 0 else mv S j
    by_cases e : j = nD S
    · rw [if_pos e, Nat.or_zero, e]
    · rw [if_neg e]
  | n + 1 => by
    have ih := fun j => moveW_v S a b m j n
    show mv (if hd9 S n = 1 ∧ ol S n = a ∧ m.testBit (cw S n) = true then zN (zN (moveW S a b m n) 704 31 n b) 768 430 (nD S) (mv (moveW S a b m n) (nD S) ||| 2 ^ n) else moveW S a b m n) j = if j = nD S then mv S (nD S) ||| (if mvd S a m n = true then mvm S a m n ||| 2 ^ n else mvm S a m n) else mv S j
    by_cases h : hd9 S n = 1 ∧ ol S n = a ∧ m.testBit (cw S n) = true
    · rw [if_pos h, if_pos (show mvd S a m n = true from decide_eq_true h)]
      show (zN (zN (moveW S a b m n) 704 31 n b) 768 430 (nD S) (mv (moveW S a b m n) (nD S) ||| 2 ^ n)).1 768 430 j = _
      rw [zN_row]
      by_cases e : j = nD S
      · rw [if_pos e, if_pos e, show mv (moveW S a b m n) (nD S) = _ from ih (nD S), if_pos rfl, Nat.or_assoc]
      · rw [if_neg e, if_neg e]
        exact ((zN_f (by decide)).trans (ih j)).trans (if_neg e)
    · rw [if_neg h, if_neg (show ¬ mvd S a m n = true from fun z => h (of_decide_eq_true z))]
      exact ih j
theorem keepC_kp (S : SP) (its into j : Nat) : ∀ n, n ≤ 8 → (keepC S its into n).2 768 431 j = if 16 * nD S ≤ j ∧ j < 16 * nD S + n then xc9 S its (j - 16 * nD S) else if 16 * nD S + 8 ≤ j ∧ j < 16 * nD S + 8 + n then xc9 S into (j - (16 * nD S + 8)) else S.2 768 431 j
  | 0, _ => by rw [if_neg (by omega), if_neg (by omega)]; rfl
  | n + 1, h => by
    have ih := keepC_kp S its into j n (by omega)
    show (zR (zR (keepC S its into n) 768 431 (16 * nD S + n) (xc9 S its n)) 768 431 (16 * nD S + 8 + n) (xc9 S into n)).2 768 431 j = _
    rw [zR_row, zR_row, ih]
    by_cases e1 : j = 16 * nD S + 8 + n
    · rw [if_pos e1, if_neg (by omega), if_pos (by omega), show j - (16 * nD S + 8) = n by omega]
    · rw [if_neg e1]
      by_cases e2 : j = 16 * nD S + n
      · rw [if_pos e2, if_pos (by omega), show j - 16 * nD S = n by omega]
      · rw [if_neg e2]
        by_cases h1 : 16 * nD S ≤ j ∧ j < 16 * nD S + n
        · rw [if_pos h1, if_pos (by omega)]
        · rw [if_neg h1, if_neg (show ¬ (16 * nD S ≤ j ∧ j < 16 * nD S + (n + 1)) by omega)]
          by_cases h2 : 16 * nD S + 8 ≤ j ∧ j < 16 * nD S + 8 + n
          · rw [if_pos h2, if_pos (by omega)]
          · rw [if_neg h2, if_neg (by omega)]
section KPS
variable (S : SP) (m its into : Nat)
theorem kps_kp1 {d c : Nat} (hd : d ≤ nD S) (hc : c < 8) : kp (keeps9 S m its into) (16 * d + c) = if d = nD S then xc9 S its c else kp S (16 * d + c) := by
  unfold keeps9
  have k := keepC_kp (zN (zN (zN (zN S 832 27 (nD S) m) 704 38 (nD S) its) 704 39 (nD S) into) 768 430 (nD S) 0) its into (16 * d + c) 8 (Nat.le_refl _)
  refine k.trans ?_
  show (if 16 * nD S ≤ 16 * d + c ∧ 16 * d + c < 16 * nD S + 8 then xc9 S its (16 * d + c - 16 * nD S) else if 16 * nD S + 8 ≤ 16 * d + c ∧ 16 * d + c < 16 * nD S + 8 + 8 then xc9 S into (16 * d + c - (16 * nD S + 8)) else kp S (16 * d + c)) = _
  by_cases e : d = nD S
  · rw [if_pos e, if_pos (by omega), show 16 * d + c - 16 * nD S = c by omega]
  · rw [if_neg e, if_neg (by omega), if_neg (by omega)]
theorem kps_kp2 {d c : Nat} (hd : d ≤ nD S) (hc : c < 8) : kp (keeps9 S m its into) (16 * d + 8 + c) = if d = nD S then xc9 S into c else kp S (16 * d + 8 + c) := by
  unfold keeps9
  have k := keepC_kp (zN (zN (zN (zN S 832 27 (nD S) m) 704 38 (nD S) its) 704 39 (nD S) into) 768 430 (nD S) 0) its into (16 * d + 8 + c) 8 (Nat.le_refl _)
  refine k.trans ?_
  show (if 16 * nD S ≤ 16 * d + 8 + c ∧ 16 * d + 8 + c < 16 * nD S + 8 then xc9 S its (16 * d + 8 + c - 16 * nD S) else if 16 * nD S + 8 ≤ 16 * d + 8 + c ∧ 16 * d + 8 + c < 16 * nD S + 8 + 8 then xc9 S into (16 * d + 8 + c - (16 * nD S + 8)) else kp S (16 * d + 8 + c)) = _
  by_cases e : d = nD S
  · rw [if_pos e, if_neg (by omega), if_pos (by omega), show 16 * d + 8 + c - (16 * nD S + 8) = c by omega]
  · rw [if_neg e, if_neg (by omega), if_neg (by omega)]
theorem kps_im (d : Nat) : im (keeps9 S m its into) d = if d = nD S then m else im S d := by
  unfold keeps9
  show (keepC _ its into 8).1 832 27 d = _
  rw [keepC_N, zN_f (by decide), zN_f (by decide), zN_f (by decide), zN_row]
theorem kps_d1 (d : Nat) : d1 (keeps9 S m its into) d = if d = nD S then its else d1 S d := by
  unfold keeps9
  show (keepC _ its into 8).1 704 38 d = _
  rw [keepC_N, zN_f (by decide), zN_i (by decide), zN_row, zN_f (by decide)]
theorem kps_d2 (d : Nat) : d2 (keeps9 S m its into) d = if d = nD S then into else d2 S d := by
  unfold keeps9
  show (keepC _ its into 8).1 704 39 d = _
  rw [keepC_N, zN_f (by decide), zN_row, zN_i (by decide), zN_f (by decide)]
theorem kps_mv (d : Nat) : mv (keeps9 S m its into) d = if d = nD S then 0 else mv S d := by
  unfold keeps9
  show (keepC _ its into 8).1 768 430 d = _
  rw [keepC_N, zN_row, zN_f (by decide), zN_f (by decide), zN_f (by decide)]
end KPS
theorem mergeX_x (S : SP) {a b : Nat} (hab : a ≠ b) {l c : Nat} (hc : c < 8) : ∀ n, n ≤ 8 → xc9 (mergeX S a b n) l c = if c < n then (if l = a then none else if l = b then (if (xc9 S b c).isNone = true then xc9 S a c else xc9 S b c) else xc9 S l c) else xc9 S l c
  | 0, _ => by rw [if_neg (Nat.not_lt_zero c)]; rfl
  | n + 1, h => by
    have ih := mergeX_x S hab (l := l) hc n (by omega)
    show (zR (zR (mergeX S a b n) 768 412 (8 * b + n) (if (xc9 S b n).isNone then xc9 S a n else xc9 S b n)) 768 412 (8 * a + n) none).2 768 412 (8 * l + c) = _
    rw [zR_row, zR_row, show (mergeX S a b n).2 768 412 (8 * l + c) = _ from ih]
    by_cases e : c = n
    · subst e
      rw [if_neg (Nat.lt_irrefl c), if_pos (Nat.lt_succ_self c)]
      by_cases h1 : l = a
      · rw [if_pos (by omega), if_pos h1]
      · rw [if_neg (by omega), if_neg h1]
        by_cases h2 : l = b
        · rw [if_pos (by omega), if_pos h2]
        · rw [if_neg (by omega), if_neg h2]
    · rw [if_neg (by omega), if_neg (by omega)]
      have hd : (c < n) ↔ (c < n + 1) := by omega
      simp only [hd]
theorem splitX_x (S : SP) {a b m : Nat} (hab : a ≠ b) {l c : Nat} (hc : c < 8) : ∀ n, n ≤ 8 → xc9 (splitX S a b m n) l c = if c < n ∧ m.testBit c = true then (if l = a then none else if l = b then xc9 S a c else xc9 S l c) else xc9 S l c
  | 0, _ => by rw [if_neg (fun z => absurd z.1 (Nat.not_lt_zero c))]; rfl
  | n + 1, h => by
    have ih := splitX_x S hab (m := m) (l := l) hc n (by omega)
    show xc9 (if m.testBit n = true then zR (zR (splitX S a b m n) 768 412 (8 * b + n) (xc9 S a n)) 768 412 (8 * a + n) none else splitX S a b m n) l c = _
    by_cases hm : m.testBit n = true
    · rw [if_pos hm]
      show (zR (zR (splitX S a b m n) 768 412 (8 * b + n) (xc9 S a n)) 768 412 (8 * a + n) none).2 768 412 (8 * l + c) = _
      rw [zR_row, zR_row, show (splitX S a b m n).2 768 412 (8 * l + c) = _ from ih]
      by_cases e : c = n
      · subst e
        rw [if_neg (show ¬ (c < c ∧ m.testBit c = true) from fun z => absurd z.1 (Nat.lt_irrefl c)), if_pos (show c < c + 1 ∧ m.testBit c = true from ⟨Nat.lt_succ_self c, hm⟩)]
        by_cases h1 : l = a
        · rw [if_pos (by omega), if_pos h1]
        · rw [if_neg (by omega), if_neg h1]
          by_cases h2 : l = b
          · rw [if_pos (by omega), if_pos h2]
          · rw [if_neg (by omega), if_neg h2]
      · rw [if_neg (by omega), if_neg (by omega)]
        have hd : (c < n) ↔ (c < n + 1) := by omega
        simp only [hd]
    · rw [if_neg hm, ih]
      have hd : (c < n ∧ m.testBit c = true) ↔ (c < n + 1 ∧ m.testBit c = true) := ⟨fun z => ⟨by omega, z.2⟩, fun z => ⟨by
        have h1 := z.1
        by_cases e : c = n
        · subst e; exact absurd z.2 hm
        · omega, z.2⟩⟩
      simp only [hd]
def bck (S : SP) (d w : Nat) : Bool := if im S d = 1 then (mv S d).testBit w else decide (ol S w = d1 S d)
theorem backW_o (S : SP) (d w : Nat) : ∀ n, ol (backW S d n) w = if w < n ∧ bck S d w = true then (if im S d = 1 then d1 S d else d2 S d) else ol S w
  | 0 => by rw [if_neg (fun z => absurd z.1 (Nat.not_lt_zero w))]; rfl
  | n + 1 => by
    have ih := backW_o S d w n
    show ol (if bck S d n = true then zN (backW S d n) 704 31 n (if im S d = 1 then d1 S d else d2 S d) else backW S d n) w = _
    by_cases h : bck S d n = true
    · rw [if_pos h]
      show (zN (backW S d n) 704 31 n (if im S d = 1 then d1 S d else d2 S d)).1 704 31 w = _
      rw [zN_row]
      by_cases e : w = n
      · subst e
        rw [if_pos rfl, if_pos (show w < w + 1 ∧ bck S d w = true from ⟨Nat.lt_succ_self w, h⟩)]
      · rw [if_neg e, show (backW S d n).1 704 31 w = _ from ih]
        have hd : (w < n ∧ bck S d w = true) ↔ (w < n + 1 ∧ bck S d w = true) := ⟨fun z => ⟨by omega, z.2⟩, fun z => ⟨by have := z.1; omega, z.2⟩⟩
        simp only [hd]
    · rw [if_neg h, ih]
      have hd : (w < n ∧ bck S d w = true) ↔ (w < n + 1 ∧ bck S d w = true) := ⟨fun z => ⟨by omega, z.2⟩, fun z => ⟨by
        have h1 := z.1
        by_cases e : w = n
        · subst e; exact absurd z.2 h
        · omega, z.2⟩⟩
      simp only [hd]
theorem backX_x (S : SP) (d : Nat) {l c : Nat} (hc : c < 8) : ∀ n, n ≤ 8 → xc9 (backX S d n) l c = if c < n then (if l = d2 S d then kp S (16 * d + 8 + c) else if l = d1 S d then kp S (16 * d + c) else xc9 S l c) else xc9 S l c
  | 0, _ => by rw [if_neg (Nat.not_lt_zero c)]; rfl
  | n + 1, h => by
    have ih := backX_x S d (l := l) hc n (by omega)
    show (zR (zR (backX S d n) 768 412 (8 * d1 S d + n) (kp S (16 * d + n))) 768 412 (8 * d2 S d + n) (kp S (16 * d + 8 + n))).2 768 412 (8 * l + c) = _
    rw [zR_row, zR_row, show (backX S d n).2 768 412 (8 * l + c) = _ from ih]
    by_cases e : c = n
    · subst e
      rw [if_neg (Nat.lt_irrefl c), if_pos (Nat.lt_succ_self c)]
      by_cases h1 : l = d2 S d
      · rw [if_pos (by omega), if_pos h1]
      · rw [if_neg (by omega), if_neg h1]
        by_cases h2 : l = d1 S d
        · rw [if_pos (by omega), if_pos h2]
        · rw [if_neg (by omega), if_neg h2]
    · rw [if_neg (by omega), if_neg (by omega)]
      have hd : (c < n) ↔ (c < n + 1) := by omega
      simp only [hd]
