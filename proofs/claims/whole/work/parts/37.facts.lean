/-! facts for the calls that change much -/
theorem side_enc {S : SP} {x : Int32} (hc : nC S ≤ 12) (h : isSide9 S x = true) : x = nI (sideN x) - nI 2 := by
  unfold sideN
  by_cases e : x = -1
  · rw [if_pos e, e]; rfl
  · rw [if_neg e]
    by_cases e2 : x = -2
    · rw [if_pos e2, e2]; rfl
    · rw [if_neg e2]
      unfold isSide9 at h
      rw [decide_eq_false e, decide_eq_false e2, Bool.false_or, Bool.false_or] at h
      have k := inI_t h
      exact k.2.trans (pk_sub (a := xN x + 2) (b := 2) (by omega)).symm
theorem bt_nI (n : Nat) {i : Nat} (hi : i < 32) : bt (nI n) i = n.testBit i := by
  unfold bt
  show (BitVec.ofNat 32 n).getLsbD i = _
  rw [BitVec.getLsbD_ofNat, decide_eq_true hi, Bool.true_and]
theorem clr_bit {s r : Nat} (h : s.testBit r = true) (j : Nat) : (s - 2 ^ r).testBit j = if j = r then false else s.testBit j := by
  have h1 : s / 2 ^ r % 2 = 1 := by rw [Nat.testBit_eq_decide_div_mod_eq] at h; exact of_decide_eq_true h
  have hm : s % 2 ^ r < 2 ^ r := Nat.mod_lt _ (Nat.two_pow_pos r)
  have e0 : s = 2 ^ r * (s / 2 ^ r) + s % 2 ^ r := (Nat.div_add_mod s (2 ^ r)).symm
  generalize s % 2 ^ r = m at hm e0
  generalize s / 2 ^ r = d at h1 e0
  have e1 : d = 2 * (d / 2) + 1 := by omega
  generalize d / 2 = q at e1
  have e2 : s = 2 ^ (r + 1) * q + (2 ^ r + m) := by
    rw [e0, e1, Nat.mul_add, Nat.mul_one, ← Nat.mul_assoc, ← Nat.pow_succ, Nat.add_assoc]
  have hp : 2 ^ (r + 1) = 2 ^ r + 2 ^ r := by rw [Nat.pow_succ]; omega
  have e3 : s - 2 ^ r = 2 ^ (r + 1) * q + m := by rw [e2]; generalize 2 ^ (r + 1) * q = z; omega
  rw [e3, e2, Nat.testBit_two_pow_mul_add _ (by omega), Nat.testBit_two_pow_mul_add _ (by omega)]
  by_cases hj : j = r
  · subst hj
    rw [if_pos rfl, if_pos (Nat.lt_succ_self _)]
    exact Nat.testBit_lt_two_pow hm
  · rw [if_neg hj]
    by_cases hl : j < r + 1
    · rw [if_pos hl, if_pos hl, Nat.testBit_two_pow_add_gt (by omega)]
    · rw [if_neg hl, if_neg hl]
theorem setOn_bit (s r : Nat) (b : Bool) (j : Nat) : (setOn s r b).testBit j = if j = r then b else s.testBit j := by
  unfold setOn
  cases b with
  | true =>
    show (s ||| 2 ^ r).testBit j = _
    rw [Nat.testBit_or, Nat.testBit_two_pow]
    by_cases e : j = r
    · rw [if_pos e, decide_eq_true e.symm, Bool.or_true]
    · rw [if_neg e, decide_eq_false (fun z => e z.symm), Bool.or_false]
  | false =>
    show (if s.testBit r = true then s - 2 ^ r else s).testBit j = _
    by_cases e2 : s.testBit r = true
    · rw [if_pos e2]; exact clr_bit e2 j
    · rw [if_neg e2]
      by_cases e : j = r
      · rw [if_pos e, e]; exact Bool.not_eq_true _ ▸ e2
      · rw [if_neg e]
theorem setOn_off {s r : Nat} (hr : r < 32) : nI s &&& (nI (2 ^ r) ^^^ (-1)) = nI (setOn s r false) := by
  apply b_ext
  intro i hi
  rw [b_and, b_xor, b_m1 i hi, bt_nI _ hi, bt_nI _ hi, bt_nI _ hi, setOn_bit, Nat.testBit_two_pow]
  by_cases e : i = r
  · rw [if_pos e, decide_eq_true e.symm]; simp
  · rw [if_neg e, decide_eq_false (fun z => e z.symm)]; simp
theorem setOn_id {s r : Nat} {b : Bool} : setOn s r b = s ↔ s.testBit r = b := by
  constructor
  · intro h
    have := setOn_bit s r b r
    rw [h, if_pos rfl] at this
    exact this
  · intro h
    refine Nat.eq_of_testBit_eq (fun j => ?_)
    rw [setOn_bit]
    by_cases e : j = r
    · rw [if_pos e, e, h]
    · rw [if_neg e]
theorem setOn_lt {s r n : Nat} {b : Bool} (hs : s < 2 ^ n) (hr : r < n) : setOn s r b < 2 ^ n := by
  unfold setOn
  cases b with
  | true => exact Nat.or_lt_two_pow hs (Nat.pow_lt_pow_right (by decide) hr)
  | false =>
    show (if s.testBit r = true then s - 2 ^ r else s) < _
    split
    · exact Nat.lt_of_le_of_lt (Nat.sub_le _ _) hs
    · exact hs
theorem nI_dec {p : Nat} (h : 1 ≤ p) : nI p + Int32.ofInt (-1) = nI (p - 1) := by
  have e : (Int32.ofInt (-1)) = -(nI 1) := by decide
  rw [e, ← Int32.sub_eq_add_neg]
  exact pk_sub h
theorem shlL {w : Nat} (h : w < 64) : lN 1 <<< ((nI w).toInt64 &&& 63) = lN (2 ^ w) := by rw [wb_shl _ h, Nat.one_mul]
/-! frames -/
theorem keepC_N (S : SP) (its into : Nat) : ∀ c, (keepC S its into c).1 = S.1
  | 0 => rfl
  | c + 1 => keepC_N S its into c
theorem keepC_R (S : SP) (its into : Nat) {f i : Nat} (h : ¬ (f = 768 ∧ i = 431)) (j : Nat) : ∀ c, (keepC S its into c).2 f i j = S.2 f i j
  | 0 => rfl
  | c + 1 => (zR_ne (fun e => h ⟨e.1, e.2.1⟩)).trans ((zR_ne (fun e => h ⟨e.1, e.2.1⟩)).trans (keepC_R S its into h j c))
theorem moveW_R (S : SP) (l into cells : Nat) : ∀ w, (moveW S l into cells w).2 = S.2
  | 0 => rfl
  | w + 1 => by
    unfold moveW
    split
    · exact moveW_R S l into cells w
    · exact moveW_R S l into cells w
theorem moveW_N (S : SP) (l into cells : Nat) {f i : Nat} (h1 : ¬ (f = 704 ∧ i = 31)) (h2 : ¬ (f = 768 ∧ i = 430)) (j : Nat) : ∀ w, (moveW S l into cells w).1 f i j = S.1 f i j
  | 0 => rfl
  | w + 1 => by
    unfold moveW
    split
    · exact (zN_ne (fun e => h2 ⟨e.1, e.2.1⟩)).trans ((zN_ne (fun e => h1 ⟨e.1, e.2.1⟩)).trans (moveW_N S l into cells h1 h2 j w))
    · exact moveW_N S l into cells h1 h2 j w
theorem moveW_ol (S : SP) (l into cells : Nat) {j : Nat} : ∀ w, w ≤ j → ol (moveW S l into cells w) j = ol S j
  | 0, _ => rfl
  | w + 1, h => by
    unfold moveW
    split
    · exact (zN_ne (fun e => absurd e.1 (by decide))).trans ((zN_ne (fun e => by have := e.2.2; omega)).trans (moveW_ol S l into cells w (by omega)))
    · exact moveW_ol S l into cells w (by omega)
theorem moveW_mv (S : SP) (l into cells : Nat) : ∀ w, w ≤ 40 → mv S (nD S) < 2 ^ 40 → mv (moveW S l into cells w) (nD S) < 2 ^ 40
  | 0, _, h => h
  | w + 1, h, h2 => by
    have ih := moveW_mv S l into cells w (by omega) h2
    unfold moveW
    split
    · have : mv (zN (zN (moveW S l into cells w) 704 31 w into) 768 430 (nD S) (mv (moveW S l into cells w) (nD S) ||| 2 ^ w)) (nD S) = (mv (moveW S l into cells w) (nD S) ||| 2 ^ w) := zN_eq
      rw [this]
      exact Nat.or_lt_two_pow ih (Nat.pow_lt_pow_right (by decide) (by omega))
    · exact ih
theorem mergeX_N (S : SP) (l into : Nat) : ∀ c, (mergeX S l into c).1 = S.1
  | 0 => rfl
  | c + 1 => mergeX_N S l into c
theorem mergeX_R (S : SP) (l into : Nat) {f i : Nat} (h : ¬ (f = 768 ∧ i = 412)) (j : Nat) : ∀ c, (mergeX S l into c).2 f i j = S.2 f i j
  | 0 => rfl
  | c + 1 => (zR_ne (fun e => h ⟨e.1, e.2.1⟩)).trans ((zR_ne (fun e => h ⟨e.1, e.2.1⟩)).trans (mergeX_R S l into h j c))
theorem mergeX_X (S : SP) (l into : Nat) {j : Nat} : ∀ c, (∀ d, d < c → j ≠ 8 * into + d ∧ j ≠ 8 * l + d) → (mergeX S l into c).2 768 412 j = S.2 768 412 j
  | 0, _ => rfl
  | c + 1, h => (zR_ne (fun e => (h c (Nat.lt_succ_self _)).2 e.2.2)).trans ((zR_ne (fun e => (h c (Nat.lt_succ_self _)).1 e.2.2)).trans (mergeX_X S l into c (fun d hd => h d (by omega))))
theorem splitX_N (S : SP) (l into cells : Nat) : ∀ c, (splitX S l into cells c).1 = S.1
  | 0 => rfl
  | c + 1 => by
    unfold splitX
    split
    · exact splitX_N S l into cells c
    · exact splitX_N S l into cells c
theorem splitX_R (S : SP) (l into cells : Nat) {f i : Nat} (h : ¬ (f = 768 ∧ i = 412)) (j : Nat) : ∀ c, (splitX S l into cells c).2 f i j = S.2 f i j
  | 0 => rfl
  | c + 1 => by
    unfold splitX
    split
    · exact (zR_ne (fun e => h ⟨e.1, e.2.1⟩)).trans ((zR_ne (fun e => h ⟨e.1, e.2.1⟩)).trans (splitX_R S l into cells h j c))
    · exact splitX_R S l into cells h j c
theorem splitX_X (S : SP) (l into cells : Nat) {j : Nat} : ∀ c, (∀ d, d < c → j ≠ 8 * into + d ∧ j ≠ 8 * l + d) → (splitX S l into cells c).2 768 412 j = S.2 768 412 j
  | 0, _ => rfl
  | c + 1, h => by
    unfold splitX
    split
    · exact (zR_ne (fun e => (h c (Nat.lt_succ_self _)).2 e.2.2)).trans ((zR_ne (fun e => (h c (Nat.lt_succ_self _)).1 e.2.2)).trans (splitX_X S l into cells c (fun d hd => h d (by omega))))
    · exact splitX_X S l into cells c (fun d hd => h d (by omega))
theorem backW_R (S : SP) (d : Nat) : ∀ w, (backW S d w).2 = S.2
  | 0 => rfl
  | w + 1 => by
    unfold backW
    by_cases e : (if im S d = 1 then (mv S d).testBit w else decide (ol S w = d1 S d)) = true
    · rw [if_pos e]; exact backW_R S d w
    · rw [if_neg e]; exact backW_R S d w
theorem backW_N (S : SP) (d : Nat) {f i : Nat} (h1 : ¬ (f = 704 ∧ i = 31)) (j : Nat) : ∀ w, (backW S d w).1 f i j = S.1 f i j
  | 0 => rfl
  | w + 1 => by
    unfold backW
    by_cases e : (if im S d = 1 then (mv S d).testBit w else decide (ol S w = d1 S d)) = true
    · rw [if_pos e]; exact (zN_ne (fun e => h1 ⟨e.1, e.2.1⟩)).trans (backW_N S d h1 j w)
    · rw [if_neg e]; exact backW_N S d h1 j w
theorem backW_ol (S : SP) (d : Nat) {j : Nat} : ∀ w, w ≤ j → ol (backW S d w) j = ol S j
  | 0, _ => rfl
  | w + 1, h => by
    unfold backW
    by_cases e : (if im S d = 1 then (mv S d).testBit w else decide (ol S w = d1 S d)) = true
    · rw [if_pos e]; exact (zN_ne (fun e => by have := e.2.2; omega)).trans (backW_ol S d w (by omega))
    · rw [if_neg e]; exact backW_ol S d w (by omega)
theorem backX_N (S : SP) (d : Nat) : ∀ c, (backX S d c).1 = S.1
  | 0 => rfl
  | c + 1 => backX_N S d c
theorem backX_R (S : SP) (d : Nat) {f i : Nat} (h : ¬ (f = 768 ∧ i = 412)) (j : Nat) : ∀ c, (backX S d c).2 f i j = S.2 f i j
  | 0 => rfl
  | c + 1 => (zR_ne (fun e => h ⟨e.1, e.2.1⟩)).trans ((zR_ne (fun e => h ⟨e.1, e.2.1⟩)).trans (backX_R S d h j c))
theorem nI_nar {m : Nat} (h : m ≤ 1) : narrow .boolean (.int (nI m)) = .int (nI m) := by
  rcases Nat.le_one_iff_eq_zero_or_eq_one.mp h with q | q <;> rw [q] <;> decide
theorem keeps9_N (S : SP) (m its into : Nat) {f i : Nat} (h1 : ¬ (f = 832 ∧ i = 27)) (h2 : ¬ (f = 704 ∧ i = 38)) (h3 : ¬ (f = 704 ∧ i = 39)) (h4 : ¬ (f = 768 ∧ i = 430)) (j : Nat) : (keeps9 S m its into).1 f i j = S.1 f i j := by
  unfold keeps9
  rw [keepC_N]
  exact (zN_ne (fun e => h4 ⟨e.1, e.2.1⟩)).trans ((zN_ne (fun e => h3 ⟨e.1, e.2.1⟩)).trans ((zN_ne (fun e => h2 ⟨e.1, e.2.1⟩)).trans (zN_ne (fun e => h1 ⟨e.1, e.2.1⟩))))
theorem keeps9_X (S : SP) (m its into : Nat) {f i : Nat} (h : ¬ (f = 768 ∧ i = 431)) (j : Nat) : (keeps9 S m its into).2 f i j = S.2 f i j := by
  unfold keeps9
  exact keepC_R _ its into h j 8
theorem keeps9_mv (S : SP) (m its into : Nat) : mv (keeps9 S m its into) (nD S) = 0 := by
  have : (keeps9 S m its into).1 = (zN (zN (zN (zN S 832 27 (nD S) m) 704 38 (nD S) its) 704 39 (nD S) into) 768 430 (nD S) 0).1 := keepC_N _ its into 8
  unfold mv
  rw [this]
  exact zN_eq
theorem moveN_eq {S T : SP} (l cells n : Nat) (h1 : ∀ w, hd9 T w = hd9 S w) (h2 : ∀ w, ol T w = ol S w) (h3 : ∀ w, cw T w = cw S w) : moveN T l cells n = moveN S l cells n := fb_ct_cong (fun k _ => by rw [h1, h2, h3])
theorem in_255 {y : Int32} : (decide (nI 1 ≤ y) && decide (y ≤ nI 255)) = (inI y 256 && decide (xN y ≠ 0)) := by
  have h1 : (nI 1 ≤ y) ↔ 1 ≤ y.toInt := by rw [Int32.le_iff_toInt_le, nI_toInt (by decide)]; rfl
  have h2 : (y ≤ nI 255) ↔ y.toInt < 256 := by rw [nI_le_iff y (by decide)]; omega
  have h3 : xN y ≠ 0 ↔ 1 ≤ y.toInt := by
    show y.toInt.toNat ≠ 0 ↔ _
    omega
  unfold inI
  have e1 : decide (nI 1 ≤ y) = decide (1 ≤ y.toInt) := decide_eq_decide.mpr h1
  have e2 : decide (y ≤ nI 255) = decide (y.toInt < ((256 : Nat) : Int)) := decide_eq_decide.mpr h2
  have e3 : decide (xN y ≠ 0) = decide (1 ≤ y.toInt) := decide_eq_decide.mpr h3
  rw [e1, e2, e3]
  by_cases q : 1 ≤ y.toInt
  · rw [decide_eq_true q, decide_eq_true (show 0 ≤ y.toInt by omega)]; simp
  · rw [decide_eq_false q]; simp
