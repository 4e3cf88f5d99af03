/-! plain facts that the walks ask for -/
theorem sd_any {a : Nat} (h : a < 2 ^ 30) : (nI a - nI 2 = -1) ↔ a = 1 := by
  rw [← Int32.toInt_inj, pk_sub_toInt h (by decide)]
  have : (-1 : Int32).toInt = -1 := by decide
  rw [this]; omega
theorem sd_edge {a : Nat} (h : a < 2 ^ 30) : (nI a - nI 2 = -2) ↔ a = 0 := by
  rw [← Int32.toInt_inj, pk_sub_toInt h (by decide)]
  have : (-2 : Int32).toInt = -2 := by decide
  rw [this]; omega
theorem wi_none {a : Nat} (h : a < 2 ^ 30) : (nI a - nI 1 = -1) ↔ a = 0 := by
  rw [← Int32.toInt_inj, pk_sub_toInt h (by decide)]
  have : (-1 : Int32).toInt = -1 := by decide
  rw [this]; omega
theorem bool1 {b : Bool} : b.toNat = 1 ↔ b = true := by cases b <;> decide
theorem bool0 {b : Bool} : b.toNat = 0 ↔ b = false := by cases b <;> decide
theorem bool_lt (b : Bool) : b.toNat < 2 ^ 31 := by cases b <;> decide
theorem sh31 : ∀ r, r < 32 → ((nI r &&& 31 : Int32).toBitVec.smod 32).toNat = r := s_l
theorem bitI {a r : Nat} (ha : a < 2 ^ 31) (hr : r < 32) : (nI a >>> (nI r &&& 31)) &&& nI 1 = nI (a.testBit r).toNat := by
  rw [pk_shrN ha _ r (sh31 r hr), nx_and]
  refine congrArg nI ?_
  rw [Nat.and_one_is_mod, Nat.testBit_eq_decide_div_mod_eq]
  have := Nat.mod_two_eq_zero_or_one (a / 2 ^ r)
  rcases this with q | q <;> rw [q] <;> rfl
theorem shl1 {r : Nat} (hr : r < 31) : nI 1 <<< (nI r &&& 31) = nI (2 ^ r) := by
  have h : (2 : Nat) ^ r ≤ 2 ^ 30 := Nat.pow_le_pow_right (by decide) (by omega)
  rw [pk_shlN _ r (sh31 r (by omega)) (by omega), Nat.one_mul]
theorem nx_or (a b : Nat) : nI a ||| nI b = nI (a ||| b) := by
  apply Int32.toBitVec_inj.mp
  show (Int32.ofNat a ||| Int32.ofNat b).toBitVec = (Int32.ofNat (a ||| b)).toBitVec
  rw [Int32.toBitVec_or]
  show BitVec.ofNat 32 a ||| BitVec.ofNat 32 b = BitVec.ofNat 32 (a ||| b)
  exact (BitVec.ofNat_or).symm
theorem last_get {l : List Nat} : l.getLast? = l[l.length - 1]? := List.getLast?_eq_getElem?
theorem gol_succ {S : SP} {r : Nat} {row : List Nat} {k s : Nat} (hs : row[k]? = some s) : gol S r row (k + 1) = if met S r (gol S r row k).1.getLast? s row[k + 1]? = true then (if tu S r = 0 then ((gol S r row k).1, (gol S r row k).2 + 1) else if wi S (fe S s ^^^ tu S r) = 0 then ((gol S r row k).1 ++ [s], (gol S r row k).2) else ((gol S r row k).1 ++ [wi S (fe S s ^^^ tu S r) - 1], (gol S r row k).2 + 1)) else ((gol S r row k).1 ++ [s], (gol S r row k).2) := by
  show (match row[k]? with | none => _ | some s => _) = _
  rw [hs]
theorem nI_nm1 {a : Nat} (h : a < 2 ^ 31) : ¬ nI a = -1 := by
  intro q
  have := congrArg Int32.toInt q
  rw [nI_toInt h] at this
  have e : (-1 : Int32).toInt = -1 := by decide
  rw [e] at this; omega
theorem nI_nm1' {a : Nat} (h : a < 2 ^ 31) : ¬ -1 = nI a := fun q => nI_nm1 h q.symm
theorem sI_eq {σ : HS} {f i j : Nat} {v : Int32} : hI (sI σ f i j v) f i j = v := up3_eq
theorem sL_eq {σ : HS} {f i j : Nat} {v : Int64} : hL (sL σ f i j v) f i j = v := up3_eq
theorem sR_eq {σ : HS} {f i j : Nat} {v : Option Tg} : hR (sR σ f i j v) f i j = v := up3_eq
theorem encO_none {o : Option (List Nat)} (h : ∀ r, o = some r → okR r) : encO o = -1 ↔ o = none := by
  cases o with
  | none => exact ⟨fun _ => rfl, fun _ => rfl⟩
  | some r =>
    refine ⟨fun q => ?_, fun q => by cases q⟩
    have k := enc4_lt (h r rfl)
    have q' : lN (val4 r + 2 ^ 32 * r.length) = -1 := q
    have := congrArg Int64.toInt q'
    rw [pk_lT (by omega)] at this
    have e : (-1 : Int64).toInt = -1 := by decide
    rw [e] at this; omega
theorem posF_spec {S : SP} {r : Nat} : ∀ (n p : Nat), (∃ j, p ≤ j ∧ j < p + n ∧ orr S j = r) → p ≤ posF S r n p ∧ posF S r n p < p + n ∧ orr S (posF S r n p) = r ∧ ∀ j, p ≤ j → j < posF S r n p → orr S j ≠ r
  | 0, p, ⟨j, h1, h2, _⟩ => absurd h2 (by omega)
  | n + 1, p, ⟨j, h1, h2, h3⟩ => by
    unfold posF
    by_cases e : orr S p = r
    · rw [if_pos e]
      exact ⟨Nat.le_refl _, by omega, e, fun i h4 h5 => absurd h5 (by omega)⟩
    · rw [if_neg e]
      have hj : p + 1 ≤ j := by
        rcases Nat.lt_or_ge p j with q | q
        · exact q
        · have : j = p := by omega
          rw [this] at h3
          exact absurd h3 e
      obtain ⟨g1, g2, g3, g4⟩ := posF_spec n (p + 1) ⟨j, hj, by omega, h3⟩
      refine ⟨by omega, by omega, g3, fun i h4 h5 => ?_⟩
      by_cases q : i = p
      · rw [q]; exact e
      · exact g4 i (by omega) h5
theorem pos_spec {S : SP} (hw : WF S) {r : Nat} (hr : r < nR S) : pos9 S r < nR S ∧ orr S (pos9 S r) = r ∧ ∀ j, j < pos9 S r → orr S j ≠ r := by
  obtain ⟨j, h1, h2⟩ := fb_onto (f := orr S) (n := nR S) hw.2.1.2.2.1 (fun i j h1 h2 e => absurd (hw.2.1.2.2.2.1 i j (by omega) h2 e) (by omega)) hr
  obtain ⟨-, g2, g3, g4⟩ := posF_spec (S := S) (r := r) (nR S) 0 ⟨j, Nat.zero_le _, by omega, h2⟩
  exact ⟨by unfold pos9; omega, g3, fun i hi => g4 i (Nat.zero_le _) hi⟩
theorem toNat_if (b : Bool) : b.toNat = if b = true then 1 else 0 := by cases b <;> rfl
theorem all_cut {P : Nat → Bool} {w n : Nat} (h : (List.range w).all P = false) (hn : w ≤ n) : (List.range n).all P = false := by
  cases e : (List.range n).all P with
  | false => rfl
  | true =>
    rw [List.all_eq_true] at e
    have : (List.range w).all P = true := List.all_eq_true.mpr (fun x hx => e x (List.mem_range.mpr (Nat.lt_of_lt_of_le (List.mem_range.mp hx) hn)))
    rw [this] at h
    exact absurd h (by decide)
theorem all_succ {P : Nat → Bool} {w : Nat} : (List.range (w + 1)).all P = ((List.range w).all P && P w) := by
  rw [List.range_succ, List.all_append]
  simp
theorem heardIn_lt {S : SP} (hw : WF S) (l : Nat) : ∀ n, n ≤ nW S → heardIn S l n < 256
  | 0, _ => by show 0 < 256; decide
  | n + 1, h => by
    have ih := heardIn_lt hw l n (by omega)
    unfold heardIn
    split
    · have h8 := (hw.2.2.2.1.2.2 n (by omega)).2.1
      have h9 : 2 ^ cw S n < 2 ^ 8 := Nat.pow_lt_pow_right (by decide) h8
      exact Nat.or_lt_two_pow (n := 8) ih h9
    · exact ih
/-- nothing but the model's ints has changed -/
def MF (σ σ' : HS) : Prop := ME σ σ' ∧ σ'.2 = σ.2
theorem MF.rf {σ : HS} : MF σ σ := ⟨ME.rf, rfl⟩
theorem MF.tr {a b c : HS} (h : MF a b) (k : MF b c) : MF a c := ⟨h.1.tr k.1, k.2.trans h.2⟩
theorem MF.sI {σ0 σ : HS} (h : MF σ0 σ) {f i j : Nat} {v : Int32} (hm : mcol f i = true) : MF σ0 (sI σ f i j v) := ⟨h.1.sI hm, h.2⟩
def anyB (p : Nat → Bool) : Nat → Bool
  | 0 => false
  | n + 1 => anyB p n || p n
theorem anyB_iff {p : Nat → Bool} : ∀ {n : Nat}, anyB p n = true ↔ ∃ k, k < n ∧ p k = true
  | 0 => ⟨fun h => (by cases h), fun ⟨k, h, _⟩ => absurd h (Nat.not_lt_zero k)⟩
  | n + 1 => by
    unfold anyB
    rw [Bool.or_eq_true, anyB_iff]
    refine ⟨fun h => ?_, fun ⟨k, h1, h2⟩ => ?_⟩
    · rcases h with ⟨k, h1, h2⟩ | h
      · exact ⟨k, by omega, h2⟩
      · exact ⟨n, by omega, h⟩
    · by_cases e : k = n
      · subst e; exact Or.inr h2
      · exact Or.inl ⟨k, by omega, h2⟩
def shP (S : SP) (l c a b v w : Nat) : Bool := decide (hd9 S v = 1 ∧ hd9 S w = 1 ∧ ol S v = l ∧ ol S w = l ∧ cw S v = c ∧ cw S w = c ∧ sw S v = a ∧ sw S w = b ∧ hr S v = hr S w)
theorem isShared_any (S : SP) (l c a b : Nat) : isShared9 S l c a b = anyB (fun v => anyB (shP S l c a b v) (nW S)) (nW S) := by
  have : (isShared9 S l c a b = true) ↔ (anyB (fun v => anyB (shP S l c a b v) (nW S)) (nW S) = true) := by
    unfold isShared9
    rw [decide_eq_true_iff, anyB_iff]
    constructor
    · rintro ⟨v, h1, w, h2, h3⟩
      exact ⟨v, h1, anyB_iff.mpr ⟨w, h2, decide_eq_true h3⟩⟩
    · rintro ⟨v, h1, h2⟩
      obtain ⟨w, h3, h4⟩ := anyB_iff.mp h2
      exact ⟨v, h1, w, h3, of_decide_eq_true h4⟩
  cases e : isShared9 S l c a b <;> cases e2 : anyB (fun v => anyB (shP S l c a b v) (nW S)) (nW S) <;> first | rfl | (rw [e, e2] at this; simp at this)
/-- a bit of a long, by the shift that keeps the sign -/
theorem bitL {s k : Nat} (hs : s < 2 ^ 64) (hk : k < 64) : (lN s >>> ((nI k).toInt64 &&& 63)) &&& lN 1 = lN (s.testBit k).toNat := by
  apply Int64.toBitVec_inj.mp
  have e1 : ((nI k).toInt64 &&& 63).toBitVec.smod 64 = BitVec.ofNat 64 k := by rw [wb_c k hk, wb_tb, wb_sm k hk]
  show (lN s).toBitVec.sshiftRight (((nI k).toInt64 &&& 63).toBitVec.smod 64).toNat &&& (lN 1).toBitVec = (lN (s.testBit k).toNat).toBitVec
  rw [e1, wb_tb, wb_tb, wb_tb]
  have e2 : (BitVec.ofNat 64 k).toNat = k := by simp; omega
  rw [e2]
  apply BitVec.eq_of_getLsbD_eq
  intro i hi
  rw [BitVec.getLsbD_and, BitVec.getLsbD_sshiftRight]
  by_cases h0 : i = 0
  · subst h0
    have : (BitVec.ofNat 64 1).getLsbD 0 = true := by decide
    rw [this, Bool.and_true]
    simp only [Nat.add_zero, hk, ↓reduceIte]
    have e3 : (BitVec.ofNat 64 s).getLsbD k = s.testBit k := by
      rw [BitVec.getLsbD_ofNat]; simp [hk]
    simp only [show ¬ (64 ≤ 0) by decide, decide_false, Bool.not_false, Bool.true_and]
    rw [e3]
    cases s.testBit k <;> decide
  · have a1 : (BitVec.ofNat 64 1).getLsbD i = false := by
      rw [BitVec.getLsbD_ofNat]
      have : (1 : Nat).testBit i = false := by
        show (2 ^ 0).testBit i = false; rw [Nat.testBit_two_pow]; exact decide_eq_false (fun z => h0 z.symm)
      rw [this, Bool.and_false]
    have a2 : (BitVec.ofNat 64 (s.testBit k).toNat).getLsbD i = false := by
      rw [BitVec.getLsbD_ofNat]
      cases s.testBit k
      · simp
      · have : (1 : Nat).testBit i = false := by
          show (2 ^ 0).testBit i = false; rw [Nat.testBit_two_pow]; exact decide_eq_false (fun z => h0 z.symm)
        show (decide _ && (1 : Nat).testBit i) = false
        rw [this, Bool.and_false]
    rw [a1, a2, Bool.and_false]
def dfP (S : SP) (v w k : Nat) : Bool := decide ((hr S v)[k]? ≠ (hr S w)[k]?)
def mtP (S : SP) (v w a b k : Nat) : Bool := decide (((hr S v)[k]? = some a ∧ (hr S w)[k]? = some b) ∨ ((hr S v)[k]? = some b ∧ (hr S w)[k]? = some a))
theorem isPair_any (S : SP) (v w a b : Nat) : isPair9 S v w a b = (decide (hd9 S v = 1 ∧ hd9 S w = 1 ∧ ol S v ≠ ol S w ∧ (hr S v).length = (hr S w).length) && decide (fb_ct (dfP S v w) (hr S v).length = 1) && anyB (mtP S v w a b) (hr S v).length) := by
  have e : decide (∃ k, k < (hr S v).length ∧ (((hr S v)[k]? = some a ∧ (hr S w)[k]? = some b) ∨ ((hr S v)[k]? = some b ∧ (hr S w)[k]? = some a))) = anyB (mtP S v w a b) (hr S v).length := by
    have : (∃ k, k < (hr S v).length ∧ (((hr S v)[k]? = some a ∧ (hr S w)[k]? = some b) ∨ ((hr S v)[k]? = some b ∧ (hr S w)[k]? = some a))) ↔ anyB (mtP S v w a b) (hr S v).length = true := by
      rw [anyB_iff]
      constructor
      · rintro ⟨k, h1, h2⟩; exact ⟨k, h1, decide_eq_true h2⟩
      · rintro ⟨k, h1, h2⟩; exact ⟨k, h1, of_decide_eq_true h2⟩
    by_cases q : ∃ k, k < (hr S v).length ∧ (((hr S v)[k]? = some a ∧ (hr S w)[k]? = some b) ∨ ((hr S v)[k]? = some b ∧ (hr S w)[k]? = some a))
    · rw [decide_eq_true q, this.mp q]
    · rw [decide_eq_false q]
      cases z : anyB (mtP S v w a b) (hr S v).length with
      | false => rfl
      | true => exact absurd (this.mpr z) q
  unfold isPair9
  rw [e]
  rfl
/-- the sets of the fitting rows that are new -/
def newP (S : SP) (row : List Nat) (s : Nat) : Bool := fitset S s && decide (∀ k, k < s → fitset S k = true → der S k row ≠ der S s row)
theorem unl_succ (S : SP) (row : List Nat) (s : Nat) : unl S row (s + 1) = unl S row s + if newP S row s = true then 1 else 0 := rfl
theorem unl_le (S : SP) (row : List Nat) (s : Nat) : unl S row s ≤ s := fb_ct_le _ s
theorem lN_1_ne_0 : ¬ (lN 0 = lN 1) := by decide
