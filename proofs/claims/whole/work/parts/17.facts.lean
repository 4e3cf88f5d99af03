/-! plain facts that the walks ask for -/
theorem sd_any {a : Nat} (h : a < 2 ^ 30) : (nI a - nI 2 = -1) ↔ a = 1 := by
  rw [← Int32.toInt_inj, pk_sub_toInt h (by decide)]
  have : (-1 : Int32).toInt = -1 := by decide
  rw [this]; omega
theorem sd_edge {a : Nat} (h : a < 2 ^ 30) : (nI a - nI 2 = -2) ↔ a = 0 := by
  rw [← Int32.toInt_inj, pk_sub_toInt h (by decide)]
  have : (-2 : Int32).toInt = -2 := by decide
  rw [this]; omega
theorem wi_none {a : Nat} (h : a < 2 ^ 30) : (nI a - nI 1 = -1) ↔ a = 0 := by
  rw [← Int32.toInt_inj, pk_sub_toInt h (by decide)]
  have : (-1 : Int32).toInt = -1 := by decide
  rw [this]; omega
theorem bool1 {b : Bool} : b.toNat = 1 ↔ b = true := by cases b <;> decide
theorem bool0 {b : Bool} : b.toNat = 0 ↔ b = false := by cases b <;> decide
theorem bool_lt (b : Bool) : b.toNat < 2 ^ 31 := by cases b <;> decide
theorem sh31 : ∀ r, r < 32 → ((nI r &&& 31 : Int32).toBitVec.smod 32).toNat = r := s_l
theorem bitI {a r : Nat} (ha : a < 2 ^ 31) (hr : r < 32) : (nI a >>> (nI r &&& 31)) &&& nI 1 = nI (a.testBit r).toNat := by
  rw [pk_shrN ha _ r (sh31 r hr), nx_and]
  refine congrArg nI ?_
  rw [Nat.and_one_is_mod, Nat.testBit_eq_decide_div_mod_eq]
  have := Nat.mod_two_eq_zero_or_one (a / 2 ^ r)
  rcases this with q | q <;> rw [q] <;> rfl
theorem shl1 {r : Nat} (hr : r < 31) : nI 1 <<< (nI r &&& 31) = nI (2 ^ r) := by
  have h : (2 : Nat) ^ r ≤ 2 ^ 30 := Nat.pow_le_pow_right (by decide) (by omega)
  rw [pk_shlN _ r (sh31 r (by omega)) (by omega), Nat.one_mul]
theorem nx_or (a b : Nat) : nI a ||| nI b = nI (a ||| b) := by
  apply Int32.toBitVec_inj.mp
  show (Int32.ofNat a ||| Int32.ofNat b).toBitVec = (Int32.ofNat (a ||| b)).toBitVec
  rw [Int32.toBitVec_or]
  show BitVec.ofNat 32 a ||| BitVec.ofNat 32 b = BitVec.ofNat 32 (a ||| b)
  exact (BitVec.ofNat_or).symm
theorem last_get {l : List Nat} : l.getLast? = l[l.length - 1]? := List.getLast?_eq_getElem?
theorem gol_succ {S : SP} {r : Nat} {row : List Nat} {k s : Nat} (hs : row[k]? = some s) : gol S r row (k + 1) = if met S r (gol S r row k).1.getLast? s row[k + 1]? = true then (if tu S r = 0 then ((gol S r row k).1, (gol S r row k).2 + 1) else if wi S (fe S s ^^^ tu S r) = 0 then ((gol S r row k).1 ++ [s], (gol S r row k).2) else ((gol S r row k).1 ++ [wi S (fe S s ^^^ tu S r) - 1], (gol S r row k).2 + 1)) else ((gol S r row k).1 ++ [s], (gol S r row k).2) := by
  show (match row[k]? with | none => _ | some s => _) = _
  rw [hs]
theorem nI_nm1 {a : Nat} (h : a < 2 ^ 31) : ¬ nI a = -1 := by
  intro q
  have := congrArg Int32.toInt q
  rw [nI_toInt h] at this
  have e : (-1 : Int32).toInt = -1 := by decide
  rw [e] at this; omega
theorem nI_nm1' {a : Nat} (h : a < 2 ^ 31) : ¬ -1 = nI a := fun q => nI_nm1 h q.symm
theorem sI_eq {σ : HS} {f i j : Nat} {v : Int32} : hI (sI σ f i j v) f i j = v := up3_eq
theorem sL_eq {σ : HS} {f i j : Nat} {v : Int64} : hL (sL σ f i j v) f i j = v := up3_eq
theorem sR_eq {σ : HS} {f i j : Nat} {v : Option Tg} : hR (sR σ f i j v) f i j = v := up3_eq
