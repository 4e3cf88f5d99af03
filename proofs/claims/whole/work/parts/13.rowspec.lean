/-! rows of sounds: lists of numbers below 16, at most 8 long; the class writes them by fives of bits, the model by fours -/
def val5 : List Nat → Nat
  | [] => 0
  | a :: l => (a + 1) + 32 * val5 l
def val4 : List Nat → Nat
  | [] => 0
  | a :: l => a + 16 * val4 l
theorem val5_cons (a : Nat) (l : List Nat) : val5 (a :: l) = (a + 1) + 32 * val5 l := rfl
theorem val4_cons (a : Nat) (l : List Nat) : val4 (a :: l) = a + 16 * val4 l := rfl
def enc5 (l : List Nat) : Int64 := lN (val5 l)
def enc4 (l : List Nat) : Int64 := lN (val4 l + 2 ^ 32 * l.length)
/-- a row that is one: at most 8 sounds, each below 16 -/
def okR (l : List Nat) : Prop := l.length ≤ 8 ∧ ∀ s ∈ l, s < 16
/-- the code of a place: 0 behind the end -/
def cdO (o : Option Nat) : Nat := match o with
  | some s => s + 1
  | none => 0
def cd (l : List Nat) (p : Nat) : Nat := cdO l[p]?
theorem okR_nil : okR [] := ⟨by decide, fun _ h => nomatch h⟩
theorem okR_tail {a : Nat} {l : List Nat} (h : okR (a :: l)) : okR l := ⟨Nat.le_of_succ_le (by simpa using h.1), fun s hs => h.2 s (List.mem_cons_of_mem _ hs)⟩
theorem val5_lt : ∀ {l : List Nat}, (∀ s ∈ l, s < 16) → val5 l < 32 ^ l.length
  | [], _ => by decide
  | a :: l, h => by
    have h1 := val5_lt (l := l) (fun s hs => h s (List.mem_cons_of_mem _ hs))
    have h2 := h a List.mem_cons_self
    rw [List.length_cons, Nat.pow_succ]
    unfold val5
    omega
theorem val4_lt : ∀ {l : List Nat}, (∀ s ∈ l, s < 16) → val4 l < 16 ^ l.length
  | [], _ => by decide
  | a :: l, h => by
    have h1 := val4_lt (l := l) (fun s hs => h s (List.mem_cons_of_mem _ hs))
    have h2 := h a List.mem_cons_self
    rw [List.length_cons, Nat.pow_succ]
    unfold val4
    omega
theorem val5_40 {l : List Nat} (h : okR l) : val5 l < 2 ^ 40 := by
  have h1 := val5_lt h.2
  have h2 : 32 ^ l.length ≤ 32 ^ 8 := Nat.pow_le_pow_right (by decide) h.1
  have h3 : (32 : Nat) ^ 8 = 2 ^ 40 := by decide
  omega
theorem val4_32 {l : List Nat} (h : okR l) : val4 l < 2 ^ 32 := by
  have h1 := val4_lt h.2
  have h2 : 16 ^ l.length ≤ 16 ^ 8 := Nat.pow_le_pow_right (by decide) h.1
  have h3 : (16 : Nat) ^ 8 = 2 ^ 32 := by decide
  omega
theorem val5_zero {l : List Nat} : val5 l = 0 ↔ l = [] := by
  cases l with
  | nil => exact ⟨fun _ => rfl, fun _ => rfl⟩
  | cons a l => exact ⟨fun h => by unfold val5 at h; omega, fun h => by cases h⟩
theorem val5_cd : ∀ {l : List Nat} (p : Nat), (∀ s ∈ l, s < 16) → val5 l / 32 ^ p % 32 = cd l p
  | [], p, _ => by
    have e : val5 [] = 0 := rfl
    rw [e, Nat.zero_div]
    show 0 = cdO (([] : List Nat)[p]?)
    simp [cdO]
  | a :: l, 0, h => by
    have h2 := h a List.mem_cons_self
    show val5 (a :: l) / 32 ^ 0 % 32 = cdO ((a :: l)[0]?)
    rw [Nat.pow_zero, Nat.div_one]
    unfold val5
    simp only [List.getElem?_cons_zero, cdO]
    omega
  | a :: l, p + 1, h => by
    have h2 := h a List.mem_cons_self
    have ih := val5_cd (l := l) p (fun s hs => h s (List.mem_cons_of_mem _ hs))
    show val5 (a :: l) / 32 ^ (p + 1) % 32 = cdO ((a :: l)[p + 1]?)
    rw [List.getElem?_cons_succ, Nat.pow_succ, Nat.mul_comm (32 ^ p) 32, ← Nat.div_div_eq_div_mul]
    have e : val5 (a :: l) / 32 = val5 l := by rw [val5_cons]; omega
    rw [e]
    exact ih
theorem val5_drop : ∀ {l : List Nat} (p : Nat), (∀ s ∈ l, s < 16) → val5 l / 32 ^ p = val5 (l.drop p)
  | [], p, _ => by
    have e : val5 [] = 0 := rfl
    rw [List.drop_nil, e, Nat.zero_div]
  | a :: l, 0, _ => by rw [Nat.pow_zero, Nat.div_one, List.drop_zero]
  | a :: l, p + 1, h => by
    have h2 := h a List.mem_cons_self
    have ih := val5_drop (l := l) p (fun s hs => h s (List.mem_cons_of_mem _ hs))
    rw [List.drop_succ_cons, Nat.pow_succ, Nat.mul_comm (32 ^ p) 32, ← Nat.div_div_eq_div_mul]
    have e : val5 (a :: l) / 32 = val5 l := by rw [val5_cons]; omega
    rw [e]
    exact ih
theorem val5_inj : ∀ {l m : List Nat}, (∀ s ∈ l, s < 16) → (∀ s ∈ m, s < 16) → val5 l = val5 m → l = m
  | [], m, _, _, e => (val5_zero.mp e.symm).symm
  | a :: l, [], _, _, e => val5_zero.mp e
  | a :: l, b :: m, h, k, e => by
    have h2 := h a List.mem_cons_self
    have k2 := k b List.mem_cons_self
    unfold val5 at e
    have e1 : a = b := by omega
    have e2 : val5 l = val5 m := by omega
    rw [e1, val5_inj (fun s hs => h s (List.mem_cons_of_mem _ hs)) (fun s hs => k s (List.mem_cons_of_mem _ hs)) e2]
theorem val4_inj : ∀ {l m : List Nat}, (∀ s ∈ l, s < 16) → (∀ s ∈ m, s < 16) → l.length = m.length → val4 l = val4 m → l = m
  | [], [], _, _, _, _ => rfl
  | [], b :: m, _, _, e, _ => by simp at e
  | a :: l, [], _, _, e, _ => by simp at e
  | a :: l, b :: m, h, k, n, e => by
    have h2 := h a List.mem_cons_self
    have k2 := k b List.mem_cons_self
    unfold val4 at e
    have e1 : a = b := by omega
    have e2 : val4 l = val4 m := by omega
    rw [e1, val4_inj (fun s hs => h s (List.mem_cons_of_mem _ hs)) (fun s hs => k s (List.mem_cons_of_mem _ hs)) (by simpa using n) e2]
theorem val5_append : ∀ (l m : List Nat), val5 (l ++ m) = val5 l + 32 ^ l.length * val5 m
  | [], m => by
    have e : val5 [] = 0 := rfl
    rw [List.nil_append, e, List.length_nil, Nat.pow_zero]; omega
  | a :: l, m => by
    rw [List.cons_append, List.length_cons, Nat.pow_succ]
    rw [val5_cons, val5_cons, val5_append l m, Nat.mul_add, ← Nat.mul_assoc, Nat.mul_comm 32 (32 ^ l.length)]
    omega
theorem val4_append : ∀ (l m : List Nat), val4 (l ++ m) = val4 l + 16 ^ l.length * val4 m
  | [], m => by
    have e : val4 [] = 0 := rfl
    rw [List.nil_append, e, List.length_nil, Nat.pow_zero]; omega
  | a :: l, m => by
    rw [List.cons_append, List.length_cons, Nat.pow_succ]
    rw [val4_cons, val4_cons, val4_append l m, Nat.mul_add, ← Nat.mul_assoc, Nat.mul_comm 16 (16 ^ l.length)]
    omega
theorem val4_at : ∀ {l : List Nat} (p : Nat), (∀ s ∈ l, s < 16) → val4 l / 16 ^ p % 16 = (l[p]?).getD 0
  | [], p, _ => by
    have e : val4 [] = 0 := rfl
    rw [e, Nat.zero_div]
    simp
  | a :: l, 0, h => by
    have h2 := h a List.mem_cons_self
    rw [Nat.pow_zero, Nat.div_one]
    unfold val4
    simp only [List.getElem?_cons_zero, Option.getD_some]
    omega
  | a :: l, p + 1, h => by
    have h2 := h a List.mem_cons_self
    have ih := val4_at (l := l) p (fun s hs => h s (List.mem_cons_of_mem _ hs))
    rw [List.getElem?_cons_succ, Nat.pow_succ, Nat.mul_comm (16 ^ p) 16, ← Nat.div_div_eq_div_mul]
    have e : val4 (a :: l) / 16 = val4 l := by rw [val4_cons]; omega
    rw [e]
    exact ih
theorem enc5_inj {l m : List Nat} (h : okR l) (k : okR m) : enc5 l = enc5 m ↔ l = m := by
  refine ⟨fun e => val5_inj h.2 k.2 ?_, fun e => by rw [e]⟩
  have h1 := val5_40 h
  have h2 := val5_40 k
  exact (fb_lN_inj (by omega) (by omega)).mp e
theorem enc4_lt {l : List Nat} (h : okR l) : val4 l + 2 ^ 32 * l.length < 2 ^ 36 := by
  have h1 := val4_32 h
  have h2 := h.1
  omega
theorem enc4_inj {l m : List Nat} (h : okR l) (k : okR m) : enc4 l = enc4 m ↔ l = m := by
  refine ⟨fun e => ?_, fun e => by rw [e]⟩
  have h1 := val4_32 h
  have h2 := val4_32 k
  have h3 := enc4_lt h
  have h4 := enc4_lt k
  have e' := (fb_lN_inj (by omega) (by omega)).mp e
  have n : l.length = m.length := by omega
  exact val4_inj h.2 k.2 n (by omega)
theorem cd_lt {l : List Nat} (h : ∀ s ∈ l, s < 16) (p : Nat) : cd l p < 32 := by
  unfold cd cdO
  cases e : l[p]? with
  | none => decide
  | some s =>
    have := h s (List.mem_of_getElem? e)
    show s + 1 < 32
    omega
theorem cd_le {l : List Nat} (h : ∀ s ∈ l, s < 16) (p : Nat) : cd l p ≤ 16 := by
  unfold cd cdO
  cases e : l[p]? with
  | none => exact Nat.zero_le _
  | some s =>
    have := h s (List.mem_of_getElem? e)
    show s + 1 ≤ 16
    omega
/-- the class's reading of a place -/
theorem row5_at {l : List Nat} (h : okR l) {p : Nat} (hp : p < 8) : ((enc5 l).toUInt64 >>> ((nI (5 * p)).toInt64.toUInt64 &&& Int64.toUInt64 63)).toInt64.toInt32 &&& nI 31 = nI (cd l p) := by
  have h1 := val5_40 h
  unfold enc5
  rw [wb_shr (by omega) (by omega), lN_i]
  have e : (nI 31 : Int32).toBitVec.toNat = 2 ^ 5 - 1 := by decide
  have h3 : val5 l / 2 ^ (5 * p) < 2 ^ 40 := Nat.lt_of_le_of_lt (Nat.div_le_self _ _) h1
  rw [pk_and _ 5 e]
  have e2 : (nI (val5 l / 2 ^ (5 * p))).toBitVec.toNat % 2 ^ 5 = val5 l / 2 ^ (5 * p) % 2 ^ 5 := by
    have : (nI (val5 l / 2 ^ (5 * p))).toBitVec.toNat = val5 l / 2 ^ (5 * p) % 2 ^ 32 := by
      show (Int32.ofNat _).toBitVec.toNat = _
      simp
    rw [this]
    omega
  rw [e2]
  have e3 : (2 : Nat) ^ (5 * p) = 32 ^ p := by rw [Nat.pow_mul]
  rw [e3]
  exact congrArg nI (val5_cd p h.2)
theorem row5_shr {l : List Nat} (h : okR l) {p : Nat} (hp : p < 8) : ((enc5 l).toUInt64 >>> ((nI (5 * p)).toInt64.toUInt64 &&& Int64.toUInt64 63)).toInt64 = enc5 (l.drop p) := by
  have h1 := val5_40 h
  unfold enc5
  rw [wb_shr (by omega) (by omega)]
  have e3 : (2 : Nat) ^ (5 * p) = 32 ^ p := by rw [Nat.pow_mul]
  rw [e3, val5_drop p h.2]
theorem okR_drop {l : List Nat} (h : okR l) (p : Nat) : okR (l.drop p) := ⟨by rw [List.length_drop]; have := h.1; omega, fun s hs => h.2 s (List.mem_of_mem_drop hs)⟩
theorem enc5_nil {l : List Nat} (h : okR l) : enc5 l = lN 0 ↔ l = [] := enc5_inj h okR_nil
theorem okR_app {l m : List Nat} (h : ∀ s ∈ l, s < 16) (k : ∀ s ∈ m, s < 16) (n : l.length + m.length ≤ 8) : okR (l ++ m) := ⟨by rw [List.length_append]; exact n, fun s hs => (List.mem_append.mp hs).elim (h s) (k s)⟩
/-- the class's row with one sound more -/
theorem row5_with {l : List Nat} (h : okR l) {s : Nat} (hs : s < 16) (hn : l.length < 8) : enc5 l ||| (nI (s + 1)).toInt64 <<< ((nI (5 * l.length)).toInt64 &&& 63) = enc5 (l ++ [s]) := by
  have h1 := val5_lt h.2
  unfold enc5
  rw [nI_l (by omega), wb_shl _ (by omega), val5_append]
  have e : val5 [s] = s + 1 := by simp [val5]
  rw [e]
  have e3 : (2 : Nat) ^ (5 * l.length) = 32 ^ l.length := by rw [Nat.pow_mul]
  have h5 : 32 ^ l.length * (s + 1) < 2 ^ 63 := by
    have h6 : 32 ^ l.length ≤ 32 ^ 7 := Nat.pow_le_pow_right (by decide) (by omega)
    calc 32 ^ l.length * (s + 1) ≤ 32 ^ 7 * 16 := Nat.mul_le_mul h6 (by omega)
      _ < 2 ^ 63 := by decide
  rw [e3, Nat.mul_comm (s + 1)]
  have h7 : 32 ^ l.length ≤ 32 ^ 7 := Nat.pow_le_pow_right (by decide) (by omega)
  have h8 : (32 : Nat) ^ 7 < 2 ^ 36 := by decide
  have k := fb_or_sumL (a := val5 l) (k := 5 * l.length) (s + 1) (by rw [e3]; exact h1)
  rw [e3] at k
  rw [fb_orL, Nat.or_comm, ← fb_orL, k, Nat.add_comm]
/-- two rows of the class, one behind the other -/
theorem row5_join {l m : List Nat} (h : okR l) (k : okR m) (hl : l.length < 8) (hn : l.length + m.length ≤ 8) : enc5 l ||| enc5 m <<< ((nI (5 * l.length)).toInt64 &&& 63) = enc5 (l ++ m) := by
  have h1 := val5_lt h.2
  have h2 := val5_lt k.2
  unfold enc5
  rw [wb_shl _ (by omega), val5_append]
  have e3 : (2 : Nat) ^ (5 * l.length) = 32 ^ l.length := by rw [Nat.pow_mul]
  rw [e3, Nat.mul_comm (val5 m)]
  have k2 := fb_or_sumL (a := val5 l) (k := 5 * l.length) (val5 m) (by rw [e3]; exact h1)
  rw [e3] at k2
  rw [fb_orL, Nat.or_comm, ← fb_orL, k2, Nat.add_comm]
