/-! what the rules' calls rest on -/
theorem and31 {a : Nat} (h : a < 32) : a &&& 31 = a := (Nat.and_two_pow_sub_one_eq_mod a 5).trans (Nat.mod_eq_of_lt h)
theorem and63 {a : Nat} (h : a < 64) : a &&& 63 = a := (Nat.and_two_pow_sub_one_eq_mod a 6).trans (Nat.mod_eq_of_lt h)
def sideC (S : SP) (n j : Nat) : Bool := if n = 1 then true else if n = 0 then decide (j = 0) else kcod S (n - 2) j
theorem kcod_s {S : SP} {c s : Nat} (h : s < nS S) : kcod S c (s + 1) = isOf S s c := by
  unfold kcod
  rw [decide_eq_true ⟨by omega, by omega⟩, Bool.true_and, Nat.add_sub_cancel]
theorem kcod_0 {S : SP} {c : Nat} : kcod S c 0 = false := by
  unfold kcod
  rw [decide_eq_false (by omega), Bool.false_and]
theorem sideC_ok {S : SP} {n : Nat} {o : Option Nat} (h : ∀ a, o = some a → a < nS S) : sideC S n (cdO o) = okSide S n o := by
  unfold sideC okSide
  by_cases h1 : n = 1
  · rw [if_pos h1, if_pos h1]
  · rw [if_neg h1, if_neg h1]
    by_cases h0 : n = 0
    · rw [if_pos h0, if_pos h0]
      cases o with
      | none => rfl
      | some a => rfl
    · rw [if_neg h0, if_neg h0]
      cases o with
      | none => exact kcod_0
      | some a => exact kcod_s (h a rfl)
theorem sideT_3 (n : Nat) : sideT n = (3, (sideT n).2) := by
  unfold sideT
  by_cases h0 : n = 0
  · rw [if_pos h0]
  · rw [if_neg h0]
    by_cases h1 : n = 1
    · rw [if_pos h1]
    · rw [if_neg h1]
theorem KD.bt {S : SP} {σ : HS} {c j : Nat} (h : KD S σ c) (hj : j < 32) : bt (hI σ 194 c 0) j = kcod S c j := by
  obtain ⟨-, -, m, m1, m2, m3⟩ := h
  rw [m2, bt_nI m hj, m3]
theorem side_code {S : SP} {σ : HS} (h1 : PHf σ) (h2 : PHs S σ) {n j : Nat} (hn : n < nC S + 2) (hj : j < 32) : bt (hI σ 194 (sideT n).2 0) j = sideC S n j ∧ hV σ (3, (sideT n).2) = true := by
  obtain ⟨-, -, -, -, ⟨-, v1, e1⟩, ⟨-, v2, e2⟩, -⟩ := h1
  rw [← sideT_3]
  unfold sideT sideC
  by_cases h0 : n = 0
  · rw [if_pos h0, if_neg (by omega), if_pos h0]
    exact ⟨by rw [e2]; exact bt_1, v2⟩
  · rw [if_neg h0]
    by_cases h1 : n = 1
    · rw [if_pos h1, if_pos h1]
      exact ⟨by rw [e1]; exact b_m1 j hj, v1⟩
    · rw [if_neg h1, if_neg h1, if_neg h0]
      exact ⟨(h2.2.2.2.2.1 _ (by omega)).bt hj, h2.2.2.2.1.live (by omega)⟩
theorem met_code {S : SP} {r s : Nat} {o o2 : Option Nat} (hs : s < nS S) (ho : ∀ a, o = some a → a < nS S) (ho2 : ∀ a, o2 = some a → a < nS S) : (kcod S (ta S r) (s + 1) && sideC S (le9 S r) (cdO o) && sideC S (ri9 S r) (cdO o2)) = met S r o s o2 := by
  rw [kcod_s hs, sideC_ok ho, sideC_ok ho2]
  unfold met
  cases isOf S s (ta S r) <;> cases okSide S (le9 S r) o <;> cases okSide S (ri9 S r) o2 <;> rfl
def tcod (S : SP) (s u : Nat) : Nat := if u = 0 then 0 else if wi S (fe S s ^^^ u) = 0 then s + 1 else wi S (fe S s ^^^ u)
theorem cdO_le {o : Option Nat} {n : Nat} (h : ∀ a, o = some a → a < n) : cdO o ≤ n := by
  cases o with
  | none => exact Nat.zero_le _
  | some a => exact h a rfl
theorem gol_stay {S : SP} {r : Nat} {row : List Nat} : ∀ d, gol S r row (row.length + d) = gone S r row
  | 0 => rfl
  | d + 1 => by
    have : gol S r row (row.length + d + 1) = gol S r row (row.length + d) := by
      show (match row[row.length + d]? with | none => _ | some s => _) = _
      rw [List.getElem?_eq_none (by omega)]
    exact this.trans (gol_stay d)
theorem gol_end {S : SP} {r p : Nat} {row : List Nat} (h : row.length ≤ p) : gol S r row p = gone S r row := by
  have : p = row.length + (p - row.length) := by omega
  rw [this]
  exact gol_stay _
theorem last_app {l : List Nat} {s : Nat} : (l ++ [s]).getLast? = some s := by simp
theorem last_lt {l : List Nat} {n : Nat} (h : ∀ s ∈ l, s < n) : ∀ a, l.getLast? = some a → a < n := fun a ha => h a (List.mem_of_getLast? ha)
theorem get_lt {l : List Nat} {n p : Nat} (h : ∀ s ∈ l, s < n) : ∀ a, l[p]? = some a → a < n := fun a ha => h a (List.mem_of_getElem? ha)
/-- what a rule does to a row, for changesBy -/
def stepR (S : SP) (row : List Nat) (r : Nat) : Nat := if (on9 S).testBit r = true then (gone S r (derP S (on9 S) row (pos9 S r))).2 else 0
theorem derP_t {S : SP} {set p : Nat} {row : List Nat} (h : set.testBit (orr S p) = true) : derP S set row (p + 1) = (gone S (orr S p) (derP S set row p)).1 := if_pos h
theorem derP_f {S : SP} {set p : Nat} {row : List Nat} (h : set.testBit (orr S p) = false) : derP S set row (p + 1) = derP S set row p := if_neg (by rw [h]; decide)
theorem derP_cong {S : SP} {s t : Nat} {row : List Nat} : ∀ p, (∀ q, q < p → s.testBit (orr S q) = t.testBit (orr S q)) → derP S s row p = derP S t row p
  | 0, _ => rfl
  | p + 1, h => by
    have ih := derP_cong (row := row) p (fun q hq => h q (by omega))
    have e := h p (by omega)
    cases ht : t.testBit (orr S p) with
    | true => rw [derP_t ht, derP_t (e.trans ht), ih]
    | false => rw [derP_f ht, derP_f (e.trans ht), ih]
theorem sub_dec : ∀ s, s < 64 → ∀ d, d < 64 → (nI s &&& (nI d ^^^ (-1)) = 0 ↔ s &&& d = s) := by decide +kernel
theorem sub_iff {s d : Nat} : s &&& d = s ↔ ∀ j, s.testBit j = true → d.testBit j = true := by
  constructor
  · intro h j hj
    rw [← h, Nat.testBit_and, Bool.and_eq_true] at hj
    exact hj.2
  · intro h
    apply Nat.eq_of_testBit_eq
    intro j
    rw [Nat.testBit_and]
    cases e : s.testBit j with
    | false => rfl
    | true => rw [h j e]; rfl
theorem or_bit {s r j : Nat} : (s ||| 2 ^ r).testBit j = (s.testBit j || decide (r = j)) := by rw [Nat.testBit_or, Nat.testBit_two_pow]
theorem or_lt64 {s r : Nat} (hs : s < 64) (hr : r < 6) : s ||| 2 ^ r < 64 := Nat.or_lt_two_pow (n := 6) hs (Nat.pow_lt_pow_right (by decide) hr)
theorem bit_lt {s n j : Nat} (hs : s < 2 ^ n) (h : s.testBit j = true) : j < n := by
  rcases Nat.lt_or_ge j n with q | q
  · exact q
  · rw [Nat.testBit_lt_two_pow (Nat.lt_of_lt_of_le hs (Nat.pow_le_pow_right (by decide) q))] at h
    cases h
theorem lt_bits {s n : Nat} (h : ∀ j, s.testBit j = true → j < n) : s < 2 ^ n := by
  apply Nat.lt_pow_two_of_testBit
  intro i hi
  cases e : s.testBit i with
  | false => rfl
  | true => exact absurd (h i e) (by omega)
/-- the sets that are told of so far: the rules of the first p places -/
def dset (S : SP) (p d : Nat) : Prop := ∀ j, d.testBit j = true ↔ ∃ q, q < p ∧ orr S q = j
theorem dset_0 {S : SP} : dset S 0 0 := fun j => by
  rw [Nat.zero_testBit]
  exact ⟨fun h => (by cases h), fun ⟨q, h, _⟩ => absurd h (Nat.not_lt_zero q)⟩
theorem dset_succ {S : SP} {p d : Nat} (h : dset S p d) : dset S (p + 1) (d ||| 2 ^ orr S p) := fun j => by
  rw [or_bit, Bool.or_eq_true, decide_eq_true_eq, h j]
  constructor
  · rintro (⟨q, h1, h2⟩ | h1)
    · exact ⟨q, by omega, h2⟩
    · exact ⟨p, by omega, h1⟩
  · rintro ⟨q, h1, h2⟩
    by_cases e : q = p
    · subst e; exact Or.inr h2
    · exact Or.inl ⟨q, by omega, h2⟩
theorem dset_lt {S : SP} (hw : WF S) {p d : Nat} (hp : p ≤ nR S) (h : dset S p d) : d < 64 := by
  have : d < 2 ^ 6 := lt_bits (fun j hj => by
    obtain ⟨q, h1, h2⟩ := (h j).mp hj
    have := hw.2.1.2.2.1 q (by omega)
    have := hw.2.1.1
    omega)
  exact this
theorem dset_new {S : SP} (hw : WF S) {p d : Nat} (hp : p < nR S) (h : dset S p d) : d.testBit (orr S p) = false := by
  cases e : d.testBit (orr S p) with
  | false => rfl
  | true =>
    obtain ⟨q, h1, h2⟩ := (h _).mp e
    exact absurd (hw.2.1.2.2.2.1 q p (by omega) hp h2) (by omega)
theorem dset_all {S : SP} (hw : WF S) {d set : Nat} (h : dset S (nR S) d) (hs : set < 2 ^ nR S) : set &&& d = set := sub_iff.mpr (fun j hj => (h j).mpr (fb_onto (f := orr S) (n := nR S) hw.2.1.2.2.1 (fun i j h1 h2 e => absurd (hw.2.1.2.2.2.1 i j (by omega) h2 e) (by omega)) (bit_lt hs hj)))
/-- the set without the rule of place p is told of ahead, the one with it then -/
theorem dset_with {S : SP} (hw : WF S) {p d s : Nat} {row : List Nat} (hp : p < nR S) (h : dset S p d) (hs : s &&& d = s) : derP S (s ||| 2 ^ orr S p) row (p + 1) = (gone S (orr S p) (derP S s row p)).1 ∧ derP S s row (p + 1) = derP S s row p := by
  have hn := dset_new hw hp h
  have e1 : (s ||| 2 ^ orr S p).testBit (orr S p) = true := by rw [or_bit, decide_eq_true rfl, Bool.or_true]
  refine ⟨?_, derP_f (by
    cases e : s.testBit (orr S p) with
    | false => rfl
    | true => rw [sub_iff.mp hs _ e] at hn; cases hn)⟩
  rw [derP_t e1, derP_cong p (fun q hq => ?_)]
  rw [or_bit, decide_eq_false (fun z => absurd (hw.2.1.2.2.2.1 q p (by omega) hp z.symm) (by omega)), Bool.or_false]
theorem dset_cut {d s r : Nat} (hd : d.testBit r = false) (hs : s &&& (d ||| 2 ^ r) = s) : (s &&& d) &&& d = s &&& d ∧ (s.testBit r = true → (s &&& d) ||| 2 ^ r = s) ∧ (s.testBit r = false → s &&& d = s) := by
  have key : ∀ j, j ≠ r → (s &&& d).testBit j = s.testBit j := fun j hj => by
    rw [Nat.testBit_and]
    cases e : s.testBit j with
    | false => rfl
    | true =>
      have := sub_iff.mp hs j e
      rw [or_bit, decide_eq_false (fun z => hj z.symm), Bool.or_false] at this
      rw [this]; rfl
  have keyr : (s &&& d).testBit r = false := by rw [Nat.testBit_and, hd, Bool.and_false]
  refine ⟨by rw [Nat.and_assoc, Nat.and_self], fun h => ?_, fun h => ?_⟩
  · apply Nat.eq_of_testBit_eq
    intro j
    rw [or_bit]
    by_cases e : j = r
    · subst e; rw [decide_eq_true rfl, Bool.or_true, h]
    · rw [decide_eq_false (fun z => e z.symm), Bool.or_false, key j e]
  · apply Nat.eq_of_testBit_eq
    intro j
    by_cases e : j = r
    · subst e; rw [keyr, h]
    · exact key j e
theorem or_inj {s t d r : Nat} (hd : d.testBit r = false) (hs : s &&& d = s) (ht : t &&& d = t) (h : s ||| 2 ^ r = t ||| 2 ^ r) : s = t := by
  apply Nat.eq_of_testBit_eq
  intro j
  by_cases e : j = r
  · subst e
    have a : s.testBit j = false := by
      cases e2 : s.testBit j with
      | false => rfl
      | true => rw [sub_iff.mp hs _ e2] at hd; cases hd
    have b : t.testBit j = false := by
      cases e2 : t.testBit j with
      | false => rfl
      | true => rw [sub_iff.mp ht _ e2] at hd; cases hd
    rw [a, b]
  · have k := congrArg (fun z => z.testBit j) h
    rw [or_bit, or_bit, decide_eq_false (fun z => e z.symm), Bool.or_false, Bool.or_false] at k
    exact k
theorem or_ne {s t d r : Nat} (hd : d.testBit r = false) (ht : t &&& d = t) : t ≠ s ||| 2 ^ r := fun z => by
  have : (s ||| 2 ^ r).testBit r = true := by rw [or_bit, decide_eq_true rfl, Bool.or_true]
  rw [← z] at this
  rw [sub_iff.mp ht _ this] at hd
  cases hd
