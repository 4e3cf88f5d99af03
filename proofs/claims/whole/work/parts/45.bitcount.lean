/-! how many bits a number has, as the library counts them -/
def cnt (n : Nat) : Nat → Nat
  | 0 => 0
  | k + 1 => n % 2 + cnt (n / 2) k
theorem cnt_ct : ∀ (k n : Nat), cnt n k = fb_ct (fun i => n.testBit i) k := by
  intro k
  induction k with
  | zero => intro n; rfl
  | succ k ih =>
    intro n
    show n % 2 + cnt (n / 2) k = _
    rw [ih, show k + 1 = 1 + k by omega, fb_ct_split]
    have e0 : fb_ct (fun i => n.testBit i) 1 = n % 2 := by
      show 0 + (if n.testBit 0 = true then 1 else 0) = n % 2
      rw [Nat.testBit_zero]
      by_cases q : n % 2 = 1
      · rw [decide_eq_true q, if_pos rfl, q]
      · rw [decide_eq_false q, if_neg (by decide)]; omega
    rw [e0]
    refine congrArg (fun z => n % 2 + z) (fb_ct_cong (fun i _ => ?_))
    rw [Nat.add_comm 1 i, Nat.testBit_succ]
/-- n fields of d in a base b -/
def rep (b d : Nat) : Nat → Nat
  | 0 => 0
  | n + 1 => b * rep b d n + d
theorem and_split {w : Nat} (q r Q R : Nat) (hr : r < 2 ^ w) (hR : R < 2 ^ w) : (2 ^ w * q + r) &&& (2 ^ w * Q + R) = 2 ^ w * (q &&& Q) + (r &&& R) := by
  have hrR : r &&& R < 2 ^ w := Nat.lt_of_le_of_lt Nat.and_le_left hr
  refine Nat.eq_of_testBit_eq (fun j => ?_)
  rw [Nat.testBit_and, Nat.testBit_two_pow_mul_add _ hr, Nat.testBit_two_pow_mul_add _ hR, Nat.testBit_two_pow_mul_add _ hrR]
  split
  · rw [Nat.testBit_and]
  · rw [Nat.testBit_and]
/-- fields of two bits: how many -/
def f2 (x : Nat) : Nat → Nat
  | 0 => 0
  | n + 1 => 4 * f2 (x / 4) n + cnt x 2
theorem s1_eq : ∀ (n x : Nat), x < 4 ^ n → (x / 2) &&& rep 4 1 n ≤ x ∧ x - ((x / 2) &&& rep 4 1 n) = f2 x n := by
  intro n
  induction n with
  | zero => intro x h; have : x = 0 := by omega
            subst this; exact ⟨by decide, by decide⟩
  | succ n ih =>
    intro x h
    have h4 : 4 ^ (n + 1) = 4 * 4 ^ n := by rw [Nat.pow_succ, Nat.mul_comm]
    obtain ⟨i1, i2⟩ := ih (x / 4) (by omega)
    have e : (x / 2) &&& rep 4 1 (n + 1) = 4 * ((x / 4 / 2) &&& rep 4 1 n) + x / 2 % 2 := by
      have ex : x / 2 = 2 ^ 2 * (x / 4 / 2) + x / 2 % 4 := by omega
      have k := and_split (w := 2) (x / 4 / 2) (x / 2 % 4) (rep 4 1 n) 1 (by show _ < 4; omega) (by decide)
      rw [← ex] at k
      refine k.trans ?_
      rw [Nat.and_one_is_mod]
      show 4 * _ + x / 2 % 4 % 2 = _
      omega
    rw [e]
    show _ ∧ _ = 4 * f2 (x / 4) n + (x % 2 + (x / 2 % 2 + 0))
    omega
def f4 (x : Nat) : Nat → Nat
  | 0 => 0
  | n + 1 => 16 * f4 (x / 16) n + cnt x 4
theorem cnt_add : ∀ (a b x : Nat), cnt x (a + b) = cnt x a + cnt (x / 2 ^ a) b
  | 0, b, x => by rw [Nat.zero_add, Nat.pow_zero, Nat.div_one]; show _ = 0 + _; omega
  | a + 1, b, x => by
    rw [show a + 1 + b = (a + b) + 1 by omega]
    show x % 2 + cnt (x / 2) (a + b) = x % 2 + cnt (x / 2) a + _
    rw [cnt_add a b (x / 2), Nat.div_div_eq_div_mul, Nat.pow_succ, Nat.mul_comm (2 ^ a) 2, Nat.add_assoc]
theorem cnt_le (x : Nat) : ∀ k, cnt x k ≤ k := fun k => by rw [cnt_ct]; exact fb_ct_le _ k
theorem f2_two (x n : Nat) : f2 x (n + 2) = 16 * f2 (x / 16) n + 4 * cnt (x / 4) 2 + cnt x 2 := by
  show 4 * (4 * f2 (x / 4 / 4) n + cnt (x / 4) 2) + cnt x 2 = _
  rw [show x / 4 / 4 = x / 16 by omega]; omega
theorem s2_eq : ∀ (n x : Nat), (f2 x (2 * n) &&& rep 16 3 n) + ((f2 x (2 * n) / 4) &&& rep 16 3 n) = f4 x n := by
  intro n
  induction n with
  | zero => intro x; exact (by decide : (0 &&& 0) + ((0 / 4) &&& 0) = 0)
  | succ n ih =>
    intro x
    have e := f2_two x (2 * n)
    rw [show 2 * (n + 1) = 2 * n + 2 by omega, e]
    have i1 := ih (x / 16)
    generalize f2 (x / 16) (2 * n) = y at i1
    have a1 := cnt_le x 2
    have b1 := cnt_le (x / 4) 2
    have c4 : cnt x 4 = cnt x 2 + cnt (x / 4) 2 := cnt_add 2 2 x
    show _ = 16 * f4 (x / 16) n + cnt x 4
    rw [c4, ← i1]
    generalize cnt x 2 = a at a1
    generalize cnt (x / 4) 2 = b at b1
    have m3 : ∀ z, z < 16 → z &&& 3 = z % 4 := fun z _ => Nat.and_two_pow_sub_one_eq_mod z 2
    have k1 := and_split (w := 4) y (4 * b + a) (rep 16 3 n) 3 (by show _ < 16; omega) (by decide)
    have k2 := and_split (w := 4) (y / 4) (4 * (y % 4) + b) (rep 16 3 n) 3 (by show _ < 16; omega) (by decide)
    rw [m3 _ (by omega)] at k1 k2
    have x1 : 16 * y + 4 * b + a = 2 ^ 4 * y + (4 * b + a) := by omega
    have x2 : (16 * y + 4 * b + a) / 4 = 2 ^ 4 * (y / 4) + (4 * (y % 4) + b) := by omega
    have r1 : rep 16 3 (n + 1) = 2 ^ 4 * rep 16 3 n + 3 := rfl
    rw [x2, r1, k2, x1, k1]
    omega
def f8 (x : Nat) : Nat → Nat
  | 0 => 0
  | n + 1 => 256 * f8 (x / 256) n + cnt x 8
theorem f4_two (x n : Nat) : f4 x (n + 2) = 256 * f4 (x / 256) n + 16 * cnt (x / 16) 4 + cnt x 4 := by
  show 16 * (16 * f4 (x / 16 / 16) n + cnt (x / 16) 4) + cnt x 4 = _
  rw [show x / 16 / 16 = x / 256 by omega]; omega
theorem f4_low (x : Nat) : ∀ n, f4 x n % 16 ≤ 4
  | 0 => by show 0 % 16 ≤ 4; decide
  | n + 1 => by
    have := cnt_le x 4
    show (16 * _ + cnt x 4) % 16 ≤ 4
    omega
theorem s3_eq : ∀ (n x : Nat), (f4 x (2 * n) + f4 x (2 * n) / 16) &&& rep 256 15 n = f8 x n := by
  intro n
  induction n with
  | zero => intro x; exact (by decide : (0 + 0 / 16) &&& 0 = 0)
  | succ n ih =>
    intro x
    have e := f4_two x (2 * n)
    rw [show 2 * (n + 1) = 2 * n + 2 by omega, e]
    have i1 := ih (x / 256)
    have l1 := f4_low (x / 256) (2 * n)
    generalize f4 (x / 256) (2 * n) = y at i1 l1
    have a1 := cnt_le x 4
    have b1 := cnt_le (x / 16) 4
    have c8 : cnt x 8 = cnt x 4 + cnt (x / 16) 4 := cnt_add 4 4 x
    show _ = 256 * f8 (x / 256) n + cnt x 8
    rw [c8, ← i1]
    generalize cnt x 4 = a at a1
    generalize cnt (x / 16) 4 = b at b1
    have x1 : (256 * y + 16 * b + a) + (256 * y + 16 * b + a) / 16 = 2 ^ 8 * (y + y / 16) + (16 * (b + y % 16) + (a + b)) := by omega
    have k1 := and_split (w := 8) (y + y / 16) (16 * (b + y % 16) + (a + b)) (rep 256 15 n) 15 (by show _ < 256; omega) (by decide)
    have m15 : (16 * (b + y % 16) + (a + b)) &&& 15 = a + b := (Nat.and_two_pow_sub_one_eq_mod _ 4).trans (by show _ % 16 = _; omega)
    rw [m15] at k1
    have r1 : rep 256 15 (n + 1) = 2 ^ 8 * rep 256 15 n + 15 := rfl
    rw [x1, r1, k1]
theorem s4_eq (x : Nat) : ∃ c0 c1 c2 c3 c4 c5 c6 c7 : Nat, c0 ≤ 8 ∧ c1 ≤ 8 ∧ c2 ≤ 8 ∧ c3 ≤ 8 ∧ c4 ≤ 8 ∧ c5 ≤ 8 ∧ c6 ≤ 8 ∧ c7 ≤ 8 ∧ f8 x 8 = c0 + 256 * (c1 + 256 * (c2 + 256 * (c3 + 256 * (c4 + 256 * (c5 + 256 * (c6 + 256 * c7)))))) ∧ cnt x 64 = c0 + c1 + c2 + c3 + c4 + c5 + c6 + c7 := by
  refine ⟨cnt x 8, cnt (x / 256) 8, cnt (x / 256 / 256) 8, cnt (x / 256 / 256 / 256) 8, cnt (x / 256 / 256 / 256 / 256) 8, cnt (x / 256 / 256 / 256 / 256 / 256) 8, cnt (x / 256 / 256 / 256 / 256 / 256 / 256) 8, cnt (x / 256 / 256 / 256 / 256 / 256 / 256 / 256) 8, cnt_le _ _, cnt_le _ _, cnt_le _ _, cnt_le _ _, cnt_le _ _, cnt_le _ _, cnt_le _ _, cnt_le _ _, ?_, ?_⟩
  · show 256 * (256 * (256 * (256 * (256 * (256 * (256 * (256 * 0 + _) + _) + _) + _) + _) + _) + _) + _ = _
    omega
  · have s : ∀ m y, cnt y (8 + m) = cnt y 8 + cnt (y / 256) m := fun m y => cnt_add 8 m y
    rw [show (64 : Nat) = 8 + (8 + (8 + (8 + (8 + (8 + (8 + 8)))))) by decide, s, s, s, s, s, s, s]
    omega
theorem s5_eq (x w t u : Nat) (hw : w = f8 x 8) (ht : t = w + w / 256) (hu : u = t + t / 65536) : (u + u / 4294967296) % 128 = cnt x 64 := by
  obtain ⟨c0, c1, c2, c3, c4, c5, c6, c7, g0, g1, g2, g3, g4, g5, g6, g7, h1, h2⟩ := s4_eq x
  rw [h2]
  rw [h1] at hw
  have t1 : t = (c0 + c1) + 256 * ((c1 + c2) + 256 * ((c2 + c3) + 256 * ((c3 + c4) + 256 * ((c4 + c5) + 256 * ((c5 + c6) + 256 * ((c6 + c7) + 256 * c7)))))) := by omega
  have u1 : u = (c0 + c1 + c2 + c3) + 256 * ((c1 + c2 + c3 + c4) + 256 * ((c2 + c3 + c4 + c5) + 256 * ((c3 + c4 + c5 + c6) + 256 * ((c4 + c5 + c6 + c7) + 256 * ((c5 + c6 + c7) + 256 * ((c6 + c7) + 256 * c7)))))) := by omega
  have v1 : u / 4294967296 = (c4 + c5 + c6 + c7) + 256 * ((c5 + c6 + c7) + 256 * ((c6 + c7) + 256 * c7)) := by omega
  rw [v1, u1]
  generalize (c1 + c2 + c3 + c4) + 256 * ((c2 + c3 + c4 + c5) + 256 * ((c3 + c4 + c5 + c6) + 256 * ((c4 + c5 + c6 + c7) + 256 * ((c5 + c6 + c7) + 256 * ((c6 + c7) + 256 * c7))))) = A
  generalize (c5 + c6 + c7) + 256 * ((c6 + c7) + 256 * c7) = B
  omega
/-- the shapes of the long's steps are rows of fields -/
theorem rpb1 : rep 4 1 32 = 6148914691236517205 := by decide +kernel
theorem rpb2 : rep 16 3 16 = 3689348814741910323 := by decide +kernel
theorem rpb3 : rep 256 15 8 = 1085102592571150095 := by decide +kernel
theorem f2_lt (x : Nat) : ∀ n, f2 x n < 4 ^ n
  | 0 => by show 0 < _; decide
  | n + 1 => by
    have := f2_lt (x / 4) n
    have := cnt_le x 2
    show 4 * _ + _ < _
    rw [Nat.pow_succ]; omega
theorem f4_lt (x : Nat) : ∀ n, f4 x n ≤ rep 16 4 n
  | 0 => Nat.le_refl _
  | n + 1 => by
    have := f4_lt (x / 16) n
    have := cnt_le x 4
    show 16 * _ + _ ≤ 16 * _ + 4
    omega
theorem f8_lt (x : Nat) : ∀ n, f8 x n ≤ rep 256 8 n
  | 0 => Nat.le_refl _
  | n + 1 => by
    have := f8_lt (x / 256) n
    have := cnt_le x 8
    show 256 * _ + _ ≤ 256 * _ + 8
    omega
theorem rpb4 : rep 16 4 16 + rep 16 4 16 < 2 ^ 64 := by decide +kernel
theorem rpb8 : rep 256 8 8 * 4 < 2 ^ 62 := by decide +kernel
theorem nI_127 (a : Nat) : nI a &&& nI 127 = nI (a % 128) := by
  rw [nx_and]; exact congrArg nI (Nat.and_two_pow_sub_one_eq_mod a 7)
theorem bc8 : ∀ k, k < 256 → fb_ct (fun i => k.testBit i) 8 ≤ 8 := fun _ _ => fb_ct_le _ 8
theorem lN_subN {a b : Nat} (h : b ≤ a) : lN a - lN b = lN (a - b) := by
  have e : lN a = lN (a - b) + lN b := by rw [lN_add]; exact congrArg lN (by omega)
  rw [e, Int64.add_sub_cancel]
def g1 (k : Nat) : Nat := k - ((k / 2) &&& 85)
def g2 (k : Nat) : Nat := (k &&& 51) + ((k / 4) &&& 51)
def g3 (k : Nat) : Nat := (k + k / 16) &&& 15
theorem bc1 : ∀ k, k < 256 → nI k - (((nI k).toUInt32 >>> ((nI 1).toUInt32 &&& Int32.toUInt32 31)).toInt32 &&& 1431655765) = nI (g1 k) := by decide +kernel
theorem bc2 : ∀ k, k < 256 → (nI k &&& 858993459) + (((nI k).toUInt32 >>> ((nI 2).toUInt32 &&& Int32.toUInt32 31)).toInt32 &&& 858993459) = nI (g2 k) := by decide +kernel
theorem bc3 : ∀ k, k < 128 → (nI k + ((nI k).toUInt32 >>> ((nI 4).toUInt32 &&& Int32.toUInt32 31)).toInt32) &&& 252645135 = nI (g3 k) := by decide +kernel
theorem bc4 : ∀ k, k < 128 → nI k + ((nI k).toUInt32 >>> ((nI 8).toUInt32 &&& Int32.toUInt32 31)).toInt32 = nI k := by decide +kernel
theorem bc5 : ∀ k, k < 128 → nI k + ((nI k).toUInt32 >>> ((nI 16).toUInt32 &&& Int32.toUInt32 31)).toInt32 = nI k := by decide +kernel
theorem bc6 : ∀ k, k < 256 → g1 k < 256 ∧ g2 (g1 k) < 128 ∧ g3 (g2 (g1 k)) < 128 ∧ nI (g3 (g2 (g1 k))) &&& nI 63 = nI (cnt k 8) := by decide +kernel
