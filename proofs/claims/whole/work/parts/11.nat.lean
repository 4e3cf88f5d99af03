/-! branches over natural numbers -/
def bI (b : Bool) : Int32 := if b then 1 else 0
theorem bI_t : bI true = 1 := rfl
theorem bI_f : bI false = 0 := rfl
theorem bI_nar (b : Bool) : narrow .boolean (.int (bI b)) = .int (bI b) := by cases b <;> decide
section JB
variable {X : Cx} {cc : ByteArray} {nL : Nat} {own : String} {k n : Nat} {σ : HS} {lv : List (Nat × Value)} {st : List Value} {pc : Nat}
theorem jn_icmp_eq (C : Ok X cc nL own) {a b : Nat} {off : Int} (tgt : Nat) (ha : a < 2 ^ 31) (hb : b < 2 ^ 31) (hd : decode cc pc = .ok (.if_icmp .eq off, 3)) (ht : (pc : Int) + off = (tgt : Int)) (kt : a = b → J X k n σ lv st tgt) (kf : ¬ a = b → J X k n σ lv st (pc + 3)) : J X k n σ lv (.int (nI b) :: .int (nI a) :: st) pc := j_icmp_eq C tgt hd ht (fun q => kt ((nI_eq ha hb).mp q)) (fun q => kf (fun z => q ((nI_eq ha hb).mpr z)))
theorem jn_icmp_ne (C : Ok X cc nL own) {a b : Nat} {off : Int} (tgt : Nat) (ha : a < 2 ^ 31) (hb : b < 2 ^ 31) (hd : decode cc pc = .ok (.if_icmp .ne off, 3)) (ht : (pc : Int) + off = (tgt : Int)) (kt : ¬ a = b → J X k n σ lv st tgt) (kf : a = b → J X k n σ lv st (pc + 3)) : J X k n σ lv (.int (nI b) :: .int (nI a) :: st) pc := j_icmp_ne C tgt hd ht (fun q => kt (fun z => q ((nI_eq ha hb).mpr z))) (fun q => kf ((nI_eq ha hb).mp q))
theorem jn_icmp_lt (C : Ok X cc nL own) {a b : Nat} {off : Int} (tgt : Nat) (ha : a < 2 ^ 31) (hb : b < 2 ^ 31) (hd : decode cc pc = .ok (.if_icmp .lt off, 3)) (ht : (pc : Int) + off = (tgt : Int)) (kt : a < b → J X k n σ lv st tgt) (kf : b ≤ a → J X k n σ lv st (pc + 3)) : J X k n σ lv (.int (nI b) :: .int (nI a) :: st) pc := j_icmp_lt C tgt hd ht (fun q => kt ((nI_ltI ha hb).mp q)) (fun q => kf (Nat.not_lt.mp (fun z => q ((nI_ltI ha hb).mpr z))))
theorem jn_icmp_ge (C : Ok X cc nL own) {a b : Nat} {off : Int} (tgt : Nat) (ha : a < 2 ^ 31) (hb : b < 2 ^ 31) (hd : decode cc pc = .ok (.if_icmp .ge off, 3)) (ht : (pc : Int) + off = (tgt : Int)) (kt : b ≤ a → J X k n σ lv st tgt) (kf : a < b → J X k n σ lv st (pc + 3)) : J X k n σ lv (.int (nI b) :: .int (nI a) :: st) pc := j_icmp_ge C tgt hd ht (fun q => kt ((nI_leI hb ha).mp q)) (fun q => kf (Nat.not_le.mp (fun z => q ((nI_leI hb ha).mpr z))))
theorem jn_icmp_gt (C : Ok X cc nL own) {a b : Nat} {off : Int} (tgt : Nat) (ha : a < 2 ^ 31) (hb : b < 2 ^ 31) (hd : decode cc pc = .ok (.if_icmp .gt off, 3)) (ht : (pc : Int) + off = (tgt : Int)) (kt : b < a → J X k n σ lv st tgt) (kf : a ≤ b → J X k n σ lv st (pc + 3)) : J X k n σ lv (.int (nI b) :: .int (nI a) :: st) pc := j_icmp_gt C tgt hd ht (fun q => kt ((nI_ltI hb ha).mp q)) (fun q => kf (Nat.not_lt.mp (fun z => q ((nI_ltI hb ha).mpr z))))
theorem jn_icmp_le (C : Ok X cc nL own) {a b : Nat} {off : Int} (tgt : Nat) (ha : a < 2 ^ 31) (hb : b < 2 ^ 31) (hd : decode cc pc = .ok (.if_icmp .le off, 3)) (ht : (pc : Int) + off = (tgt : Int)) (kt : a ≤ b → J X k n σ lv st tgt) (kf : b < a → J X k n σ lv st (pc + 3)) : J X k n σ lv (.int (nI b) :: .int (nI a) :: st) pc := j_icmp_le C tgt hd ht (fun q => kt ((nI_leI ha hb).mp q)) (fun q => kf (Nat.not_le.mp (fun z => q ((nI_leI ha hb).mpr z))))
theorem jn_if_eq (C : Ok X cc nL own) {a : Nat} {off : Int} (tgt : Nat) (ha : a < 2 ^ 31) (hd : decode cc pc = .ok (.ifCond .eq off, 3)) (ht : (pc : Int) + off = (tgt : Int)) (kt : a = 0 → J X k n σ lv st tgt) (kf : ¬ a = 0 → J X k n σ lv st (pc + 3)) : J X k n σ lv (.int (nI a) :: st) pc := j_if_eq C tgt hd ht (fun q => kt ((nI_eq ha (by decide)).mp q)) (fun q => kf (fun z => q ((nI_eq ha (by decide)).mpr z)))
theorem jn_if_ne (C : Ok X cc nL own) {a : Nat} {off : Int} (tgt : Nat) (ha : a < 2 ^ 31) (hd : decode cc pc = .ok (.ifCond .ne off, 3)) (ht : (pc : Int) + off = (tgt : Int)) (kt : ¬ a = 0 → J X k n σ lv st tgt) (kf : a = 0 → J X k n σ lv st (pc + 3)) : J X k n σ lv (.int (nI a) :: st) pc := j_if_ne C tgt hd ht (fun q => kt (fun z => q ((nI_eq ha (by decide)).mpr z))) (fun q => kf ((nI_eq ha (by decide)).mp q))
theorem jn_if_gt (C : Ok X cc nL own) {a : Nat} {off : Int} (tgt : Nat) (ha : a < 2 ^ 31) (hd : decode cc pc = .ok (.ifCond .gt off, 3)) (ht : (pc : Int) + off = (tgt : Int)) (kt : 0 < a → J X k n σ lv st tgt) (kf : a = 0 → J X k n σ lv st (pc + 3)) : J X k n σ lv (.int (nI a) :: st) pc := j_if_gt C tgt hd ht (fun q => kt ((nI_ltI (by decide) ha).mp q)) (fun q => kf (Nat.eq_zero_of_not_pos (fun z => q ((nI_ltI (by decide) ha).mpr z))))
theorem jn_if_le (C : Ok X cc nL own) {a : Nat} {off : Int} (tgt : Nat) (ha : a < 2 ^ 31) (hd : decode cc pc = .ok (.ifCond .le off, 3)) (ht : (pc : Int) + off = (tgt : Int)) (kt : a = 0 → J X k n σ lv st tgt) (kf : 0 < a → J X k n σ lv st (pc + 3)) : J X k n σ lv (.int (nI a) :: st) pc := j_if_le C tgt hd ht (fun q => kt (Nat.eq_zero_of_le_zero ((nI_leI ha (by decide)).mp q))) (fun q => kf (Nat.pos_of_ne_zero (fun z => q ((nI_leI ha (by decide)).mpr (Nat.le_of_eq z)))))
theorem jn_if_lt (C : Ok X cc nL own) {a : Nat} {off : Int} (tgt : Nat) (ha : a < 2 ^ 31) (hd : decode cc pc = .ok (.ifCond .lt off, 3)) (ht : (pc : Int) + off = (tgt : Int)) (kt : False → J X k n σ lv st tgt) (kf : True → J X k n σ lv st (pc + 3)) : J X k n σ lv (.int (nI a) :: st) pc := j_if_lt C tgt hd ht (fun q => kt (nI_pos ha q)) (fun _ => kf trivial)
theorem jn_if_ge (C : Ok X cc nL own) {a : Nat} {off : Int} (tgt : Nat) (ha : a < 2 ^ 31) (hd : decode cc pc = .ok (.ifCond .ge off, 3)) (ht : (pc : Int) + off = (tgt : Int)) (kt : True → J X k n σ lv st tgt) (kf : False → J X k n σ lv st (pc + 3)) : J X k n σ lv (.int (nI a) :: st) pc := j_if_ge C tgt hd ht (fun _ => kt trivial) (fun q => kf (q (nI_pos' ha)))
/-- the answer of a comparison of longs, against 0 -/
theorem lg_eq {x y : Int64} : lg_cmp x y = 0 ↔ x = y := by
  unfold lg_cmp
  by_cases h : x > y
  · rw [if_pos h]
    refine ⟨fun z => absurd z (by decide), fun z => ?_⟩
    rw [z] at h
    exact (Int64.lt_irrefl h).elim
  · rw [if_neg h]
    by_cases e : x = y
    · rw [if_pos e]; exact ⟨fun _ => e, fun _ => rfl⟩
    · rw [if_neg e]; exact ⟨fun z => absurd z (by decide), fun z => absurd z e⟩
theorem jl_if_eq (C : Ok X cc nL own) {x y : Int64} {off : Int} (tgt : Nat) (hd : decode cc pc = .ok (.ifCond .eq off, 3)) (ht : (pc : Int) + off = (tgt : Int)) (kt : x = y → J X k n σ lv st tgt) (kf : ¬ x = y → J X k n σ lv st (pc + 3)) : J X k n σ lv (.int (lg_cmp x y) :: st) pc := j_if_eq C tgt hd ht (fun q => kt (lg_eq.mp q)) (fun q => kf (fun z => q (lg_eq.mpr z)))
theorem jl_if_ne (C : Ok X cc nL own) {x y : Int64} {off : Int} (tgt : Nat) (hd : decode cc pc = .ok (.ifCond .ne off, 3)) (ht : (pc : Int) + off = (tgt : Int)) (kt : ¬ x = y → J X k n σ lv st tgt) (kf : x = y → J X k n σ lv st (pc + 3)) : J X k n σ lv (.int (lg_cmp x y) :: st) pc := j_if_ne C tgt hd ht (fun q => kt (fun z => q (lg_eq.mpr z))) (fun q => kf (lg_eq.mp q))
end JB
