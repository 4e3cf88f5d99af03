/-! the model's columns hold a spec state -/
def offs (f i : Nat) : Nat := if f = 704 ∧ i = 12 then 1 else if f = 704 ∧ (i = 25 ∨ i = 26) then 2 else 0
def rci (f i : Nat) : Bool := (decide (641 ≤ f) && decide (f < 674) && decide (f ≠ 660) && decide (i = 0)) || (decide (f = 704) && decide (10 ≤ i) && decide (i < 100)) || (decide (f = 832) && decide (i < 100))
def rcl (f i : Nat) : Bool := (decide (f = 647) && decide (i = 0)) || (decide (f = 768) && decide (400 ≤ i) && decide (i < 433))
def encO (o : Option (List Nat)) : Int64 := match o with
  | none => -1
  | some r => enc4 r
def encS (S : SP) (f i j : Nat) : Int64 := if i = 430 then lN (S.1 768 430 j) else if i = 412 ∨ i = 431 then encO (S.2 f i j) else enc4 ((S.2 f i j).getD [])
def RI (S : SP) (σ : HS) : Prop := (∀ f i j, rci f i = true → hI σ f i j = nI (S.1 f i j) - nI (offs f i)) ∧ (∀ f i j, rcl f i = true → hL σ f i j = encS S f i j)
/-- the model's rows: where each stands, and how long it is -/
def mtag (s : Nat) : Tg := if s ∈ [8, 11, 12, 24, 30, 31, 33] then (12, 400 + s) else if s ∈ [9, 25, 27] then (13, s) else (11, 10 + s)
def mlen (s : Nat) : Nat := ([0, 16, 64, 0, 12, 12, 0, 0, 16, 16, 0, 8, 128, 6, 6, 6, 6, 6, 0, 0, 0, 40, 40, 40, 40, 40, 0, 32, 32, 32, 32, 512, 0, 64] : List Nat).getD s 0
def SM (σ : HS) (x9 : Nat → Nat) : Prop := At σ (10, 0) (x9 0) ∧ ∀ s, s < 34 → fk 10 s = 2 → hR σ (640 + s) 0 0 = some (mtag s) ∧ At σ (mtag s) (x9 s) ∧ hN σ (mtag s).1 (mtag s).2 = mlen s
/-- the model's state, with what it threw last -/
def RS (S : SP) (x9 : Nat → Nat) (k : Int32) (σ : HS) : Prop := RI S σ ∧ SM σ x9 ∧ hI σ 640 0 0 = k
/-- the model's columns, of any use -/
def mcol (f i : Nat) : Bool := (decide (640 ≤ f) && decide (f < 704)) || (decide (f = 704) && decide (10 ≤ i) && decide (i < 100)) || (decide (f = 832)) || (decide (f = 768) && decide (400 ≤ i) && decide (i < 500))
/-- nothing but the model's numbers has changed -/
def ME (σ σ' : HS) : Prop := (∀ f i j, mcol f i = false → hI σ' f i j = hI σ f i j) ∧ (∀ f i j, mcol f i = false → hL σ' f i j = hL σ f i j) ∧ σ'.2.2 = σ.2.2
theorem ME.rf {σ : HS} : ME σ σ := ⟨fun _ _ _ _ => rfl, fun _ _ _ _ => rfl, rfl⟩
theorem ME.tr {a b c : HS} (h : ME a b) (k : ME b c) : ME a c := ⟨fun f i j q => (k.1 f i j q).trans (h.1 f i j q), fun f i j q => (k.2.1 f i j q).trans (h.2.1 f i j q), k.2.2.trans h.2.2⟩
theorem ME.sI {σ0 σ : HS} (h : ME σ0 σ) {f i j : Nat} {v : Int32} (hm : mcol f i = true) : ME σ0 (sI σ f i j v) := h.tr ⟨fun f' i' j' q => up3_ne (fun e => by rw [e.1, e.2.1, hm] at q; cases q), fun _ _ _ _ => rfl, rfl⟩
theorem ME.sL {σ0 σ : HS} (h : ME σ0 σ) {f i j : Nat} {v : Int64} (hm : mcol f i = true) : ME σ0 (sL σ f i j v) := h.tr ⟨fun _ _ _ _ => rfl, fun f' i' j' q => up3_ne (fun e => by rw [e.1, e.2.1, hm] at q; cases q), rfl⟩
theorem SM.eq {σ σ' : HS} {x9 : Nat → Nat} (h : SM σ x9) (e : σ'.2.2 = σ.2.2) : SM σ' x9 := by
  unfold SM At at h ⊢
  rw [show hV σ' = hV σ from congrArg (fun z => z.2.2.1) e, show hG σ' = hG σ from congrArg (fun z => z.2.2.2.1) e, show hR σ' = hR σ from congrArg (fun z => z.1) e, show hN σ' = hN σ from congrArg (fun z => z.2.1) e]
  exact h
theorem nI_sub0 (x : Int32) : x - nI 0 = x := by
  have : (nI 0 : Int32) = 0 := rfl
  rw [this, Int32.sub_zero]
section RSs
variable {S : SP} {x9 : Nat → Nat} {k : Int32} {σ : HS}
theorem RS.rdO (h : RS S x9 k σ) (f i j : Nat) (hr : rci f i = true) : hI σ f i j = nI (S.1 f i j) - nI (offs f i) := h.1.1 f i j hr
theorem RS.rdI (h : RS S x9 k σ) (f i j : Nat) (hr : rci f i = true) (ho : offs f i = 0) : hI σ f i j = nI (S.1 f i j) := by rw [h.1.1 f i j hr, ho, nI_sub0]
theorem RS.rdL (h : RS S x9 k σ) (f i j : Nat) (hr : rcl f i = true) (ho : i ≠ 430 ∧ i ≠ 412 ∧ i ≠ 431) : hL σ f i j = enc4 ((S.2 f i j).getD []) := by
  rw [h.1.2 f i j hr]; unfold encS
  rw [if_neg ho.1, if_neg (fun q => q.elim ho.2.1 ho.2.2)]
theorem RS.rdX (h : RS S x9 k σ) (f i j : Nat) (hr : rcl f i = true) (ho : i = 412 ∨ i = 431) : hL σ f i j = encO (S.2 f i j) := by
  rw [h.1.2 f i j hr]; unfold encS
  rw [if_neg (by rcases ho with q | q <;> rw [q] <;> decide), if_pos ho]
theorem RS.rdB (h : RS S x9 k σ) (j : Nat) : hL σ 768 430 j = lN (mv S j) := by
  rw [h.1.2 768 430 j (by decide)]; unfold encS
  rw [if_pos rfl]
theorem RS.wO (h : RS S x9 k σ) (f i j n : Nat) (v : Int32) (hr : rci f i = true) (hv : v = nI n - nI (offs f i)) : RS (zN S f i j n) x9 k (sI σ f i j v) := by
  obtain ⟨⟨h1, h2⟩, h3, h4⟩ := h
  have ht : ¬ (640 = f ∧ 0 = i) := fun q => by rw [← q.1, ← q.2] at hr; exact absurd hr (by decide)
  refine ⟨⟨fun f' i' j' q => ?_, fun f' i' j' q => ?_⟩, h3, (up3_ne (fun q => ht ⟨q.1, q.2.1⟩)).trans h4⟩
  · show up3 _ _ _ _ _ _ _ _ = nI (up3 _ _ _ _ _ _ _ _) - _
    by_cases e : f' = f ∧ i' = i ∧ j' = j
    · obtain ⟨rfl, rfl, rfl⟩ := e
      rw [up3_eq, up3_eq]; exact hv
    · rw [up3_ne e, up3_ne e]; exact h1 f' i' j' q
  · refine (h2 f' i' j' q).trans ?_
    unfold encS
    by_cases e : i' = 430
    · rw [if_pos e, if_pos e]
      have : (zN S f i j n).1 768 430 j' = S.1 768 430 j' := up3_ne (fun q2 => by
        rw [← q2.1] at hr
        revert hr
        unfold rci
        simp)
      rw [this]
    · rw [if_neg e, if_neg e]; rfl
theorem RS.wI (h : RS S x9 k σ) (f i j n : Nat) (hr : rci f i = true) (ho : offs f i = 0) : RS (zN S f i j n) x9 k (sI σ f i j (nI n)) := h.wO f i j n _ hr (by rw [ho, nI_sub0])
theorem RS.wT (h : RS S x9 k σ) (v : Int32) : RS S x9 v (sI σ 640 0 0 v) := by
  obtain ⟨⟨h1, h2⟩, h3, h4⟩ := h
  refine ⟨⟨fun f' i' j' q => (up3_ne (fun e => ?_)).trans (h1 f' i' j' q), h2⟩, h3, (show up3 (hI σ) 640 0 0 v 640 0 0 = v from up3_eq)⟩
  rw [e.1, e.2.1] at q
  exact absurd q (by decide)
theorem RS.wM (h : RS S x9 k σ) (v : Int32) : RS S x9 k (sI σ 660 0 0 v) := by
  obtain ⟨⟨h1, h2⟩, h3, h4⟩ := h
  refine ⟨⟨fun f' i' j' q => (up3_ne (fun e => ?_)).trans (h1 f' i' j' q), h2⟩, h3, (show up3 (hI σ) 660 0 0 v 640 0 0 = hI σ 640 0 0 from up3_ne (fun e => absurd e.1 (by decide))).trans h4⟩
  rw [e.1, e.2.1] at q
  exact absurd q (by decide)
theorem RS.wU (h : RS S x9 k σ) (j : Nat) (v : Int64) : RS S x9 k (sL σ 768 433 j v) := by
  obtain ⟨⟨h1, h2⟩, h3, h4⟩ := h
  refine ⟨⟨h1, fun f' i' j' q => (up3_ne (fun e => ?_)).trans (h2 f' i' j' q)⟩, h3, h4⟩
  rw [e.1, e.2.1] at q
  exact absurd q (by decide)
theorem RS.wL (h : RS S x9 k σ) (f i j : Nat) (r : Option (List Nat)) (v : Int64) (hr : rcl f i = true) (hi : i ≠ 430) (hv : v = if i = 412 ∨ i = 431 then encO r else enc4 (r.getD [])) : RS (zR S f i j r) x9 k (sL σ f i j v) := by
  obtain ⟨⟨h1, h2⟩, h3, h4⟩ := h
  refine ⟨⟨h1, fun f' i' j' q => ?_⟩, h3, h4⟩
  show up3 _ _ _ _ _ _ _ _ = _
  by_cases e : f' = f ∧ i' = i ∧ j' = j
  · obtain ⟨rfl, rfl, rfl⟩ := e
    rw [up3_eq, hv]
    unfold encS
    rw [if_neg hi]
    have : (zR S f' i' j' r).2 f' i' j' = r := up3_eq
    rw [this]
  · rw [up3_ne e]
    refine (h2 f' i' j' q).trans ?_
    unfold encS
    have : (zR S f i j r).2 f' i' j' = S.2 f' i' j' := up3_ne e
    rw [this]
    rfl
theorem RS.wB (h : RS S x9 k σ) (j n : Nat) : RS (zN S 768 430 j n) x9 k (sL σ 768 430 j (lN n)) := by
  obtain ⟨⟨h1, h2⟩, h3, h4⟩ := h
  refine ⟨⟨fun f' i' j' q => ?_, fun f' i' j' q => ?_⟩, h3, h4⟩
  · refine (h1 f' i' j' q).trans ?_
    have : (zN S 768 430 j n).1 f' i' j' = S.1 f' i' j' := up3_ne (fun e => by rw [e.1, e.2.1] at q; exact absurd q (by decide))
    rw [this]
  · show up3 _ _ _ _ _ _ _ _ = _
    unfold encS
    by_cases e : f' = 768 ∧ i' = 430 ∧ j' = j
    · rw [e.1, e.2.1, e.2.2, up3_eq, if_pos rfl]
      have : (zN S 768 430 j n).1 768 430 j = n := up3_eq
      rw [this]
    · rw [up3_ne e]
      refine (h2 f' i' j' q).trans ?_
      unfold encS
      by_cases e2 : i' = 430
      · rw [if_pos e2, if_pos e2]
        have hf : f' = 768 := by
          rw [e2] at q
          revert q
          unfold rcl
          simp
        have hj : j' ≠ j := fun z => e ⟨hf, e2, z⟩
        have : (zN S 768 430 j n).1 768 430 j' = S.1 768 430 j' := up3_ne (fun z => hj z.2.2)
        rw [this]
      · rw [if_neg e2, if_neg e2]; rfl
end RSs
/-! the model's rows of sounds -/
theorem row4_size {l : List Nat} (h : okR l) : (enc4 l >>> ((nI 32).toInt64 &&& 63)).toInt32 = nI l.length := by
  have h1 := val4_32 h
  have h2 := enc4_lt h
  unfold enc4
  rw [pf_shr (d := 32) (by decide) (by omega), lN_i]
  refine congrArg nI ?_
  rw [Nat.add_mul_div_left _ _ (by decide)]
  rw [Nat.div_eq_of_lt h1]; omega
theorem row4_at {l : List Nat} (h : okR l) {p s : Nat} (hs : l[p]? = some s) : (enc4 l >>> ((nI (4 * p)).toInt64 &&& 63) &&& lN 15).toInt32 = nI s := by
  have h0 := h.1
  have h1 := val4_32 h
  have h2 := enc4_lt h
  have hp : p < l.length := (List.getElem?_eq_some_iff.mp hs).1
  have hv := val4_at (l := l) p h.2
  rw [hs] at hv
  unfold enc4
  have hd : (((nI (4 * p)).toInt64 &&& 63).toBitVec.smod 64).toNat = 4 * p := by
    rw [wb_c _ (by omega), wb_tb, wb_sm _ (by omega)]
    simp
    omega
  rw [pf_shr hd (by omega)]
  have e15 : (lN 15 : Int64) = lN (2 ^ 4 - 1) := rfl
  rw [e15, fb_maskL, lN_i]
  refine congrArg nI ?_
  have e3 : (2 : Nat) ^ (4 * p) = 16 ^ p := by rw [Nat.pow_mul]
  have e4 : (2 : Nat) ^ 32 * l.length = 16 ^ p * (16 ^ (8 - p) * l.length) := by
    rw [← Nat.mul_assoc, ← Nat.pow_add, show p + (8 - p) = 8 by omega]
  rw [e3, e4, Nat.add_mul_div_left _ _ (Nat.pow_pos (by decide))]
  have e5 : 16 ^ (8 - p) * l.length = 16 * (16 ^ (7 - p) * l.length) := by
    rw [← Nat.mul_assoc, show (16 : Nat) * 16 ^ (7 - p) = 16 ^ (7 - p + 1) from (Nat.pow_succ' ..).symm, show 7 - p + 1 = 8 - p by omega]
  rw [e5]
  have : (val4 l / 16 ^ p + 16 * (16 ^ (7 - p) * l.length)) % 2 ^ 4 = val4 l / 16 ^ p % 16 := by
    show (_ + 16 * _) % 16 = _
    rw [Nat.add_mul_mod_self_left]
  rw [this, hv]
  rfl
theorem row4_with {l : List Nat} (h : okR l) {s : Nat} (hs : s < 16) (hn : l.length < 8) : (enc4 l ||| (nI s).toInt64 <<< ((nI (4 * l.length)).toInt64 &&& 63)) + lN 4294967296 = enc4 (l ++ [s]) := by
  have h1 := val4_lt h.2
  have h2 := enc4_lt h
  unfold enc4
  have e3 : (2 : Nat) ^ (4 * l.length) = 16 ^ l.length := by rw [Nat.pow_mul]
  rw [nI_l (by omega), wb_shl _ (by omega), fb_orL, lN_add, val4_append]
  refine congrArg lN ?_
  have e : val4 [s] = s := by simp [val4]
  rw [e, e3]
  have hk : 16 ^ (l.length + 1) * 16 ^ (7 - l.length) = 2 ^ 32 := by
    rw [← Nat.pow_add, show l.length + 1 + (7 - l.length) = 8 by omega]
  -- the three parts stand in bits of their own
  have hlo : val4 l < 2 ^ (4 * l.length) := by rw [e3]; exact h1
  have ha : val4 l + 2 ^ 32 * l.length = 2 ^ (4 * l.length) * (16 * 16 ^ (7 - l.length) * l.length) + val4 l := by
    rw [e3, ← Nat.mul_assoc, ← Nat.mul_assoc, show 16 ^ l.length * 16 = 16 ^ (l.length + 1) from (Nat.pow_succ ..).symm, hk]
    omega
  have hor : (val4 l + 2 ^ 32 * l.length) ||| s * 16 ^ l.length = val4 l + 2 ^ 32 * l.length + s * 16 ^ l.length := by
    have e16 : (16 : Nat) = 2 ^ 4 := by decide
    rw [ha, Nat.mul_comm s, ← e3]
    have hq : 16 * 16 ^ (7 - l.length) * l.length = 2 ^ 4 * (16 ^ (7 - l.length) * l.length) := by rw [Nat.mul_assoc]
    rw [hq]
    generalize 16 ^ (7 - l.length) * l.length = z
    have hs4 : s < 2 ^ 4 := hs
    have B : 2 ^ (4 * l.length) * (2 ^ 4 * z + s) = 2 ^ (4 * l.length) * (2 ^ 4 * z) ||| 2 ^ (4 * l.length) * s := by
      rw [Nat.two_pow_add_eq_or_of_lt hs4, Nat.mul_comm, Nat.mul_comm (2 ^ (4 * l.length)), Nat.mul_comm (2 ^ (4 * l.length)), ← Nat.shiftLeft_eq, ← Nat.shiftLeft_eq, ← Nat.shiftLeft_eq, Nat.shiftLeft_or_distrib]
    have D : 2 ^ (4 * l.length) * (2 ^ 4 * z) + val4 l + 2 ^ (4 * l.length) * s = 2 ^ (4 * l.length) * (2 ^ 4 * z + s) + val4 l := by rw [Nat.mul_add]; omega
    rw [D, Nat.two_pow_add_eq_or_of_lt hlo, Nat.two_pow_add_eq_or_of_lt hlo, B, Nat.or_assoc, Nat.or_assoc, Nat.or_comm (val4 l)]
  rw [hor, List.length_append, List.length_singleton, Nat.mul_comm s]
  omega
section JRA
variable {X : Cx} {cc : ByteArray} {nL : Nat} {own : String} {k n : Nat} {σ : HS} {lv : List (Nat × Value)} {st : List Value} {pc : Nat}
theorem j_getA (C : Ok X cc nL own) {t : Tg} {a s idx f : Nat} {fty : FieldType} {fin : Nat} (F : FP t.1 s own idx fty fin) (ht : At σ t a) (hk : fk t.1 s = 2) (hf : 64 * t.1 + s = f) (t' : Tg) (b : Nat) (hr : hR σ f t.2 0 = some t') (hb : At σ t' b) (hd : decode cc pc = .ok (.getfield idx, 3)) (kk : J X k n σ lv (.ref b :: st) (pc + 3)) : J X k n σ lv (.ref a :: st) pc := by
  obtain ⟨-, rfl⟩ := hb
  exact j_getR C F ht hk hf t' hr hd kk
end JRA
section JBB
variable {X : Cx} {cc : ByteArray} {nL : Nat} {own : String} {k n : Nat} {σ : HS} {lv : List (Nat × Value)} {st : List Value} {pc : Nat}
theorem jb_if_eq (C : Ok X cc nL own) {b : Bool} {off : Int} (tgt : Nat) (hd : decode cc pc = .ok (.ifCond .eq off, 3)) (ht : (pc : Int) + off = (tgt : Int)) (kt : b = false → J X k n σ lv st tgt) (kf : b = true → J X k n σ lv st (pc + 3)) : J X k n σ lv (.int (bI b) :: st) pc := j_if_eq C tgt hd ht (fun q => kt (by cases b; rfl; exact absurd q (by decide))) (fun q => kf (by cases b; exact absurd rfl q; rfl))
theorem jb_if_ne (C : Ok X cc nL own) {b : Bool} {off : Int} (tgt : Nat) (hd : decode cc pc = .ok (.ifCond .ne off, 3)) (ht : (pc : Int) + off = (tgt : Int)) (kt : b = true → J X k n σ lv st tgt) (kf : b = false → J X k n σ lv st (pc + 3)) : J X k n σ lv (.int (bI b) :: st) pc := j_if_ne C tgt hd ht (fun q => kt (by cases b; exact absurd rfl q; rfl)) (fun q => kf (by cases b; rfl; exact absurd q (by decide)))
end JBB
theorem nI_le_iff (x : Int32) {m : Nat} (h : m < 2 ^ 31) : (x ≤ nI m) ↔ x.toInt ≤ (m : Int) := by
  rw [Int32.le_iff_toInt_le, nI_toInt h]
theorem in_of (x : Int32) {m : Nat} (h : m + 1 < 2 ^ 31) : (decide (nI 0 ≤ x) && decide (x ≤ nI m)) = inI x (m + 1) := by
  unfold inI
  have h0 : (nI 0 ≤ x) ↔ 0 ≤ x.toInt := by rw [Int32.le_iff_toInt_le, nI_toInt (by decide)]; rfl
  have h1 : (x ≤ nI m) ↔ x.toInt < ((m + 1 : Nat) : Int) := by rw [nI_le_iff x (by omega)]; omega
  rw [decide_eq_decide.mpr h0, decide_eq_decide.mpr h1]
theorem in_m1 (x : Int32) {m : Nat} (h : m < 2 ^ 31) : (decide (nI 0 ≤ x) && decide (x ≤ nI m - nI 1)) = inI x m := by
  unfold inI
  have h0 : (nI 0 ≤ x) ↔ 0 ≤ x.toInt := by rw [Int32.le_iff_toInt_le, nI_toInt (by decide)]; rfl
  have h1 : (x ≤ nI m - nI 1) ↔ x.toInt < (m : Int) := by
    rw [Int32.le_iff_toInt_le, Int32.toInt_sub, nI_toInt h, nI_toInt (by decide)]
    have e : ((m : Int) - ((1 : Nat) : Int)).bmod (2 ^ 32) = (m : Int) - 1 := by
      rw [Int.bmod_def]
      split <;> omega
    rw [e]; omega
  rw [decide_eq_decide.mpr h0, decide_eq_decide.mpr h1]
theorem inI_t {x : Int32} {m : Nat} (h : inI x m = true) : xN x < m ∧ x = nI (xN x) := by
  unfold inI at h
  simp only [Bool.and_eq_true, decide_eq_true_eq] at h
  obtain ⟨h0, h1⟩ := h
  have hx : x.toInt = (xN x : Int) := by
    show x.toInt = ((x.toInt.toNat : Nat) : Int)
    omega
  refine ⟨by omega, Int32.toInt_inj.mp ?_⟩
  have hr := fb_rng x
  rw [nI_toInt (by omega), hx]
theorem inI_nI {a m : Nat} (h : a < 2 ^ 31) : inI (nI a) m = decide (a < m) := by
  unfold inI
  rw [nI_toInt h, decide_eq_true (show (0 : Int) ≤ (a : Int) by omega), Bool.true_and]
  exact decide_eq_decide.mpr (by omega)
theorem xN_nI {a : Nat} (h : a < 2 ^ 31) : xN (nI a) = a := nI_clamp h
