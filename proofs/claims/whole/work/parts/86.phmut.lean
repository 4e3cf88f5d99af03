/-! the sounds, classes and rules behind a call that changes them -/
def S_sound (S : SP) (x : Nat) : SP := zN (zN (zN S 704 11 (nS S) x) 704 12 x (nS S + 1)) 643 0 0 (nS S + 1)
def S_kind (S : SP) (n b : Nat) : SP := zN (zN (zN S 704 14 (nC S) n) 704 15 (nC S) b) 646 0 0 (nC S + 1)
def S_rule (S : SP) (t u l r : Nat) : SP := zN (zN (zN (zN (zN (zN (zN S 704 23 (nR S) t) 704 24 (nR S) u) 704 25 (nR S) l) 704 26 (nR S) r) 704 27 (nR S) (nR S)) 658 0 0 (on9 S ||| 2 ^ nR S)) 659 0 0 (nR S + 1)
def S_raise (S : SP) (r : Nat) : SP := if pos9 S r = 0 then S else zN (zN S 704 27 (pos9 S r) (orr S (pos9 S r - 1))) 704 27 (pos9 S r - 1) r
theorem up3_row {α : Type} {f : Nat → Nat → Nat → α} {a b c z : Nat} {v : α} : up3 f a b c v a b z = if z = c then v else f a b z := by
  by_cases e : z = c
  · subst e; rw [if_pos rfl]; exact up3_eq
  · rw [if_neg e]; exact up3_ne (fun q => e q.2.2)
theorem zN_row {S : SP} {f i j v z : Nat} : (zN S f i j v).1 f i z = if z = j then v else S.1 f i z := up3_row
theorem zN_f {S : SP} {f i j v f' i' j' : Nat} (h : f' ≠ f) : (zN S f i j v).1 f' i' j' = S.1 f' i' j' := zN_ne (fun z => h z.1)
theorem zN_i {S : SP} {f i j v f' i' j' : Nat} (h : i' ≠ i) : (zN S f i j v).1 f' i' j' = S.1 f' i' j' := zN_ne (fun z => h z.2.1)
theorem zR_row {S : SP} {f i j z : Nat} {v : Option (List Nat)} : (zR S f i j v).2 f i z = if z = j then v else S.2 f i z := up3_row
theorem zR_f {S : SP} {f i j f' i' j' : Nat} {v : Option (List Nat)} (h : f' ≠ f) : (zR S f i j v).2 f' i' j' = S.2 f' i' j' := zR_ne (fun z => h z.1)
theorem zR_i {S : SP} {f i j f' i' j' : Nat} {v : Option (List Nat)} (h : i' ≠ i) : (zR S f i j v).2 f' i' j' = S.2 f' i' j' := zR_ne (fun z => h z.2.1)
theorem sI_sI {σ : HS} {f i j : Nat} {v v' : Int32} : sI (sI σ f i j v) f i j v' = sI σ f i j v' := by
  unfold sI
  refine Prod.ext ?_ rfl
  funext x y z
  show up3 (up3 _ _ _ _ _) _ _ _ _ _ _ _ = up3 _ _ _ _ _ _ _ _
  by_cases e : x = f ∧ y = i ∧ z = j
  · obtain ⟨rfl, rfl, rfl⟩ := e
    rw [up3_eq, up3_eq]
  · rw [up3_ne e, up3_ne e, up3_ne e]
section SND
variable {S : SP} {x : Nat}
theorem snd_fe (i : Nat) : fe (S_sound S x) i = if i = nS S then x else fe S i := by
  unfold S_sound
  show (zN _ _ _ _ _).1 704 11 i = _
  rw [zN_f (by decide), zN_i (by decide), zN_row]
theorem snd_wi (f : Nat) : wi (S_sound S x) f = if f = x then nS S + 1 else wi S f := by
  unfold S_sound
  show (zN _ _ _ _ _).1 704 12 f = _
  rw [zN_f (by decide), zN_row, zN_i (by decide)]
theorem snd_nS : nS (S_sound S x) = nS S + 1 := zN_eq
theorem snd_kcod (c j : Nat) : kcod (S_sound S x) c j = if j = nS S + 1 then (decide (x &&& ne S c = ne S c) && decide (x &&& ba S c = 0)) else kcod S c j := by
  unfold kcod isOf
  rw [snd_nS, snd_fe, show ne (S_sound S x) c = ne S c from rfl, show ba (S_sound S x) c = ba S c from rfl]
  by_cases e : j = nS S + 1
  · rw [if_pos e, if_pos (by omega), decide_eq_true (show 1 ≤ j ∧ j ≤ nS S + 1 by omega), Bool.true_and]
  · rw [if_neg e]
    by_cases h : 1 ≤ j ∧ j ≤ nS S
    · rw [if_neg (by omega), decide_eq_true h, decide_eq_true (show 1 ≤ j ∧ j ≤ nS S + 1 by omega)]
    · rw [decide_eq_false h, decide_eq_false (show ¬ (1 ≤ j ∧ j ≤ nS S + 1) by omega), Bool.false_and, Bool.false_and]
theorem KD.look {σ : HS} {c m : Nat} (h1 : hI σ 192 c 0 = nI (ne S c)) (h2 : hI σ 193 c 0 = nI (ba S c)) (m1 : m < 2 ^ 17) (m3 : ∀ j, m.testBit j = kcod S c j) (hn : nS S < 16) : KD (S_sound S x) (sI σ 194 c 0 (nI (if x &&& ne S c = ne S c ∧ x &&& ba S c = 0 then m ||| 2 ^ (nS S + 1) else m))) c := by
  refine ⟨(sI_ne (fun z => absurd z.1 (by decide))).trans h1, (sI_ne (fun z => absurd z.1 (by decide))).trans h2, _, ?_, sI_eq, fun j => ?_⟩
  · split
    · exact Nat.or_lt_two_pow m1 (Nat.pow_lt_pow_right (by decide) (by omega))
    · exact m1
  · rw [snd_kcod]
    by_cases hc : x &&& ne S c = ne S c ∧ x &&& ba S c = 0
    · rw [if_pos hc, or_bit, m3]
      by_cases e : j = nS S + 1
      · rw [if_pos e, decide_eq_true e.symm, Bool.or_true, decide_eq_true hc.1, decide_eq_true hc.2]; rfl
      · rw [if_neg e, decide_eq_false (fun z => e z.symm), Bool.or_false]
    · rw [if_neg hc, m3]
      by_cases e : j = nS S + 1
      · rw [if_pos e]
        have a : kcod S c j = false := by
          unfold kcod
          rw [decide_eq_false (show ¬ (1 ≤ j ∧ j ≤ nS S) by omega), Bool.false_and]
        rw [a]
        by_cases e1 : x &&& ne S c = ne S c
        · rw [decide_eq_true e1, decide_eq_false (fun z => hc ⟨e1, z⟩)]; rfl
        · rw [decide_eq_false e1]; rfl
      · rw [if_neg e]
theorem eqn_sound {p : Nat → Nat → Bool} (h1 : p 704 11 = false) (h2 : p 704 12 = false) (h3 : p 643 0 = false) : EqN p S (S_sound S x) := ((EqN.rf.zN h1).zN h2).zN h3
end SND
/-- what a new sound touches -/
def tgSn (t : Tg) : Prop := (t.1 = 6 ∧ t.2 = 0) ∨ (t.1 = 11 ∧ t.2 < 2) ∨ (t.1 = 3 ∧ t.2 < 100)
theorem ph_sound {S : SP} {σ σ' : HS} (hw : WF S) (hp : PH9 S σ) {x : Nat} (hF : Fr tgSn σ σ') (e1 : ∀ f, f / 64 = 6 → hR σ' f 0 0 = hR σ f 0 0) (e2 : hI σ' 386 0 0 = nI (nS S + 1)) (e3 : hI σ' 392 0 0 = hI σ 392 0 0) (e4 : ∀ j, hI σ' 704 0 j = if j = nS S + 1 then nI x else hI σ 704 0 j) (e5 : ∀ f, hI σ' 704 1 f = if f = x then nI (nS S + 1) else hI σ 704 1 f) (e6 : ∀ c, c < nC S → KD (S_sound S x) σ' c) (e7 : ∀ c, nC S ≤ c → c < 100 → hV σ' (3, c) = false) : PH9 (S_sound S x) σ' := by
  obtain ⟨h1, ⟨q1, q2, q3, q4, q5, q6⟩, h3⟩ := hp
  refine ⟨h1.fr hF (by simp only [tgSn]; omega) (by simp only [tgSn]; omega) e1, ⟨by rw [snd_nS]; exact e2, fun i hi => ?_, fun f hf => ?_, q4.fr hF (fun t z => by simp only [tgL, tgSn] at z ⊢; omega), e6, e7⟩, (h3.fr hF (fun t z => by simp only [tgR, tgL, tgSn] at z ⊢; omega) (by have := hw.2.1.1; omega) e3).cg (eqn_sound rfl rfl rfl)⟩
  · rw [snd_nS] at hi
    rw [e4, snd_fe]
    by_cases e : i = nS S
    · rw [if_pos (by omega), if_pos e]
    · rw [if_neg (by omega), if_neg e]
      exact q2 i (by omega)
  · rw [e5, snd_wi]
    by_cases e : f = x
    · rw [if_pos e, if_pos e]
    · rw [if_neg e, if_neg e]
      exact q3 f hf
section KND
variable {S : SP} {n b : Nat}
theorem knd_ne (c : Nat) : ne (S_kind S n b) c = if c = nC S then n else ne S c := by
  unfold S_kind
  show (zN _ _ _ _ _).1 704 14 c = _
  rw [zN_f (by decide), zN_i (by decide), zN_row]
theorem knd_ba (c : Nat) : ba (S_kind S n b) c = if c = nC S then b else ba S c := by
  unfold S_kind
  show (zN _ _ _ _ _).1 704 15 c = _
  rw [zN_f (by decide), zN_row, zN_i (by decide)]
theorem knd_nC : nC (S_kind S n b) = nC S + 1 := zN_eq
theorem knd_isOf {i c : Nat} (h : c ≠ nC S) : isOf (S_kind S n b) i c = isOf S i c := by
  unfold isOf
  rw [knd_ne, knd_ba, if_neg h, if_neg h]
  rfl
theorem knd_isN {i : Nat} : isOf (S_kind S n b) i (nC S) = (decide (fe S i &&& n = n) && decide (fe S i &&& b = 0)) := by
  unfold isOf
  rw [knd_ne, knd_ba, if_pos rfl, if_pos rfl]
  rfl
theorem knd_KD {σ : HS} {c : Nat} (h : KD S σ c) (hc : c ≠ nC S) : KD (S_kind S n b) σ c := by
  obtain ⟨h1, h2, m, m1, m2, m3⟩ := h
  refine ⟨by rw [knd_ne, if_neg hc]; exact h1, by rw [knd_ba, if_neg hc]; exact h2, m, m1, m2, fun j => ?_⟩
  rw [m3]
  unfold kcod
  rw [knd_isOf hc]
  rfl
/-- the bits of the first k sounds -/
def kbit (S : SP) (n b k j : Nat) : Bool := decide (1 ≤ j ∧ j ≤ k) && (decide (fe S (j - 1) &&& n = n) && decide (fe S (j - 1) &&& b = 0))
theorem kbit_succ {m k : Nat} (hm : ∀ j, m.testBit j = kbit S n b k j) (j : Nat) : (if fe S k &&& n = n ∧ fe S k &&& b = 0 then m ||| 2 ^ (k + 1) else m).testBit j = kbit S n b (k + 1) j := by
  by_cases hc : fe S k &&& n = n ∧ fe S k &&& b = 0
  · rw [if_pos hc, or_bit, hm]
    unfold kbit
    by_cases e : j = k + 1
    · subst e
      rw [decide_eq_true (rfl : k + 1 = k + 1), Bool.or_true, decide_eq_true (show 1 ≤ k + 1 ∧ k + 1 ≤ k + 1 by omega), Nat.add_sub_cancel, decide_eq_true hc.1, decide_eq_true hc.2]
      rfl
    · rw [decide_eq_false (fun z : k + 1 = j => e z.symm), Bool.or_false]
      have : (1 ≤ j ∧ j ≤ k) ↔ (1 ≤ j ∧ j ≤ k + 1) := by omega
      rw [decide_eq_decide.mpr this]
  · rw [if_neg hc, hm]
    unfold kbit
    by_cases e : j = k + 1
    · subst e
      rw [decide_eq_false (show ¬ (1 ≤ k + 1 ∧ k + 1 ≤ k) by omega), Bool.false_and, Nat.add_sub_cancel, decide_eq_true (show 1 ≤ k + 1 ∧ k + 1 ≤ k + 1 by omega), Bool.true_and]
      by_cases e1 : fe S k &&& n = n
      · rw [decide_eq_true e1, decide_eq_false (fun z => hc ⟨e1, z⟩)]; rfl
      · rw [decide_eq_false e1]; rfl
    · have : (1 ≤ j ∧ j ≤ k) ↔ (1 ≤ j ∧ j ≤ k + 1) := by omega
      rw [decide_eq_decide.mpr this]
theorem eqn_kind {p : Nat → Nat → Bool} (h1 : p 704 14 = false) (h2 : p 704 15 = false) (h3 : p 646 0 = false) : EqN p S (S_kind S n b) := ((EqN.rf.zN h1).zN h2).zN h3
end KND
def tgKn (t : Tg) : Prop := (t.1 = 3 ∧ t.2 < 100) ∨ tgL 0 t
theorem ph_kind {S : SP} {σ σ' : HS} (hw : WF S) (hp : PH9 S σ) {n b m : Nat} (hF : Fr tgKn σ σ') (hL : LS9 σ' 0 (nC S + 1) (fun c => (3, c))) (e1 : hI σ' 192 (nC S) 0 = nI n) (e2 : hI σ' 193 (nC S) 0 = nI b) (e3 : hI σ' 194 (nC S) 0 = nI m) (hm : ∀ j, m.testBit j = kbit S n b (nS S) j) (hm2 : m < 2 ^ 17) (e6 : ∀ c, c < nC S → KD S σ' c) (e7 : ∀ c, nC S + 1 ≤ c → c < 100 → hV σ' (3, c) = false) : PH9 (S_kind S n b) σ' := by
  obtain ⟨h1, ⟨q1, q2, q3, q4, q5, q6⟩, h3⟩ := hp
  have n6 : ∀ f, f / 64 = 6 → ¬ tgKn (f / 64, 0) := fun f hf => by simp only [tgKn, tgL]; omega
  have n11 : ∀ i, ¬ tgKn (704 / 64, i) := fun i => by simp only [tgKn, tgL]; omega
  refine ⟨h1.fr hF (by simp only [tgKn, tgL]; omega) (by simp only [tgKn, tgL]; omega) (fun f hf => hF.rR (n6 f hf)), ⟨(hF.rI (n6 386 rfl)).trans q1, fun i hi => (hF.rI (f := 704) (n11 0)).trans (q2 i hi), fun f hf => (hF.rI (f := 704) (n11 1)).trans (q3 f hf), by rw [knd_nC]; exact hL, fun c hc => ?_, fun c hc hc2 => e7 c (by rw [knd_nC] at hc; exact hc) hc2⟩, (h3.fr hF (fun t z => by simp only [tgR, tgL, tgKn] at z ⊢; omega) (by have := hw.2.1.1; omega) (hF.rI (n6 392 rfl))).cg (eqn_kind rfl rfl rfl)⟩
  rw [knd_nC] at hc
  by_cases e : c = nC S
  · subst e
    refine ⟨by rw [knd_ne, if_pos rfl]; exact e1, by rw [knd_ba, if_pos rfl]; exact e2, m, hm2, e3, fun j => ?_⟩
    rw [hm]
    unfold kcod kbit
    rw [knd_isN]
    rfl
  · exact knd_KD (e6 c (by omega)) e
section RUL
variable {S : SP} {t u l r : Nat}
theorem rul_nR : nR (S_rule S t u l r) = nR S + 1 := zN_eq
theorem rul_on : on9 (S_rule S t u l r) = on9 S ||| 2 ^ nR S := (zN_f (by decide)).trans zN_eq
theorem rul_ta (q : Nat) : ta (S_rule S t u l r) q = if q = nR S then t else ta S q := by
  unfold S_rule
  show (zN _ _ _ _ _).1 704 23 q = _
  rw [zN_f (by decide), zN_f (by decide), zN_i (by decide), zN_i (by decide), zN_i (by decide), zN_i (by decide), zN_row]
theorem rul_tu (q : Nat) : tu (S_rule S t u l r) q = if q = nR S then u else tu S q := by
  unfold S_rule
  show (zN _ _ _ _ _).1 704 24 q = _
  rw [zN_f (by decide), zN_f (by decide), zN_i (by decide), zN_i (by decide), zN_i (by decide), zN_row, zN_i (by decide)]
theorem rul_le9 (q : Nat) : le9 (S_rule S t u l r) q = if q = nR S then l else le9 S q := by
  unfold S_rule
  show (zN _ _ _ _ _).1 704 25 q = _
  rw [zN_f (by decide), zN_f (by decide), zN_i (by decide), zN_i (by decide), zN_row, zN_i (by decide), zN_i (by decide)]
theorem rul_ri9 (q : Nat) : ri9 (S_rule S t u l r) q = if q = nR S then r else ri9 S q := by
  unfold S_rule
  show (zN _ _ _ _ _).1 704 26 q = _
  rw [zN_f (by decide), zN_f (by decide), zN_i (by decide), zN_row, zN_i (by decide), zN_i (by decide), zN_i (by decide)]
theorem rul_orr (q : Nat) : orr (S_rule S t u l r) q = if q = nR S then nR S else orr S q := by
  unfold S_rule
  show (zN _ _ _ _ _).1 704 27 q = _
  rw [zN_f (by decide), zN_f (by decide), zN_row, zN_i (by decide), zN_i (by decide), zN_i (by decide), zN_i (by decide)]
theorem eqn_rule {p : Nat → Nat → Bool} (h1 : p 704 23 = false) (h2 : p 704 24 = false) (h3 : p 704 25 = false) (h4 : p 704 26 = false) (h5 : p 704 27 = false) (h6 : p 658 0 = false) (h7 : p 659 0 = false) : EqN p S (S_rule S t u l r) := ((((((EqN.rf.zN h1).zN h2).zN h3).zN h4).zN h5).zN h6).zN h7
end RUL
def tgRl (t : Tg) : Prop := (t.1 = 6 ∧ t.2 = 0) ∨ tgR t
theorem ph_rule {S : SP} {σ σ' : HS} (hw : WF S) (hp : PH9 S σ) {t u l r : Nat} (hF : Fr tgRl σ σ') (e0 : ∀ f, f / 64 = 6 → hR σ' f 0 0 = hR σ f 0 0) (e1 : hI σ' 386 0 0 = hI σ 386 0 0) (e2 : hI σ' 392 0 0 = nI (on9 S ||| 2 ^ nR S)) (hL1 : LS9 σ' 1 (nR S + 1) (fun r => (7, r))) (hL2 : LS9 σ' 2 (nR S + 1) (fun p => (7, if p = nR S then nR S else orr S p))) (e3 : ∀ q, q < nR S → RD S σ' q) (e4 : hI σ' 448 (nR S) 0 = nI (nR S) ∧ hR σ' 449 (nR S) 0 = some (3, t) ∧ hI σ' 450 (nR S) 0 = nI u ∧ hR σ' 451 (nR S) 0 = some (sideT l) ∧ hR σ' 452 (nR S) 0 = some (sideT r)) (e5 : ∀ q, nR S + 1 ≤ q → q < 100 → hV σ' (7, q) = false) : PH9 (S_rule S t u l r) σ' := by
  obtain ⟨h1, h2, -⟩ := hp
  refine ⟨h1.fr hF (by simp only [tgRl, tgR, tgL]; omega) (by simp only [tgRl, tgR, tgL]; omega) e0, (h2.fr hF (fun z q => by simp only [tgS, tgRl, tgR, tgL] at q ⊢; omega) (by have := hw.1.2.2.2.1; omega) e1).cg (eqn_rule rfl rfl rfl rfl rfl rfl rfl), ⟨by rw [rul_on]; exact e2, by rw [rul_nR]; exact hL1, ?_, fun q hq => ?_, fun q hq hq2 => e5 q (by rw [rul_nR] at hq; exact hq) hq2⟩⟩
  · rw [rul_nR]
    have : (fun p => ((7 : Nat), orr (S_rule S t u l r) p)) = (fun p => (7, if p = nR S then nR S else orr S p)) := by
      funext p
      rw [rul_orr]
    rw [this]
    exact hL2
  · rw [rul_nR] at hq
    unfold RD
    rw [rul_ta, rul_tu, rul_le9, rul_ri9]
    by_cases e : q = nR S
    · subst e
      rw [if_pos rfl, if_pos rfl, if_pos rfl, if_pos rfl]
      exact e4
    · rw [if_neg e, if_neg e, if_neg e, if_neg e]
      exact e3 q (by omega)
theorem ph_on {S : SP} {σ : HS} (hp : PH9 S σ) {v : Nat} : PH9 (zN S 658 0 0 v) (sI σ 392 0 0 (nI v)) := by
  obtain ⟨h1, h2, q1, q2, q3, q4, q5⟩ := hp
  have k : Fr (fun t => t.1 = 6 ∧ t.2 = 0) σ (sI σ 392 0 0 (nI v)) := Fr.rf.sI ⟨rfl, rfl⟩
  refine ⟨h1.fr k (by simp) (by simp) (fun _ _ => rfl), PHs.cg (S := S) ?_ (EqN.rf.zN rfl), sI_eq.trans (congrArg nI zN_eq.symm), LS9.fr (f := fun r => (7, r)) q2 k (fun t z => by simp only [tgL] at z; omega), LS9.fr (f := fun p => (7, orr S p)) q3 k (fun t z => by simp only [tgL] at z; omega), fun r hr => RD.fr (q4 r hr) k (by simp), q5⟩
  obtain ⟨g1, g2, g3, g4, g5, g6⟩ := h2
  exact ⟨(sI_ne (fun z => absurd z.1 (by decide))).trans g1, fun i hi => (sI_ne (fun z => absurd z.1 (by decide))).trans (g2 i hi), fun f hf => (sI_ne (fun z => absurd z.1 (by decide))).trans (g3 f hf), g4.fr k (fun t z => by simp only [tgL] at z; omega), fun c hc => (g5 c hc).fr k (by simp), g6⟩
/-- two of the order change places -/
theorem ph_order {S : SP} {σ σ' : HS} (hw : WF S) (hp : PH9 S σ) {a b x y : Nat} (hF : Fr (tgL 2) σ σ') (hL : LS9 σ' 2 (nR S) (fun p => (7, orr (zN (zN S 704 27 a x) 704 27 b y) p))) : PH9 (zN (zN S 704 27 a x) 704 27 b y) σ' := by
  obtain ⟨h1, h2, q1, q2, q3, q4, q5⟩ := hp
  have n6 : ∀ f, f / 64 = 6 → ¬ tgL 2 (f / 64, 0) := fun f hf => by simp only [tgL]; omega
  exact ⟨h1.fr hF (by simp only [tgL]; omega) (by simp only [tgL]; omega) (fun f hf => hF.rR (n6 f hf)), (h2.fr hF (fun t z => by simp only [tgS, tgL] at z ⊢; omega) (by have := hw.1.2.2.2.1; omega) (hF.rI (n6 386 rfl))).cg ((EqN.rf.zN rfl).zN rfl), (hF.rI (n6 392 rfl)).trans q1, LS9.fr (f := fun r => (7, r)) q2 hF (fun t z => by simp only [tgL] at z ⊢; omega), hL, fun r hr => RD.fr (q4 r hr) hF (by simp only [tgL]; omega), fun r hr hr2 => (hF.rV (by simp only [tgL]; omega)).trans (q5 r hr hr2)⟩
