/-! the whole object: its parts change, the others stay -/
def nX9 (f i : Nat) : Bool := nLl f i || nLx f i || nLw f i || nLd f i
def rX9 (f i : Nat) : Bool := rLl f i || rLx f i || rLw f i || rLd f i
def nP9 (f i : Nat) : Bool := nPs f i || nPr f i
def rE9 (f i : Nat) : Bool := rEN f i || rDr f i
def tgU (t : Tg) : Prop := tgA t ∨ (t.1 = 12 ∧ t.2 = 101)
def cl9 : String := "java/lang/IndexOutOfBoundsException"
theorem tgU_K {t : Tg} (h : tgU t) : mtB t = false := h.elim tgA_K (fun z => by
  cases e : mtB t with
  | false => rfl
  | true =>
    have k := mtB_iff.mp e
    omega)
section FGX
variable {p q : Nat → Nat → Bool} {P : Tg → Prop} {S S' : SP} {σ σ' : HS}
theorem EqN.sub (h : EqN q S S') (e : ∀ f i, p f i = true → q f i = true) : EqN p S S' := fun f i j z => h f i j (e f i z)
theorem EqR.sub (h : EqR q S S') (e : ∀ f i, p f i = true → q f i = true) : EqR p S S' := fun f i j z => h f i j (e f i z)
theorem EqR.of2 (h : S'.2 = S.2) : EqR p S S' := fun f i j _ => by rw [h]
theorem EqN.of1 (h : S'.1 = S.1) : EqN p S S' := fun f i j _ => by rw [h]
theorem LX9.cg (h : LX9 S σ) (e : EqN nX9 S S') (e2 : EqR rX9 S S') : LX9 S' σ :=
  ⟨h.1, h.2.1.cg (e.sub (fun f i z => by unfold nX9; rw [z]; rfl)) (e2.sub (fun f i z => by unfold rX9; rw [z]; rfl)), h.2.2.1.cg (e.sub (fun f i z => by unfold nX9; rw [z, Bool.or_true]; rfl)) (e2.sub (fun f i z => by unfold rX9; rw [z, Bool.or_true]; rfl)), h.2.2.2.1.cg (e.sub (fun f i z => by unfold nX9; rw [z, Bool.or_true]; rfl)) (e2.sub (fun f i z => by unfold rX9; rw [z, Bool.or_true]; rfl)), h.2.2.2.2.cg (e.sub (fun f i z => by unfold nX9; rw [z, Bool.or_true])) (e2.sub (fun f i z => by unfold rX9; rw [z, Bool.or_true]))⟩
theorem PH9.cg (h : PH9 S σ) (e : EqN nP9 S S') : PH9 S' σ :=
  ⟨h.1, h.2.1.cg (e.sub (fun f i z => by unfold nP9; rw [z]; rfl)), h.2.2.cg (e.sub (fun f i z => by unfold nP9; rw [z, Bool.or_true]))⟩
theorem tgY_A {t : Tg} (h : tgX t ∨ tgW t ∨ tgD t) : tgU t := Or.inl (h.elim (fun z => Or.inr (Or.inr (Or.inr (Or.inl z)))) (fun z => z.elim (fun z => Or.inr (Or.inr (Or.inr (Or.inr (Or.inl z))))) (fun z => Or.inr (Or.inr (Or.inr (Or.inr (Or.inr (Or.inl z))))))))
theorem CI.ph (h : CI S σ) (hw : WF S) (hP : PH9 S' σ') (k : Fr P σ σ') (hn : ∀ t, P t → tgP t) (e : EqN nX9 S S') (e2 : S'.2 = S.2) : CI S' σ' ∧ Fr tgU σ σ' := by
  obtain ⟨h1, h2, h3, h4, h5⟩ := h
  have n9 : ∀ f, f / 64 = 9 → ¬ P (f / 64, 0) := fun f hf q => by
    have := hn _ q
    simp only [tgP] at this
    omega
  refine ⟨⟨hP, (h2.fr k (fun t z q => ?_)).cg (EqR.of2 e2), (h3.fr hw k (fun t z q => ?_)).cg e (EqR.of2 e2), h4.fr k (fun f hf => k.rR (n9 f hf)), DRc.cg ((k.rL (n9 579 rfl)).trans h5) (EqR.of2 e2)⟩, k.wide (fun t z => Or.inl (Or.inl (hn t z)))⟩
  · have := hn t q
    simp only [tgC, tgP] at z this
    omega
  · have := hn t q
    simp only [tgX, tgW, tgD, tgL, tgP] at z this
    omega
theorem CI.lx (h : CI S σ) (hw : WF S) (hL : LX9 S' σ') (k : Fr P σ σ') (hn : ∀ t, P t → tgX t ∨ tgW t ∨ tgD t) (e : EqN nP9 S S') (e2 : EqR rE9 S S') : CI S' σ' ∧ Fr tgU σ σ' := by
  obtain ⟨h1, h2, h3, h4, h5⟩ := h
  have n9 : ∀ f, f / 64 = 9 → ¬ P (f / 64, 0) := fun f hf q => by
    have := hn _ q
    simp only [tgX, tgW, tgD, tgL] at this
    omega
  refine ⟨⟨(h1.fr hw k (fun t z q => ?_)).cg e, (h2.fr k (fun t z q => ?_)).cg (e2.sub (fun f i z => by unfold rE9; rw [z]; rfl)), hL, h4.fr k (fun f hf => k.rR (n9 f hf)), DRc.cg ((k.rL (n9 579 rfl)).trans h5) (e2.sub (fun f i z => by unfold rE9; rw [z, Bool.or_true]))⟩, k.wide (fun t z => tgY_A (hn t z))⟩
  · have := hn t q
    simp only [tgX, tgW, tgD, tgL, tgP] at z this
    omega
  · have := hn t q
    simp only [tgX, tgW, tgD, tgL, tgC] at z this
    omega
theorem CI.put (h : CI S σ) (hw : WF S) {r : List Nat} : CI (zR S 647 0 0 (some r)) (sL σ 579 0 0 (enc5 r)) ∧ Fr tgU σ (sL σ 579 0 0 (enc5 r)) := by
  obtain ⟨h1, h2, h3, h4, h5⟩ := h
  have k : Fr (fun t => t.1 = 9 ∧ t.2 = 0) σ (sL σ 579 0 0 (enc5 r)) := Fr.rf.sL (f := 579) ⟨rfl, rfl⟩
  refine ⟨⟨(h1.fr hw k (fun t z q => ?_)).cg EqN.rf.zR, (h2.fr k (fun t z q => ?_)).cg (EqR.rf.zR rfl), (h3.fr hw k (fun t z q => ?_)).noDraft, h4.fr k (fun f hf => rfl), ?_⟩, k.wide (fun t z => Or.inl (Or.inr (Or.inr (Or.inr (Or.inr (Or.inr (Or.inr z)))))))⟩
  · simp only [tgP] at z
    omega
  · simp only [tgC] at z
    omega
  · simp only [tgX, tgW, tgD, tgL] at z
    omega
  · show hL (sL σ 579 0 0 (enc5 r)) 579 0 0 = enc5 (((zR S 647 0 0 (some r)).2 647 0 0).getD [])
    rw [zR_eq]
    exact sL_eq
theorem CI.wipe (h : CI S σ) (hw : WF S) : CI (noDraft S) (sL σ 579 0 0 (lN 0)) ∧ Fr tgU σ (sL σ 579 0 0 (lN 0)) := h.put hw (r := [])
theorem CI.ending (h : CI S σ) (hw : WF S) {c : Nat} {r : List Nat} {f : Nat → Option (List Nat)} (hc : c < 8) (hf : ∀ u, u < 8 → (f u).getD [] = en S u) (hC : CR9 σ' 100 (fun u => if u = c then some r else f u)) (k : Fr (tgC 100) σ σ') : CI (zR S 768 411 c (some r)) σ' ∧ Fr tgU σ σ' := by
  obtain ⟨h1, h2, h3, h4, h5⟩ := h
  refine ⟨⟨(h1.fr hw k (fun t z q => ?_)).cg EqN.rf.zR, ⟨_, hC, fun u hu => ?_⟩, (h3.fr hw k (fun t z q => ?_)).cg EqN.rf.zR (EqR.rf.zR rfl), h4.fr k (fun f hf => k.rR (fun q => ?_)), DRc.cg ((k.rL (f := 579) (fun q => ?_)).trans h5) (EqR.rf.zR rfl)⟩, k.wide (fun t z => Or.inl (Or.inr (Or.inl z)))⟩
  · simp only [tgC, tgP] at z q
    omega
  · show (if u = c then some r else f u).getD [] = ((zR S 768 411 c (some r)).2 768 411 u).getD []
    rw [zR_row]
    by_cases e : u = c
    · rw [if_pos e, if_pos e]
    · rw [if_neg e, if_neg e]
      exact hf u hu
  · simp only [tgC, tgX, tgW, tgD, tgL] at z q
    omega
  · simp only [tgC] at q
    omega
  · simp only [tgC] at q
    omega
end FGX
/-! the sets that fit, as bits -/
theorem sets_all : ∀ r, r < 7 → (((-1 : Int64)).toUInt64 >>> ((nI 64 - nI (2 ^ r)).toInt64.toUInt64 &&& Int64.toUInt64 63)).toInt64 = lN (2 ^ 2 ^ r - 1) := by decide +kernel
theorem clrS_set {m s : Nat} (hm : m < 2 ^ 64) (hs : s < 64) : lN m &&& (lN 1 <<< ((nI s).toInt64 &&& 63) ^^^ (-1)) = lN (m &&& (2 ^ s ^^^ (2 ^ 64 - 1))) := by
  rw [shlL hs, show (-1 : Int64) = lN (2 ^ 64 - 1) from by decide +kernel, lN_xor, wb_and hm (Nat.xor_lt_two_pow (Nat.pow_lt_pow_right (by decide) hs) (by decide))]
theorem clrS_bit {m s j : Nat} (hj : j < 64) : (m &&& (2 ^ s ^^^ (2 ^ 64 - 1))).testBit j = (m.testBit j && decide (j ≠ s)) := by
  rw [Nat.testBit_and, Nat.testBit_xor, Nat.testBit_two_pow, Nat.testBit_two_pow_sub_one, decide_eq_true hj]
  by_cases e : s = j
  · rw [decide_eq_true e, decide_eq_false (show ¬ j ≠ s from fun z => z e.symm)]; rfl
  · rw [decide_eq_false e, decide_eq_true (show j ≠ s from fun z => e z.symm)]; rfl
theorem bitz {b : Bool} : lN b.toNat = lN 0 ↔ b = false := by
  cases b
  · exact ⟨fun _ => rfl, fun _ => rfl⟩
  · exact ⟨fun z => absurd z (by decide), fun z => by cases z⟩
theorem cnt_bits {m n : Nat} (h : ∀ j, m.testBit j = true → j < n) (hn : n ≤ 64) : cnt m 64 = fb_ct (fun k => m.testBit k) n := by
  rw [cnt_ct, ct_cut hn (fun i hi => by
    cases e : m.testBit i with
    | false => rfl
    | true => exact absurd (h i e) (by omega))]
theorem ones_cnt {s : Nat} (hs : s < 64) : cnt s 8 = ones s := by
  rw [cnt_ct]
  exact ct_cut (by decide) (fun i hi => Nat.testBit_lt_two_pow (Nat.lt_of_lt_of_le hs (Nat.pow_le_pow_right (n := 2) (i := 6) (by decide) hi)))
/-- what the sets that fit tell, behind k words -/
def ftB (S : SP) (k s : Nat) : Bool := decide (s < 2 ^ nR S) && (List.range k).all (fun w => !bare S w || fitsBy S w s)
theorem ftB_end {S : SP} (s : Nat) : ftB S (nW S) s = (decide (s < 2 ^ nR S) && fitset S s) := rfl
theorem ftB_succ {S : SP} {k s : Nat} : ftB S (k + 1) s = (ftB S k s && (!bare S k || fitsBy S k s)) := by
  unfold ftB
  rw [all_succ, Bool.and_assoc]
theorem pow_R {S : SP} (hw : WF S) : 2 ^ nR S ≤ 64 := Nat.le_trans (Nat.pow_le_pow_right (by decide) hw.2.1.1) (by decide)
