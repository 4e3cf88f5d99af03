/-! the object is made -/
abbrev S00 : SP := S9 64 128
theorem S00_N {f i j : Nat} (h1 : ¬ (f = 704 ∧ i = 12 ∧ 64 ≤ j)) (h2 : ¬ (f = 704 ∧ (i = 25 ∨ i = 26))) : S00.1 f i j = 0 := by
  show (if f = 704 ∧ i = 12 ∧ 64 ≤ j then 1 else if f = 704 ∧ (i = 25 ∨ i = 26) then 2 else 0) = 0
  rw [if_neg h1, if_neg h2]
theorem S00_R {f i j : Nat} : (S00.2 f i j).getD [] = [] := by
  show (if f = 768 ∧ i = 412 ∧ j < 128 then none else some []).getD [] = ([] : List Nat)
  split <;> rfl
theorem S00_some {f i j : Nat} {r : List Nat} (h : S00.2 f i j = some r) : r = [] := by
  have k := S00_R (f := f) (i := i) (j := j)
  rw [h] at k
  exact k
theorem S00_x {l c : Nat} (hl : l < 16) (hc : c < 8) : xc9 S00 l c = none := by
  show (if 768 = 768 ∧ 412 = 412 ∧ 8 * l + c < 128 then none else some []) = (none : Option (List Nat))
  rw [if_pos ⟨rfl, rfl, by omega⟩]
theorem WF00 : WF S00 := by
  have okn : ∀ r, r = ([] : List Nat) → okS S00 r := fun r e => by rw [e]; exact okS_nil
  have eS : nS S00 = 0 := S00_N (by decide) (by decide)
  have eC : nC S00 = 0 := S00_N (by decide) (by decide)
  have eR : nR S00 = 0 := S00_N (by decide) (by decide)
  have eL : nL S00 = 0 := S00_N (by decide) (by decide)
  have eW : nW S00 = 0 := S00_N (by decide) (by decide)
  have eD : nD S00 = 0 := S00_N (by decide) (by decide)
  have eO : on9 S00 = 0 := S00_N (by decide) (by decide)
  have et : ∀ l, th S00 l = 0 := fun l => S00_N (by omega) (by omega)
  have ewi : ∀ f, f < 64 → wi S00 f = 0 := fun f hf => S00_N (by omega) (by omega)
  refine ⟨⟨by omega, fun f hf => ⟨by rw [ewi f hf]; omega, fun z => absurd (ewi f hf) z⟩, fun i hi => absurd hi (by omega), by omega, fun c hc => absurd hc (by omega)⟩, ⟨by omega, fun r hr => absurd hr (by omega), fun r hr => absurd hr (by omega), fun p q hp => absurd hp (by omega), by rw [eO]; exact Nat.two_pow_pos _⟩, ⟨by omega, fun l hl => absurd hl (by omega), fun c => ⟨okn _ S00_R, by rw [show en S00 c = [] from S00_R]; decide⟩, okn _ S00_R, fun j r z => okn r (S00_some z), fun j r z => okn r (S00_some z), fun l => by rw [et l]; decide, fun l _ => et l, fun l c _ h2 h3 => S00_x h2 h3⟩, ⟨by omega, fun w => okn _ S00_R, fun w hw => absurd hw (by omega)⟩, ⟨by omega, fun d hd => absurd hd (by omega), fun i j _ hj => absurd hj (by omega), fun i hi => absurd hi (by omega), fun i hi => absurd hi (by omega), fun k hk => absurd hk (by omega)⟩⟩
theorem LS9.nil {σ : HS} {a : Nat} {f : Nat → Tg} (h : LI σ a 0 []) : LS9 σ a 0 f := ⟨0, h⟩
/-- a step of a constructor: a new thing t stands in the field f0 of the object (K, 0) -/
def St (K f0 : Nat) (t : Tg) (σ σ' : HS) : Prop := Fr (fun u => u = t ∨ u = (K, 0)) σ σ' ∧ (∀ f, f / 64 = K → f ≠ f0 → hR σ' f 0 0 = hR σ f 0 0) ∧ (∀ f, f / 64 = K → hI σ' f 0 0 = hI σ f 0 0) ∧ hR σ' f0 0 0 = some t ∧ hV σ' t = true
section STS
variable {K f0 : Nat} {t : Tg} {σ σ1 σ2 : HS}
theorem St.mk9 (hk : t.1 ≠ K) (hf : f0 / 64 = K) {q n : Nat} (hv : hV σ t = false) (k : Fr (fun u => u = t) (sNew σ t q n) σ2) : St K f0 t σ (sR σ2 f0 0 0 (some t)) := by
  have e : Fr (fun u => u = t ∨ u = (K, 0)) σ (sNew σ t q n) := Fr.rf.new hv (Or.inl rfl)
  have ne : ∀ f, f / 64 = K → ¬ (f / 64 = t.1 ∧ 0 = t.2) := fun f h z => hk (z.1.symm.trans h)
  refine ⟨(e.tr (k.wide (fun u z => Or.inl z))).sR (Or.inr (by rw [hf])), fun f h hne => ?_, fun f h => ?_, sR_eq, k.live up1_eq⟩
  · exact (up3_ne (fun z => hne z.1)).trans ((k.rR (fun z => hk (by rw [← z]; exact h))).trans (new_Rne (ne f h)))
  · exact (k.rI (fun z => hk (by rw [← z]; exact h))).trans (new_Ine (ne f h))
theorem St.arr (hk : t.1 ≠ K) (hf : f0 / 64 = K) {q n : Nat} (hv : hV σ t = false) : St K f0 t σ (sR (sNew σ t q n) f0 0 0 (some t)) ∧ hN (sR (sNew σ t q n) f0 0 0 (some t)) t.1 t.2 = n ∧ ∀ j, hI (sR (sNew σ t q n) f0 0 0 (some t)) (64 * t.1) t.2 j = 0 :=
  ⟨St.mk9 hk hf hv Fr.rf, if_pos ⟨rfl, rfl⟩, fun j => new_I (q := q) (n := n) (Nat.mul_div_cancel_left _ (by decide))⟩
theorem St.lst {a : Nat} (hk : 0 ≠ K) (hk2 : 14 ≠ K) (hf : f0 / 64 = K) {q : Nat} (hv : hV σ (0, a) = false) (k : Fr (fun u => u.1 = 0 ∧ u.2 = a) (sNew σ (0, a) q 0) σ2) (hl : LI σ2 a 0 []) : St K f0 (0, a) σ (sR σ2 f0 0 0 (some (0, a))) ∧ LS9 (sR σ2 f0 0 0 (some (0, a))) a 0 (fun _ => (0, 0)) := by
  refine ⟨St.mk9 hk hf hv (k.wide (fun u z => Prod.ext z.1 z.2)), LS9.fr (P := fun u => u = (K, 0)) ⟨0, hl⟩ (Fr.rf.sR (by rw [hf])) (fun u z y => ?_)⟩
  have h1 : u.1 = K := by rw [y]
  have h2 : u.2 = 0 := by rw [y]
  simp only [tgL] at z
  omega
theorem St.knd {c : Nat} (hk : 3 ≠ K) (hf : f0 / 64 = K) {q : Nat} (hv : hV σ (3, c) = false) (x y z : Int32) : St K f0 (3, c) σ (sR (sI (sI (sI (sNew σ (3, c) q 0) 192 c 0 x) 193 c 0 y) 194 c 0 z) f0 0 0 (some (3, c))) ∧ hI (sR (sI (sI (sI (sNew σ (3, c) q 0) 192 c 0 x) 193 c 0 y) 194 c 0 z) f0 0 0 (some (3, c))) 194 c 0 = z :=
  ⟨St.mk9 hk hf hv (((Fr.rf.sI (P := fun u => u = (3, c)) (f := 192) (i := c) (j := 0) (v := x) (show ((192 / 64, c) : Tg) = (3, c) from rfl)).sI (f := 193) (i := c) (j := 0) (v := y) (show ((193 / 64, c) : Tg) = (3, c) from rfl)).sI (f := 194) (i := c) (j := 0) (v := z) (show ((194 / 64, c) : Tg) = (3, c) from rfl)), sI_eq⟩
end STS
/-- the tags that are not there when the object is made -/
def tgF5 (t : Tg) : Prop := (t.1 = 11 ∧ t.2 < 2) ∨ (t.1 = 0 ∧ t.2 < 3) ∨ (t.1 = 14 ∧ t.2 / 64 < 3) ∨ (t.1 = 3 ∧ t.2 < 102) ∨ (t.1 = 12 ∧ t.2 = 101) ∨ (t.1 = 7 ∧ t.2 < 100)
def tgF4 (t : Tg) : Prop := (t.1 = 0 ∧ 3 ≤ t.2 ∧ t.2 < 6) ∨ (t.1 = 14 ∧ 3 ≤ t.2 / 64 ∧ t.2 / 64 < 6) ∨ ((t.1 = 1 ∨ t.1 = 12) ∧ (t.2 < 100 ∨ 1000 ≤ t.2)) ∨ t.1 = 2 ∨ (t.1 = 4 ∧ t.2 < 100) ∨ (t.1 = 8 ∧ t.2 < 100)
def tgPi (t : Tg) : Prop := (t.1 = 6 ∧ t.2 = 0) ∨ (t.1 = 11 ∧ t.2 < 2) ∨ (t.1 = 0 ∧ t.2 < 3) ∨ (t.1 = 3 ∧ 100 ≤ t.2 ∧ t.2 ≤ 101) ∨ (t.1 = 12 ∧ t.2 = 101)
def tgXi (t : Tg) : Prop := (t.1 = 5 ∧ t.2 = 0) ∨ (t.1 = 0 ∧ 3 ≤ t.2 ∧ t.2 < 6)
theorem LS9.cg0 {σ : HS} {a : Nat} {f g : Nat → Tg} (h : LS9 σ a 0 f) : LS9 σ a 0 g := h
set_option maxHeartbeats 4000000 in
set_option maxRecDepth 100000 in
theorem c_X5_init (L9 : Launch) (w9 : Wd) {σ : HS} {a0 : Nat} (ha0 : At σ (6, 0) a0) (h386 : hI σ 386 0 0 = nI 0) (h392 : hI σ 392 0 0 = nI 0) (hz : ∀ t, tgF5 t → hV σ t = false) : MJ L9 w9 yX5_init cX5_init 1 none ({ frames := 4, cells := 8, slots := 175, locals := 72 } : Room) [.ref a0] σ (fun a9 σ' => a9 = none ∧ PH9 S00 σ' ∧ Fr tgPi σ σ') := by
  refine MJ.of (by decide +kernel) (Nat.le_of_ble_eq_true rfl) (fun X hX1 hX2 C Q hinit => ?_)
  subst hX1; subst hX2
  show J X 0 0 σ [(0, .ref a0)] [] 0
  have hv1 : hV σ (11, 0) = false := (hz (11, 0) (by unfold tgF5; first | decide | (dsimp only; omega)))
  refine j_aload_n (pc := 0) C dX5_init_0 rfl 0 rfl ?_
  refine j_objInit (pc := 1) C (rm0 := ({ frames := 4, cells := 8, slots := 175, locals := 72 } : Room)) Q.1 wm_94 wm_87 wm_88 rfl dX5_init_1 ⟨by decide, by decide⟩ ?_
  refine j_aload_n (pc := 4) C dX5_init_4 rfl 0 rfl ?_
  refine j_bipush (pc := 5) C (nI 32) dX5_init_5 (by decide) ?_
  refine j_newa (pc := 7) C (k' := 1) (n' := 32) (rm0 := ({ frames := 4, cells := 8, slots := 175, locals := 72 } : Room)) (11, 0) Q.1 wm_121 rfl (Or.inl ⟨rfl, rfl⟩) hv1 (M := 32) rfl (by decide) dX5_init_7 ⟨by decide, by decide⟩ rfl rfl (fun q1 => ?_)
  show J X 1 32 (sNew σ (11, 0) q1 32) [(0, .ref a0)] [.ref q1, .ref a0] 9
  refine j_putR (pc := 9) C (11, 0) (At.new (σ := σ) (t := (11, 0)) (q := q1) (n := 32)).2 (Or.inl (At.new (σ := σ) (t := (11, 0)) (q := q1) (n := 32)).1) fp_X5_11 (ha0.ext (Ext.new hv1)) rfl rfl (Or.inr ⟨rfl, hinit rfl⟩) rfl (by decide) (f := 384) rfl dX5_init_9 ?_
  obtain ⟨hS1, hN1, hZ1⟩ := St.arr (f0 := 384) (show (11 : Nat) ≠ 6 by decide) rfl (q := q1) (n := 32) hv1
  generalize sR (sNew σ (11, 0) q1 32) 384 0 0 (some (11, 0)) = τ1 at hS1 hN1 hZ1 ⊢
  show J X 1 32 τ1 [(0, .ref a0)] [] 12
  have hv2 : hV τ1 (11, 1) = false := ((hS1.1.rV (t := (11, 1)) (by decide)).trans (hz (11, 1) (by unfold tgF5; first | decide | (dsimp only; omega))))
  refine j_aload_n (pc := 12) C dX5_init_12 rfl 0 rfl ?_
  refine j_bipush (pc := 13) C (nI 64) dX5_init_13 (by decide) ?_
  refine j_newa (pc := 15) C (k' := 2) (n' := 96) (rm0 := ({ frames := 4, cells := 8, slots := 175, locals := 72 } : Room)) (11, 1) Q.1 wm_121 rfl (Or.inl ⟨rfl, rfl⟩) hv2 (M := 64) rfl (by decide) dX5_init_15 ⟨by decide, by decide⟩ rfl rfl (fun q2 => ?_)
  show J X 2 96 (sNew τ1 (11, 1) q2 64) [(0, .ref a0)] [.ref q2, .ref a0] 17
  refine j_putR (pc := 17) C (11, 1) (At.new (σ := τ1) (t := (11, 1)) (q := q2) (n := 64)).2 (Or.inl (At.new (σ := τ1) (t := (11, 1)) (q := q2) (n := 64)).1) fp_X5_17 ((hS1.1.at ha0).ext (Ext.new hv2)) rfl rfl (Or.inr ⟨rfl, hinit rfl⟩) rfl (by decide) (f := 385) rfl dX5_init_17 ?_
  obtain ⟨hS2, hN2, hZ2⟩ := St.arr (f0 := 385) (show (11 : Nat) ≠ 6 by decide) rfl (q := q2) (n := 64) hv2
  generalize sR (sNew τ1 (11, 1) q2 64) 385 0 0 (some (11, 1)) = τ2 at hS2 hN2 hZ2 ⊢
  show J X 2 96 τ2 [(0, .ref a0)] [] 20
  have hv3 : hV τ2 (0, 0) = false := ((hS2.1.rV (t := (0, 0)) (by decide)).trans ((hS1.1.rV (t := (0, 0)) (by decide)).trans (hz (0, 0) (by unfold tgF5; first | decide | (dsimp only; omega)))))
  refine j_aload_n (pc := 20) C dX5_init_20 rfl 0 rfl ?_
  refine j_new (pc := 21) C (k' := 3) (n' := 99) (rm0 := ({ frames := 4, cells := 8, slots := 175, locals := 72 } : Room)) (0, 0) Q.1 np_X5_20 hv3 dX5_init_21 ⟨by decide, by decide⟩ rfl rfl (fun q3 => ?_)
  show J X 3 99 (sNew τ2 (0, 0) q3 0) [(0, .ref a0)] [.ref q3, .ref a0] 24
  refine j_dup (pc := 24) C dX5_init_24 rfl ?_
  refine j_callI (pc := 25) C [] [.ref q3, .ref a0] (rm0 := ({ frames := 4, cells := 8, slots := 175, locals := 72 } : Room)) (k' := 3) (n' := 99) Q.1 (k_listI (xl X) (xw X) (At.new (σ := τ2) (t := (0, 0)) (q := q3) (n := 0)) (new_I (t := (0, 0)) rfl) (fun c9 hc9 => (new_V (t := (0, 0)) (fun z => absurd (show (14 : Nat) = 0 from congrArg Prod.fst z) (by decide))).trans ((hS2.1.rV (t := (14, 64 * 0 + c9)) (fun z => z.elim (fun z => absurd (show (14 : Nat) = 11 from congrArg Prod.fst z) (by decide)) (fun z => absurd (show (14 : Nat) = 6 from congrArg Prod.fst z) (by decide)))).trans ((hS1.1.rV (t := (14, 64 * 0 + c9)) (fun z => z.elim (fun z => absurd (show (14 : Nat) = 11 from congrArg Prod.fst z) (by decide)) (fun z => absurd (show (14 : Nat) = 6 from congrArg Prod.fst z) (by decide)))).trans (hz (14, 64 * 0 + c9) (by unfold tgF5; first | decide | (dsimp only; omega))))))) mp_Jx4a65c_init_da8c8 wm_97 rfl rfl (Nat.le_of_ble_eq_true rfl) dX5_init_25 ⟨by decide, by decide⟩ ⟨Nat.le_of_ble_eq_true rfl, Nat.le_of_ble_eq_true rfl⟩ rfl rfl (fun v8 σ3a hp8 => ?_)
  obtain ⟨rfl, hO3, hM3⟩ := hp8
  show J X 3 99 σ3a [(0, .ref a0)] [.ref q3, .ref a0] 28
  refine j_putR (pc := 28) C (0, 0) (hM3.at (At.new (σ := τ2) (t := (0, 0)) (q := q3) (n := 0))).2 (Or.inl (hM3.at (At.new (σ := τ2) (t := (0, 0)) (q := q3) (n := 0))).1) fp_X5_23 (hM3.at ((hS2.1.at (hS1.1.at ha0)).ext (Ext.new hv3))) rfl rfl (Or.inr ⟨rfl, hinit rfl⟩) rfl (by decide) (f := 387) rfl dX5_init_28 ?_
  obtain ⟨hS3, hN3⟩ := St.lst (f0 := 387) (show (0 : Nat) ≠ 6 by decide) (by decide) rfl (q := q3) hv3 hM3 hO3
  generalize sR σ3a 387 0 0 (some (0, 0)) = τ3 at hS3 hN3 ⊢
  show J X 3 99 τ3 [(0, .ref a0)] [] 31
  have hv4 : hV τ3 (3, 100) = false := ((hS3.1.rV (t := (3, 100)) (by decide)).trans ((hS2.1.rV (t := (3, 100)) (by decide)).trans ((hS1.1.rV (t := (3, 100)) (by decide)).trans (hz (3, 100) (by unfold tgF5; first | decide | (dsimp only; omega))))))
  refine j_aload_n (pc := 31) C dX5_init_31 rfl 0 rfl ?_
  refine j_new (pc := 32) C (k' := 4) (n' := 102) (rm0 := ({ frames := 4, cells := 8, slots := 175, locals := 72 } : Room)) (3, 100) Q.1 np_X5_27 hv4 dX5_init_32 ⟨by decide, by decide⟩ rfl rfl (fun q4 => ?_)
  show J X 4 102 (sNew τ3 (3, 100) q4 0) [(0, .ref a0)] [.ref q4, .ref a0] 35
  refine j_dup (pc := 35) C dX5_init_35 rfl ?_
  refine j_iconst (pc := 36) C (nI 0) dX5_init_36 (by decide) ?_
  refine j_iconst (pc := 37) C (nI 0) dX5_init_37 (by decide) ?_
  refine j_iconst (pc := 38) C (-1) dX5_init_38 (by decide) ?_
  refine j_callI (pc := 39) C [.int (nI 0), .int (nI 0), .int (-1)] [.ref q4, .ref a0] (rm0 := ({ frames := 4, cells := 8, slots := 175, locals := 72 } : Room)) (k' := 4) (n' := 102) Q.1 (c_X2_init (xl X) (xw X) (At.new (σ := τ3) (t := (3, 100)) (q := q4) (n := 0)) (nI 0) (nI 0) ((-1))) mp_X2_init wm_124 rfl rfl (Nat.le_of_ble_eq_true rfl) dX5_init_39 ⟨by decide, by decide⟩ ⟨Nat.le_of_ble_eq_true rfl, Nat.le_of_ble_eq_true rfl⟩ rfl rfl (det0 ?_)
  refine j_putR (pc := 42) C (3, 100) (At.new (σ := τ3) (t := (3, 100)) (q := q4) (n := 0)).2 (Or.inl (At.new (σ := τ3) (t := (3, 100)) (q := q4) (n := 0)).1) fp_X5_32 ((hS3.1.at (hS2.1.at (hS1.1.at ha0))).ext (Ext.new hv4)) rfl rfl (Or.inr ⟨rfl, hinit rfl⟩) rfl (by decide) (f := 388) rfl dX5_init_42 ?_
  obtain ⟨hS4, hN4⟩ := St.knd (f0 := 388) (show (3 : Nat) ≠ 6 by decide) rfl (q := q4) hv4 (nI 0) (nI 0) ((-1))
  generalize sR (sI (sI (sI (sNew τ3 (3, 100) q4 0) 192 100 0 (nI 0)) 193 100 0 (nI 0)) 194 100 0 ((-1))) 388 0 0 (some (3, 100)) = τ4 at hS4 hN4 ⊢
  show J X 4 102 τ4 [(0, .ref a0)] [] 45
  have hv5 : hV τ4 (3, 101) = false := ((hS4.1.rV (t := (3, 101)) (by decide)).trans ((hS3.1.rV (t := (3, 101)) (by decide)).trans ((hS2.1.rV (t := (3, 101)) (by decide)).trans ((hS1.1.rV (t := (3, 101)) (by decide)).trans (hz (3, 101) (by unfold tgF5; first | decide | (dsimp only; omega)))))))
  refine j_aload_n (pc := 45) C dX5_init_45 rfl 0 rfl ?_
  refine j_new (pc := 46) C (k' := 5) (n' := 105) (rm0 := ({ frames := 4, cells := 8, slots := 175, locals := 72 } : Room)) (3, 101) Q.1 np_X5_27 hv5 dX5_init_46 ⟨by decide, by decide⟩ rfl rfl (fun q5 => ?_)
  show J X 5 105 (sNew τ4 (3, 101) q5 0) [(0, .ref a0)] [.ref q5, .ref a0] 49
  refine j_dup (pc := 49) C dX5_init_49 rfl ?_
  refine j_iconst (pc := 50) C (nI 0) dX5_init_50 (by decide) ?_
  refine j_iconst (pc := 51) C (nI 0) dX5_init_51 (by decide) ?_
  refine j_iconst (pc := 52) C (nI 1) dX5_init_52 (by decide) ?_
  refine j_callI (pc := 53) C [.int (nI 0), .int (nI 0), .int (nI 1)] [.ref q5, .ref a0] (rm0 := ({ frames := 4, cells := 8, slots := 175, locals := 72 } : Room)) (k' := 5) (n' := 105) Q.1 (c_X2_init (xl X) (xw X) (At.new (σ := τ4) (t := (3, 101)) (q := q5) (n := 0)) (nI 0) (nI 0) (nI 1)) mp_X2_init wm_124 rfl rfl (Nat.le_of_ble_eq_true rfl) dX5_init_53 ⟨by decide, by decide⟩ ⟨Nat.le_of_ble_eq_true rfl, Nat.le_of_ble_eq_true rfl⟩ rfl rfl (det0 ?_)
  refine j_putR (pc := 56) C (3, 101) (At.new (σ := τ4) (t := (3, 101)) (q := q5) (n := 0)).2 (Or.inl (At.new (σ := τ4) (t := (3, 101)) (q := q5) (n := 0)).1) fp_X5_36 ((hS4.1.at (hS3.1.at (hS2.1.at (hS1.1.at ha0)))).ext (Ext.new hv5)) rfl rfl (Or.inr ⟨rfl, hinit rfl⟩) rfl (by decide) (f := 389) rfl dX5_init_56 ?_
  obtain ⟨hS5, hN5⟩ := St.knd (f0 := 389) (show (3 : Nat) ≠ 6 by decide) rfl (q := q5) hv5 (nI 0) (nI 0) (nI 1)
  generalize sR (sI (sI (sI (sNew τ4 (3, 101) q5 0) 192 101 0 (nI 0)) 193 101 0 (nI 0)) 194 101 0 (nI 1)) 389 0 0 (some (3, 101)) = τ5 at hS5 hN5 ⊢
  show J X 5 105 τ5 [(0, .ref a0)] [] 59
  have hv6 : hV τ5 (0, 1) = false := ((hS5.1.rV (t := (0, 1)) (by decide)).trans ((hS4.1.rV (t := (0, 1)) (by decide)).trans ((hS3.1.rV (t := (0, 1)) (by decide)).trans ((hS2.1.rV (t := (0, 1)) (by decide)).trans ((hS1.1.rV (t := (0, 1)) (by decide)).trans (hz (0, 1) (by unfold tgF5; first | decide | (dsimp only; omega))))))))
  refine j_aload_n (pc := 59) C dX5_init_59 rfl 0 rfl ?_
  refine j_new (pc := 60) C (k' := 6) (n' := 108) (rm0 := ({ frames := 4, cells := 8, slots := 175, locals := 72 } : Room)) (0, 1) Q.1 np_X5_20 hv6 dX5_init_60 ⟨by decide, by decide⟩ rfl rfl (fun q6 => ?_)
  show J X 6 108 (sNew τ5 (0, 1) q6 0) [(0, .ref a0)] [.ref q6, .ref a0] 63
  refine j_dup (pc := 63) C dX5_init_63 rfl ?_
  refine j_callI (pc := 64) C [] [.ref q6, .ref a0] (rm0 := ({ frames := 4, cells := 8, slots := 175, locals := 72 } : Room)) (k' := 6) (n' := 108) Q.1 (k_listI (xl X) (xw X) (At.new (σ := τ5) (t := (0, 1)) (q := q6) (n := 0)) (new_I (t := (0, 1)) rfl) (fun c9 hc9 => (new_V (t := (0, 1)) (fun z => absurd (show (14 : Nat) = 0 from congrArg Prod.fst z) (by decide))).trans ((hS5.1.rV (t := (14, 64 * 1 + c9)) (fun z => z.elim (fun z => absurd (show (14 : Nat) = 3 from congrArg Prod.fst z) (by decide)) (fun z => absurd (show (14 : Nat) = 6 from congrArg Prod.fst z) (by decide)))).trans ((hS4.1.rV (t := (14, 64 * 1 + c9)) (fun z => z.elim (fun z => absurd (show (14 : Nat) = 3 from congrArg Prod.fst z) (by decide)) (fun z => absurd (show (14 : Nat) = 6 from congrArg Prod.fst z) (by decide)))).trans ((hS3.1.rV (t := (14, 64 * 1 + c9)) (fun z => z.elim (fun z => absurd (show (14 : Nat) = 0 from congrArg Prod.fst z) (by decide)) (fun z => absurd (show (14 : Nat) = 6 from congrArg Prod.fst z) (by decide)))).trans ((hS2.1.rV (t := (14, 64 * 1 + c9)) (fun z => z.elim (fun z => absurd (show (14 : Nat) = 11 from congrArg Prod.fst z) (by decide)) (fun z => absurd (show (14 : Nat) = 6 from congrArg Prod.fst z) (by decide)))).trans ((hS1.1.rV (t := (14, 64 * 1 + c9)) (fun z => z.elim (fun z => absurd (show (14 : Nat) = 11 from congrArg Prod.fst z) (by decide)) (fun z => absurd (show (14 : Nat) = 6 from congrArg Prod.fst z) (by decide)))).trans (hz (14, 64 * 1 + c9) (by unfold tgF5; first | decide | (dsimp only; omega)))))))))) mp_Jx4a65c_init_da8c8 wm_97 rfl rfl (Nat.le_of_ble_eq_true rfl) dX5_init_64 ⟨by decide, by decide⟩ ⟨Nat.le_of_ble_eq_true rfl, Nat.le_of_ble_eq_true rfl⟩ rfl rfl (fun v8 σ6a hp8 => ?_)
  obtain ⟨rfl, hO6, hM6⟩ := hp8
  show J X 6 108 σ6a [(0, .ref a0)] [.ref q6, .ref a0] 67
  refine j_putR (pc := 67) C (0, 1) (hM6.at (At.new (σ := τ5) (t := (0, 1)) (q := q6) (n := 0))).2 (Or.inl (hM6.at (At.new (σ := τ5) (t := (0, 1)) (q := q6) (n := 0))).1) fp_X5_39 (hM6.at ((hS5.1.at (hS4.1.at (hS3.1.at (hS2.1.at (hS1.1.at ha0))))).ext (Ext.new hv6))) rfl rfl (Or.inr ⟨rfl, hinit rfl⟩) rfl (by decide) (f := 390) rfl dX5_init_67 ?_
  obtain ⟨hS6, hN6⟩ := St.lst (f0 := 390) (show (0 : Nat) ≠ 6 by decide) (by decide) rfl (q := q6) hv6 hM6 hO6
  generalize sR σ6a 390 0 0 (some (0, 1)) = τ6 at hS6 hN6 ⊢
  show J X 6 108 τ6 [(0, .ref a0)] [] 70
  have hv7 : hV τ6 (0, 2) = false := ((hS6.1.rV (t := (0, 2)) (by decide)).trans ((hS5.1.rV (t := (0, 2)) (by decide)).trans ((hS4.1.rV (t := (0, 2)) (by decide)).trans ((hS3.1.rV (t := (0, 2)) (by decide)).trans ((hS2.1.rV (t := (0, 2)) (by decide)).trans ((hS1.1.rV (t := (0, 2)) (by decide)).trans (hz (0, 2) (by unfold tgF5; first | decide | (dsimp only; omega)))))))))
  refine j_aload_n (pc := 70) C dX5_init_70 rfl 0 rfl ?_
  refine j_new (pc := 71) C (k' := 7) (n' := 111) (rm0 := ({ frames := 4, cells := 8, slots := 175, locals := 72 } : Room)) (0, 2) Q.1 np_X5_20 hv7 dX5_init_71 ⟨by decide, by decide⟩ rfl rfl (fun q7 => ?_)
  show J X 7 111 (sNew τ6 (0, 2) q7 0) [(0, .ref a0)] [.ref q7, .ref a0] 74
  refine j_dup (pc := 74) C dX5_init_74 rfl ?_
  refine j_callI (pc := 75) C [] [.ref q7, .ref a0] (rm0 := ({ frames := 4, cells := 8, slots := 175, locals := 72 } : Room)) (k' := 7) (n' := 111) Q.1 (k_listI (xl X) (xw X) (At.new (σ := τ6) (t := (0, 2)) (q := q7) (n := 0)) (new_I (t := (0, 2)) rfl) (fun c9 hc9 => (new_V (t := (0, 2)) (fun z => absurd (show (14 : Nat) = 0 from congrArg Prod.fst z) (by decide))).trans ((hS6.1.rV (t := (14, 64 * 2 + c9)) (fun z => z.elim (fun z => absurd (show (14 : Nat) = 0 from congrArg Prod.fst z) (by decide)) (fun z => absurd (show (14 : Nat) = 6 from congrArg Prod.fst z) (by decide)))).trans ((hS5.1.rV (t := (14, 64 * 2 + c9)) (fun z => z.elim (fun z => absurd (show (14 : Nat) = 3 from congrArg Prod.fst z) (by decide)) (fun z => absurd (show (14 : Nat) = 6 from congrArg Prod.fst z) (by decide)))).trans ((hS4.1.rV (t := (14, 64 * 2 + c9)) (fun z => z.elim (fun z => absurd (show (14 : Nat) = 3 from congrArg Prod.fst z) (by decide)) (fun z => absurd (show (14 : Nat) = 6 from congrArg Prod.fst z) (by decide)))).trans ((hS3.1.rV (t := (14, 64 * 2 + c9)) (fun z => z.elim (fun z => absurd (show (14 : Nat) = 0 from congrArg Prod.fst z) (by decide)) (fun z => absurd (show (14 : Nat) = 6 from congrArg Prod.fst z) (by decide)))).trans ((hS2.1.rV (t := (14, 64 * 2 + c9)) (fun z => z.elim (fun z => absurd (show (14 : Nat) = 11 from congrArg Prod.fst z) (by decide)) (fun z => absurd (show (14 : Nat) = 6 from congrArg Prod.fst z) (by decide)))).trans ((hS1.1.rV (t := (14, 64 * 2 + c9)) (fun z => z.elim (fun z => absurd (show (14 : Nat) = 11 from congrArg Prod.fst z) (by decide)) (fun z => absurd (show (14 : Nat) = 6 from congrArg Prod.fst z) (by decide)))).trans (hz (14, 64 * 2 + c9) (by unfold tgF5; first | decide | (dsimp only; omega))))))))))) mp_Jx4a65c_init_da8c8 wm_97 rfl rfl (Nat.le_of_ble_eq_true rfl) dX5_init_75 ⟨by decide, by decide⟩ ⟨Nat.le_of_ble_eq_true rfl, Nat.le_of_ble_eq_true rfl⟩ rfl rfl (fun v8 σ7a hp8 => ?_)
  obtain ⟨rfl, hO7, hM7⟩ := hp8
  show J X 7 111 σ7a [(0, .ref a0)] [.ref q7, .ref a0] 78
  refine j_putR (pc := 78) C (0, 2) (hM7.at (At.new (σ := τ6) (t := (0, 2)) (q := q7) (n := 0))).2 (Or.inl (hM7.at (At.new (σ := τ6) (t := (0, 2)) (q := q7) (n := 0))).1) fp_X5_42 (hM7.at ((hS6.1.at (hS5.1.at (hS4.1.at (hS3.1.at (hS2.1.at (hS1.1.at ha0)))))).ext (Ext.new hv7))) rfl rfl (Or.inr ⟨rfl, hinit rfl⟩) rfl (by decide) (f := 391) rfl dX5_init_78 ?_
  obtain ⟨hS7, hN7⟩ := St.lst (f0 := 391) (show (0 : Nat) ≠ 6 by decide) (by decide) rfl (q := q7) hv7 hM7 hO7
  generalize sR σ7a 391 0 0 (some (0, 2)) = τ7 at hS7 hN7 ⊢
  show J X 7 111 τ7 [(0, .ref a0)] [] 81
  have hv8 : hV τ7 (12, 101) = false := ((hS7.1.rV (t := (12, 101)) (by decide)).trans ((hS6.1.rV (t := (12, 101)) (by decide)).trans ((hS5.1.rV (t := (12, 101)) (by decide)).trans ((hS4.1.rV (t := (12, 101)) (by decide)).trans ((hS3.1.rV (t := (12, 101)) (by decide)).trans ((hS2.1.rV (t := (12, 101)) (by decide)).trans ((hS1.1.rV (t := (12, 101)) (by decide)).trans (hz (12, 101) (by unfold tgF5; first | decide | (dsimp only; omega))))))))))
  refine j_aload_n (pc := 81) C dX5_init_81 rfl 0 rfl ?_
  refine j_bipush (pc := 82) C (nI 64) dX5_init_82 (by decide) ?_
  refine j_newa (pc := 84) C (k' := 8) (n' := 175) (rm0 := ({ frames := 4, cells := 8, slots := 175, locals := 72 } : Room)) (12, 101) Q.1 wm_170 rfl (Or.inr (Or.inl ⟨rfl, rfl⟩)) hv8 (M := 64) rfl (by decide) dX5_init_84 ⟨by decide, by decide⟩ rfl rfl (fun q8 => ?_)
  show J X 8 175 (sNew τ7 (12, 101) q8 64) [(0, .ref a0)] [.ref q8, .ref a0] 86
  refine j_putR (pc := 86) C (12, 101) (At.new (σ := τ7) (t := (12, 101)) (q := q8) (n := 64)).2 (Or.inl (At.new (σ := τ7) (t := (12, 101)) (q := q8) (n := 64)).1) fp_X5_45 ((hS7.1.at (hS6.1.at (hS5.1.at (hS4.1.at (hS3.1.at (hS2.1.at (hS1.1.at ha0))))))).ext (Ext.new hv8)) rfl rfl (Or.inr ⟨rfl, hinit rfl⟩) rfl (by decide) (f := 393) rfl dX5_init_86 ?_
  obtain ⟨hS8, hN8, hZ8⟩ := St.arr (f0 := 393) (show (12 : Nat) ≠ 6 by decide) rfl (q := q8) (n := 64) hv8
  generalize sR (sNew τ7 (12, 101) q8 64) 393 0 0 (some (12, 101)) = τ8 at hS8 hN8 hZ8 ⊢
  show J X 8 175 τ8 [(0, .ref a0)] [] 89
  have hA : Fr tgPi σ τ8 := ((((((((hS1.1.wide (fun t z => (by rcases z with z | z <;> rw [z] <;> unfold tgPi <;> decide))).tr (hS2.1.wide (fun t z => (by rcases z with z | z <;> rw [z] <;> unfold tgPi <;> decide)))).tr (hS3.1.wide (fun t z => (by rcases z with z | z <;> rw [z] <;> unfold tgPi <;> decide)))).tr (hS4.1.wide (fun t z => (by rcases z with z | z <;> rw [z] <;> unfold tgPi <;> decide)))).tr (hS5.1.wide (fun t z => (by rcases z with z | z <;> rw [z] <;> unfold tgPi <;> decide)))).tr (hS6.1.wide (fun t z => (by rcases z with z | z <;> rw [z] <;> unfold tgPi <;> decide)))).tr (hS7.1.wide (fun t z => (by rcases z with z | z <;> rw [z] <;> unfold tgPi <;> decide)))).tr (hS8.1.wide (fun t z => (by rcases z with z | z <;> rw [z] <;> unfold tgPi <;> decide))))
  have hI0 : ∀ f, f / 64 = 6 → hI τ8 f 0 0 = hI σ f 0 0 := fun f hf => (hS8.2.2.1 f hf).trans ((hS7.2.2.1 f hf).trans ((hS6.2.2.1 f hf).trans ((hS5.2.2.1 f hf).trans ((hS4.2.2.1 f hf).trans ((hS3.2.2.1 f hf).trans ((hS2.2.2.1 f hf).trans (hS1.2.2.1 f hf)))))))
  have hPf : PHf τ8 := ⟨hA.live ha0.1, ⟨(hS8.2.1 384 rfl (by decide)).trans ((hS7.2.1 384 rfl (by decide)).trans ((hS6.2.1 384 rfl (by decide)).trans ((hS5.2.1 384 rfl (by decide)).trans ((hS4.2.1 384 rfl (by decide)).trans ((hS3.2.1 384 rfl (by decide)).trans ((hS2.2.1 384 rfl (by decide)).trans (hS1.2.2.2.1))))))), hS8.1.live (hS7.1.live (hS6.1.live (hS5.1.live (hS4.1.live (hS3.1.live (hS2.1.live (hS1.2.2.2.2))))))), (hS8.1.len (hS7.1.live (hS6.1.live (hS5.1.live (hS4.1.live (hS3.1.live (hS2.1.live (hS1.2.2.2.2)))))))).trans ((hS7.1.len (hS6.1.live (hS5.1.live (hS4.1.live (hS3.1.live (hS2.1.live (hS1.2.2.2.2))))))).trans ((hS6.1.len (hS5.1.live (hS4.1.live (hS3.1.live (hS2.1.live (hS1.2.2.2.2)))))).trans ((hS5.1.len (hS4.1.live (hS3.1.live (hS2.1.live (hS1.2.2.2.2))))).trans ((hS4.1.len (hS3.1.live (hS2.1.live (hS1.2.2.2.2)))).trans ((hS3.1.len (hS2.1.live (hS1.2.2.2.2))).trans ((hS2.1.len (hS1.2.2.2.2)).trans (hN1)))))))⟩, ⟨(hS8.2.1 385 rfl (by decide)).trans ((hS7.2.1 385 rfl (by decide)).trans ((hS6.2.1 385 rfl (by decide)).trans ((hS5.2.1 385 rfl (by decide)).trans ((hS4.2.1 385 rfl (by decide)).trans ((hS3.2.1 385 rfl (by decide)).trans (hS2.2.2.2.1)))))), hS8.1.live (hS7.1.live (hS6.1.live (hS5.1.live (hS4.1.live (hS3.1.live (hS2.2.2.2.2)))))), (hS8.1.len (hS7.1.live (hS6.1.live (hS5.1.live (hS4.1.live (hS3.1.live (hS2.2.2.2.2))))))).trans ((hS7.1.len (hS6.1.live (hS5.1.live (hS4.1.live (hS3.1.live (hS2.2.2.2.2)))))).trans ((hS6.1.len (hS5.1.live (hS4.1.live (hS3.1.live (hS2.2.2.2.2))))).trans ((hS5.1.len (hS4.1.live (hS3.1.live (hS2.2.2.2.2)))).trans ((hS4.1.len (hS3.1.live (hS2.2.2.2.2))).trans ((hS3.1.len (hS2.2.2.2.2)).trans (hN2))))))⟩, (hS8.2.1 387 rfl (by decide)).trans ((hS7.2.1 387 rfl (by decide)).trans ((hS6.2.1 387 rfl (by decide)).trans ((hS5.2.1 387 rfl (by decide)).trans ((hS4.2.1 387 rfl (by decide)).trans (hS3.2.2.2.1))))), ⟨(hS8.2.1 388 rfl (by decide)).trans ((hS7.2.1 388 rfl (by decide)).trans ((hS6.2.1 388 rfl (by decide)).trans ((hS5.2.1 388 rfl (by decide)).trans (hS4.2.2.2.1)))), hS8.1.live (hS7.1.live (hS6.1.live (hS5.1.live (hS4.2.2.2.2)))), (hS8.1.rI (f := 194) (i := 100) (j := 0) (by decide)).trans ((hS7.1.rI (f := 194) (i := 100) (j := 0) (by decide)).trans ((hS6.1.rI (f := 194) (i := 100) (j := 0) (by decide)).trans ((hS5.1.rI (f := 194) (i := 100) (j := 0) (by decide)).trans (hN4))))⟩, ⟨(hS8.2.1 389 rfl (by decide)).trans ((hS7.2.1 389 rfl (by decide)).trans ((hS6.2.1 389 rfl (by decide)).trans (hS5.2.2.2.1))), hS8.1.live (hS7.1.live (hS6.1.live (hS5.2.2.2.2))), (hS8.1.rI (f := 194) (i := 101) (j := 0) (by decide)).trans ((hS7.1.rI (f := 194) (i := 101) (j := 0) (by decide)).trans ((hS6.1.rI (f := 194) (i := 101) (j := 0) (by decide)).trans (hN5)))⟩, (hS8.2.1 390 rfl (by decide)).trans ((hS7.2.1 390 rfl (by decide)).trans (hS6.2.2.2.1)), (hS8.2.1 391 rfl (by decide)).trans (hS7.2.2.2.1), ⟨hS8.2.2.2.1, hS8.2.2.2.2, hN8⟩⟩
  have hPs : PHs S00 τ8 := ⟨(hI0 386 rfl).trans h386, fun i hi => absurd hi (Nat.not_lt_zero i), fun f hf => ((hS8.1.rI (f := 704) (i := 1) (j := f) (by decide)).trans ((hS7.1.rI (f := 704) (i := 1) (j := f) (by decide)).trans ((hS6.1.rI (f := 704) (i := 1) (j := f) (by decide)).trans ((hS5.1.rI (f := 704) (i := 1) (j := f) (by decide)).trans ((hS4.1.rI (f := 704) (i := 1) (j := f) (by decide)).trans ((hS3.1.rI (f := 704) (i := 1) (j := f) (by decide)).trans (hZ2 f))))))).trans (by rw [show wi S00 f = 0 from S00_N (by omega) (by omega)]; rfl), (LS9.fr (LS9.fr (LS9.fr (LS9.fr (LS9.fr (LS9.cg0 hN3) hS4.1 (fun t z y => by rcases y with y | y <;> rw [y] at z <;> simp only [tgL] at z <;> omega)) hS5.1 (fun t z y => by rcases y with y | y <;> rw [y] at z <;> simp only [tgL] at z <;> omega)) hS6.1 (fun t z y => by rcases y with y | y <;> rw [y] at z <;> simp only [tgL] at z <;> omega)) hS7.1 (fun t z y => by rcases y with y | y <;> rw [y] at z <;> simp only [tgL] at z <;> omega)) hS8.1 (fun t z y => by rcases y with y | y <;> rw [y] at z <;> simp only [tgL] at z <;> omega)), fun c hc => absurd hc (Nat.not_lt_zero c), fun c _ hc => (hA.rV (t := (3, c)) (by unfold tgPi; dsimp only; omega)).trans (hz (3, c) (by unfold tgF5; dsimp only; omega))⟩
  have hPr : PHr S00 τ8 := ⟨(hI0 392 rfl).trans h392, (LS9.fr (LS9.fr (LS9.cg0 hN6) hS7.1 (fun t z y => by rcases y with y | y <;> rw [y] at z <;> simp only [tgL] at z <;> omega)) hS8.1 (fun t z y => by rcases y with y | y <;> rw [y] at z <;> simp only [tgL] at z <;> omega)), (LS9.fr (LS9.cg0 hN7) hS8.1 (fun t z y => by rcases y with y | y <;> rw [y] at z <;> simp only [tgL] at z <;> omega)), fun r hr => absurd hr (Nat.not_lt_zero r), fun r _ hr => (hA.rV (t := (7, r)) (by unfold tgPi; dsimp only; omega)).trans (hz (7, r) (by unfold tgF5; dsimp only; omega))⟩
  exact j_vreturn (pc := 89) C Q dX5_init_89 (Nat.le_of_ble_eq_true rfl) (Nat.le_of_ble_eq_true rfl) (⟨rfl, ⟨hPf, hPs, hPr⟩, hA⟩)
set_option maxHeartbeats 4000000 in
set_option maxRecDepth 100000 in
theorem c_X4_init (L9 : Launch) (w9 : Wd) {σ : HS} {a0 : Nat} (ha0 : At σ (5, 0) a0) (hz : ∀ t, tgF4 t → hV σ t = false) : MJ L9 w9 yX4_init cX4_init 1 none ({ frames := 4, cells := 3, slots := 9, locals := 72 } : Room) [.ref a0] σ (fun a9 σ' => a9 = none ∧ LX9 S00 σ' ∧ Fr tgXi σ σ') := by
  refine MJ.of (by decide +kernel) (Nat.le_of_ble_eq_true rfl) (fun X hX1 hX2 C Q hinit => ?_)
  subst hX1; subst hX2
  show J X 0 0 σ [(0, .ref a0)] [] 0
  have hv1 : hV σ (0, 3) = false := (hz (0, 3) (by unfold tgF4; first | decide | (dsimp only; omega)))
  refine j_aload_n (pc := 0) C dX4_init_0 rfl 0 rfl ?_
  refine j_objInit (pc := 1) C (rm0 := ({ frames := 4, cells := 3, slots := 9, locals := 72 } : Room)) Q.1 wm_176 wm_87 wm_88 rfl dX4_init_1 ⟨by decide, by decide⟩ ?_
  refine j_aload_n (pc := 4) C dX4_init_4 rfl 0 rfl ?_
  refine j_new (pc := 5) C (k' := 1) (n' := 3) (rm0 := ({ frames := 4, cells := 3, slots := 9, locals := 72 } : Room)) (0, 3) Q.1 np_X4_9 hv1 dX4_init_5 ⟨by decide, by decide⟩ rfl rfl (fun q1 => ?_)
  show J X 1 3 (sNew σ (0, 3) q1 0) [(0, .ref a0)] [.ref q1, .ref a0] 8
  refine j_dup (pc := 8) C dX4_init_8 rfl ?_
  refine j_callI (pc := 9) C [] [.ref q1, .ref a0] (rm0 := ({ frames := 4, cells := 3, slots := 9, locals := 72 } : Room)) (k' := 1) (n' := 3) Q.1 (k_listI (xl X) (xw X) (At.new (σ := σ) (t := (0, 3)) (q := q1) (n := 0)) (new_I (t := (0, 3)) rfl) (fun c9 hc9 => (new_V (t := (0, 3)) (fun z => absurd (show (14 : Nat) = 0 from congrArg Prod.fst z) (by decide))).trans (hz (14, 64 * 3 + c9) (by unfold tgF4; first | decide | (dsimp only; omega))))) mp_Jx4a65c_init_da8c8 wm_178 rfl rfl (Nat.le_of_ble_eq_true rfl) dX4_init_9 ⟨by decide, by decide⟩ ⟨Nat.le_of_ble_eq_true rfl, Nat.le_of_ble_eq_true rfl⟩ rfl rfl (fun v8 σ1a hp8 => ?_)
  obtain ⟨rfl, hO1, hM1⟩ := hp8
  show J X 1 3 σ1a [(0, .ref a0)] [.ref q1, .ref a0] 12
  refine j_putR (pc := 12) C (0, 3) (hM1.at (At.new (σ := σ) (t := (0, 3)) (q := q1) (n := 0))).2 (Or.inl (hM1.at (At.new (σ := σ) (t := (0, 3)) (q := q1) (n := 0))).1) fp_X4_12 (hM1.at (ha0.ext (Ext.new hv1))) rfl rfl (Or.inr ⟨rfl, hinit rfl⟩) rfl (by decide) (f := 320) rfl dX4_init_12 ?_
  obtain ⟨hS1, hN1⟩ := St.lst (f0 := 320) (show (0 : Nat) ≠ 5 by decide) (by decide) rfl (q := q1) hv1 hM1 hO1
  generalize sR σ1a 320 0 0 (some (0, 3)) = τ1 at hS1 hN1 ⊢
  show J X 1 3 τ1 [(0, .ref a0)] [] 15
  have hv2 : hV τ1 (0, 4) = false := ((hS1.1.rV (t := (0, 4)) (by decide)).trans (hz (0, 4) (by unfold tgF4; first | decide | (dsimp only; omega))))
  refine j_aload_n (pc := 15) C dX4_init_15 rfl 0 rfl ?_
  refine j_new (pc := 16) C (k' := 2) (n' := 6) (rm0 := ({ frames := 4, cells := 3, slots := 9, locals := 72 } : Room)) (0, 4) Q.1 np_X4_9 hv2 dX4_init_16 ⟨by decide, by decide⟩ rfl rfl (fun q2 => ?_)
  show J X 2 6 (sNew τ1 (0, 4) q2 0) [(0, .ref a0)] [.ref q2, .ref a0] 19
  refine j_dup (pc := 19) C dX4_init_19 rfl ?_
  refine j_callI (pc := 20) C [] [.ref q2, .ref a0] (rm0 := ({ frames := 4, cells := 3, slots := 9, locals := 72 } : Room)) (k' := 2) (n' := 6) Q.1 (k_listI (xl X) (xw X) (At.new (σ := τ1) (t := (0, 4)) (q := q2) (n := 0)) (new_I (t := (0, 4)) rfl) (fun c9 hc9 => (new_V (t := (0, 4)) (fun z => absurd (show (14 : Nat) = 0 from congrArg Prod.fst z) (by decide))).trans ((hS1.1.rV (t := (14, 64 * 4 + c9)) (fun z => z.elim (fun z => absurd (show (14 : Nat) = 0 from congrArg Prod.fst z) (by decide)) (fun z => absurd (show (14 : Nat) = 5 from congrArg Prod.fst z) (by decide)))).trans (hz (14, 64 * 4 + c9) (by unfold tgF4; first | decide | (dsimp only; omega)))))) mp_Jx4a65c_init_da8c8 wm_178 rfl rfl (Nat.le_of_ble_eq_true rfl) dX4_init_20 ⟨by decide, by decide⟩ ⟨Nat.le_of_ble_eq_true rfl, Nat.le_of_ble_eq_true rfl⟩ rfl rfl (fun v8 σ2a hp8 => ?_)
  obtain ⟨rfl, hO2, hM2⟩ := hp8
  show J X 2 6 σ2a [(0, .ref a0)] [.ref q2, .ref a0] 23
  refine j_putR (pc := 23) C (0, 4) (hM2.at (At.new (σ := τ1) (t := (0, 4)) (q := q2) (n := 0))).2 (Or.inl (hM2.at (At.new (σ := τ1) (t := (0, 4)) (q := q2) (n := 0))).1) fp_X4_18 (hM2.at ((hS1.1.at ha0).ext (Ext.new hv2))) rfl rfl (Or.inr ⟨rfl, hinit rfl⟩) rfl (by decide) (f := 321) rfl dX4_init_23 ?_
  obtain ⟨hS2, hN2⟩ := St.lst (f0 := 321) (show (0 : Nat) ≠ 5 by decide) (by decide) rfl (q := q2) hv2 hM2 hO2
  generalize sR σ2a 321 0 0 (some (0, 4)) = τ2 at hS2 hN2 ⊢
  show J X 2 6 τ2 [(0, .ref a0)] [] 26
  have hv3 : hV τ2 (0, 5) = false := ((hS2.1.rV (t := (0, 5)) (by decide)).trans ((hS1.1.rV (t := (0, 5)) (by decide)).trans (hz (0, 5) (by unfold tgF4; first | decide | (dsimp only; omega)))))
  refine j_aload_n (pc := 26) C dX4_init_26 rfl 0 rfl ?_
  refine j_new (pc := 27) C (k' := 3) (n' := 9) (rm0 := ({ frames := 4, cells := 3, slots := 9, locals := 72 } : Room)) (0, 5) Q.1 np_X4_9 hv3 dX4_init_27 ⟨by decide, by decide⟩ rfl rfl (fun q3 => ?_)
  show J X 3 9 (sNew τ2 (0, 5) q3 0) [(0, .ref a0)] [.ref q3, .ref a0] 30
  refine j_dup (pc := 30) C dX4_init_30 rfl ?_
  refine j_callI (pc := 31) C [] [.ref q3, .ref a0] (rm0 := ({ frames := 4, cells := 3, slots := 9, locals := 72 } : Room)) (k' := 3) (n' := 9) Q.1 (k_listI (xl X) (xw X) (At.new (σ := τ2) (t := (0, 5)) (q := q3) (n := 0)) (new_I (t := (0, 5)) rfl) (fun c9 hc9 => (new_V (t := (0, 5)) (fun z => absurd (show (14 : Nat) = 0 from congrArg Prod.fst z) (by decide))).trans ((hS2.1.rV (t := (14, 64 * 5 + c9)) (fun z => z.elim (fun z => absurd (show (14 : Nat) = 0 from congrArg Prod.fst z) (by decide)) (fun z => absurd (show (14 : Nat) = 5 from congrArg Prod.fst z) (by decide)))).trans ((hS1.1.rV (t := (14, 64 * 5 + c9)) (fun z => z.elim (fun z => absurd (show (14 : Nat) = 0 from congrArg Prod.fst z) (by decide)) (fun z => absurd (show (14 : Nat) = 5 from congrArg Prod.fst z) (by decide)))).trans (hz (14, 64 * 5 + c9) (by unfold tgF4; first | decide | (dsimp only; omega))))))) mp_Jx4a65c_init_da8c8 wm_178 rfl rfl (Nat.le_of_ble_eq_true rfl) dX4_init_31 ⟨by decide, by decide⟩ ⟨Nat.le_of_ble_eq_true rfl, Nat.le_of_ble_eq_true rfl⟩ rfl rfl (fun v8 σ3a hp8 => ?_)
  obtain ⟨rfl, hO3, hM3⟩ := hp8
  show J X 3 9 σ3a [(0, .ref a0)] [.ref q3, .ref a0] 34
  refine j_putR (pc := 34) C (0, 5) (hM3.at (At.new (σ := τ2) (t := (0, 5)) (q := q3) (n := 0))).2 (Or.inl (hM3.at (At.new (σ := τ2) (t := (0, 5)) (q := q3) (n := 0))).1) fp_X4_21 (hM3.at ((hS2.1.at (hS1.1.at ha0)).ext (Ext.new hv3))) rfl rfl (Or.inr ⟨rfl, hinit rfl⟩) rfl (by decide) (f := 322) rfl dX4_init_34 ?_
  obtain ⟨hS3, hN3⟩ := St.lst (f0 := 322) (show (0 : Nat) ≠ 5 by decide) (by decide) rfl (q := q3) hv3 hM3 hO3
  generalize sR σ3a 322 0 0 (some (0, 5)) = τ3 at hS3 hN3 ⊢
  show J X 3 9 τ3 [(0, .ref a0)] [] 37
  have hA : Fr tgXi σ τ3 := (((hS1.1.wide (fun t z => (by rcases z with z | z <;> rw [z] <;> unfold tgXi <;> decide))).tr (hS2.1.wide (fun t z => (by rcases z with z | z <;> rw [z] <;> unfold tgXi <;> decide)))).tr (hS3.1.wide (fun t z => (by rcases z with z | z <;> rw [z] <;> unfold tgXi <;> decide))))
  have hLf : LXf τ3 := ⟨hA.live ha0.1, (hS3.2.1 320 rfl (by decide)).trans ((hS2.2.1 320 rfl (by decide)).trans (hS1.2.2.2.1)), (hS3.2.1 321 rfl (by decide)).trans (hS2.2.2.2.1), hS3.2.2.2.1⟩
  have hLl : LXl S00 τ3 := ⟨(LS9.fr (LS9.fr (LS9.cg0 hN1) hS2.1 (fun t z y => by rcases y with y | y <;> rw [y] at z <;> simp only [tgL] at z <;> omega)) hS3.1 (fun t z y => by rcases y with y | y <;> rw [y] at z <;> simp only [tgL] at z <;> omega)), fun l hl => absurd hl (Nat.not_lt_zero l), fun l _ hl => ⟨(hA.rV (t := (4, l)) (by unfold tgXi; dsimp only; omega)).trans (hz (4, l) (by unfold tgF4; dsimp only; omega)), (hA.rV (t := (1, l)) (by unfold tgXi; dsimp only; omega)).trans (hz (1, l) (by unfold tgF4; dsimp only; omega)), (hA.rV (t := (12, l)) (by unfold tgXi; dsimp only; omega)).trans (hz (12, l) (by unfold tgF4; dsimp only; omega))⟩⟩
  have hLw : LXw S00 τ3 := ⟨(LS9.fr (LS9.cg0 hN2) hS3.1 (fun t z y => by rcases y with y | y <;> rw [y] at z <;> simp only [tgL] at z <;> omega)), fun l hl => absurd hl (Nat.not_lt_zero l), fun l _ hl => (hA.rV (t := (8, l)) (by unfold tgXi; dsimp only; omega)).trans (hz (8, l) (by unfold tgF4; dsimp only; omega))⟩
  have hLd : LXd S00 τ3 := ⟨fun _ => 0, 0, (LS9.cg0 hN3), fun d hd => absurd hd (Nat.not_lt_zero d), fun d e hd => absurd hd (Nat.not_lt_zero d), fun s _ => ⟨(hA.rV (t := (2, s)) (by unfold tgXi; dsimp only; omega)).trans (hz (2, s) (by unfold tgF4; dsimp only; omega)), (hA.rV (t := (1, 1000 + s)) (by unfold tgXi; dsimp only; omega)).trans (hz (1, 1000 + s) (by unfold tgF4; dsimp only; omega)), (hA.rV (t := (12, 1000 + s)) (by unfold tgXi; dsimp only; omega)).trans (hz (12, 1000 + s) (by unfold tgF4; dsimp only; omega))⟩⟩
  exact j_vreturn (pc := 37) C Q dX4_init_37 (Nat.le_of_ble_eq_true rfl) (Nat.le_of_ble_eq_true rfl) (⟨rfl, ⟨hLf, hLl, fun l hl => absurd hl (Nat.not_lt_zero l), hLw, hLd⟩, hA⟩)
