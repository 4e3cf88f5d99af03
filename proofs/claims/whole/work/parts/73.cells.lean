set_option maxHeartbeats 4000000 in
set_option maxRecDepth 100000 in
theorem c_X0_give (L9 : Launch) (w9 : Wd) {σ : HS} {r : Nat} {f : Nat → Option (List Nat)} (h : CR9 σ r f) {c : Nat} (hc : c < 8) (l : List Nat) : MJ L9 w9 yX0_give cX0_give 4 none ({ frames := 1, cells := 0, slots := 0, locals := 20 } : Room) [.ref (hG σ (1, r)), .int (nI c), .long (enc5 l)] σ (fun a9 σ' => a9 = none ∧ CR9 σ' r (fun u => if u = c then some l else f u) ∧ ∀ t, t ≠ (1, r) → t ≠ (12, r) → Sm σ σ' t) := by
  refine MJ.of (by decide +kernel) (Nat.le_of_ble_eq_true rfl) (fun X hX1 hX2 C Q hinit => ?_)
  subst hX1; subst hX2
  show J X 0 0 σ [(0, .ref (hG σ (1, r))), (1, .int (nI c)), (2, .long (enc5 l))] [] 0
  obtain ⟨m, m1, hm, m2⟩ := h.2.2.2.2.2
  have ki : inI (nI c) 8 = true := by rw [inI_nI (by omega), decide_eq_true hc]
  refine j_iload_n (pc := 0) C dX0_give_0 rfl 1 rfl ?_
  refine j_callS (pc := 1) C [.int (nI c)] [] (rm0 := ({ frames := 1, cells := 0, slots := 0, locals := 20 } : Room)) (k' := 0) (n' := 0) Q.1 (c_X0_isCell (xl X) (xw X) (nI c)) mp_X0_isCell wm_275 rfl rfl (Nat.le_of_ble_eq_true rfl) dX0_give_1 ⟨by decide, by decide⟩ ⟨Nat.le_of_ble_eq_true rfl, Nat.le_of_ble_eq_true rfl⟩ rfl rfl (det1 ?_)
  refine j_topi (bI true) (by rw [ki]) ?_
  refine j_if_eq (pc := 4) C 26 dX0_give_4 (by decide) (fun q => absurd q (by decide)) (fun _ => ?_)
  refine j_aload_n (pc := 7) C dX0_give_7 rfl 0 rfl ?_
  refine j_getA (pc := 8) C fp_X0_9 (⟨h.1, rfl⟩) rfl (f := 64) rfl (12, r) (hG σ (12, r)) h.2.1 (⟨h.2.2.1, rfl⟩ : At _ (12, r) _) dX0_give_8 ?_
  refine j_iload_n (pc := 11) C dX0_give_11 rfl 1 rfl ?_
  refine j_lload_n (pc := 12) C dX0_give_12 rfl 2 rfl ?_
  refine j_last (pc := 13) C (p := c) (M := 8) (⟨h.2.2.1, rfl⟩ : At _ (12, r) _) rfl h.2.2.2.1 hc (by decide) dX0_give_13 ?_
  refine j_aload_n (pc := 14) C dX0_give_14 rfl 0 rfl ?_
  refine j_dup (pc := 15) C dX0_give_15 rfl ?_
  refine j_getI (pc := 16) C fp_X0_19 (⟨h.1, rfl⟩) rfl (f := 65) rfl dX0_give_16 ?_
  refine j_topi (nI m) hm ?_
  refine j_iconst (pc := 19) C (nI 1) dX0_give_19 (by decide) ?_
  refine j_iload_n (pc := 20) C dX0_give_20 rfl 1 rfl ?_
  refine j_ishl (pc := 21) C dX0_give_21 ?_
  refine j_topi (nI (2 ^ c)) (shl1 (by omega)) ?_
  refine j_ior (pc := 22) C dX0_give_22 ?_
  refine j_topi (nI (m ||| (2 ^ c))) (nx_or m (2 ^ c)) ?_
  refine j_putI (pc := 23) C fp_X0_19 (⟨h.1, rfl⟩) rfl rfl (Or.inl rfl) rfl (by decide) (f := 65) rfl dX0_give_23 ?_
  have k := h.put (m := m ||| 2 ^ c) (c := c) (some l) (Nat.or_lt_two_pow (n := 8) m1 (Nat.pow_lt_pow_right (by decide) hc)) (fun u hu => by
    rw [Nat.testBit_or, Nat.testBit_two_pow, m2 u hu]
    by_cases e : u = c
    · rw [if_pos e, decide_eq_true e.symm, Bool.or_true]; rfl
    · rw [if_neg e, decide_eq_false (fun z => e z.symm), Bool.or_false])
  exact j_vreturn (pc := 26) C Q dX0_give_26 (Nat.le_of_ble_eq_true rfl) (Nat.le_of_ble_eq_true rfl) (⟨rfl, k⟩)
set_option maxHeartbeats 4000000 in
set_option maxRecDepth 100000 in
theorem c_X0_drop (L9 : Launch) (w9 : Wd) {σ : HS} {r : Nat} {f : Nat → Option (List Nat)} (h : CR9 σ r f) {c : Nat} (hc : c < 8) : MJ L9 w9 yX0_drop cX0_drop 2 none ({ frames := 1, cells := 0, slots := 0, locals := 20 } : Room) [.ref (hG σ (1, r)), .int (nI c)] σ (fun a9 σ' => a9 = none ∧ CR9 σ' r (fun u => if u = c then none else f u) ∧ ∀ t, t ≠ (1, r) → t ≠ (12, r) → Sm σ σ' t) := by
  refine MJ.of (by decide +kernel) (Nat.le_of_ble_eq_true rfl) (fun X hX1 hX2 C Q hinit => ?_)
  subst hX1; subst hX2
  show J X 0 0 σ [(0, .ref (hG σ (1, r))), (1, .int (nI c))] [] 0
  obtain ⟨m, m1, hm, m2⟩ := h.2.2.2.2.2
  have ki : inI (nI c) 8 = true := by rw [inI_nI (by omega), decide_eq_true hc]
  refine j_iload_n (pc := 0) C dX0_drop_0 rfl 1 rfl ?_
  refine j_callS (pc := 1) C [.int (nI c)] [] (rm0 := ({ frames := 1, cells := 0, slots := 0, locals := 20 } : Room)) (k' := 0) (n' := 0) Q.1 (c_X0_isCell (xl X) (xw X) (nI c)) mp_X0_isCell wm_275 rfl rfl (Nat.le_of_ble_eq_true rfl) dX0_drop_1 ⟨by decide, by decide⟩ ⟨Nat.le_of_ble_eq_true rfl, Nat.le_of_ble_eq_true rfl⟩ rfl rfl (det1 ?_)
  refine j_topi (bI true) (by rw [ki]) ?_
  refine j_if_eq (pc := 4) C 28 dX0_drop_4 (by decide) (fun q => absurd q (by decide)) (fun _ => ?_)
  refine j_aload_n (pc := 7) C dX0_drop_7 rfl 0 rfl ?_
  refine j_getA (pc := 8) C fp_X0_9 (⟨h.1, rfl⟩) rfl (f := 64) rfl (12, r) (hG σ (12, r)) h.2.1 (⟨h.2.2.1, rfl⟩ : At _ (12, r) _) dX0_drop_8 ?_
  refine j_iload_n (pc := 11) C dX0_drop_11 rfl 1 rfl ?_
  refine j_lconst (pc := 12) C (lN 0) dX0_drop_12 (by decide) ?_
  refine j_last (pc := 13) C (p := c) (M := 8) (⟨h.2.2.1, rfl⟩ : At _ (12, r) _) rfl h.2.2.2.1 hc (by decide) dX0_drop_13 ?_
  refine j_aload_n (pc := 14) C dX0_drop_14 rfl 0 rfl ?_
  refine j_dup (pc := 15) C dX0_drop_15 rfl ?_
  refine j_getI (pc := 16) C fp_X0_19 (⟨h.1, rfl⟩) rfl (f := 65) rfl dX0_drop_16 ?_
  refine j_topi (nI m) hm ?_
  refine j_iconst (pc := 19) C (nI 1) dX0_drop_19 (by decide) ?_
  refine j_iload_n (pc := 20) C dX0_drop_20 rfl 1 rfl ?_
  refine j_ishl (pc := 21) C dX0_drop_21 ?_
  refine j_topi (nI (2 ^ c)) (shl1 (by omega)) ?_
  refine j_iconst (pc := 22) C (-1) dX0_drop_22 (by decide) ?_
  refine j_ixor (pc := 23) C dX0_drop_23 ?_
  refine j_iand (pc := 24) C dX0_drop_24 ?_
  refine j_topi (nI (setOn m c false)) (setOn_off (by omega)) ?_
  refine j_putI (pc := 25) C fp_X0_19 (⟨h.1, rfl⟩) rfl rfl (Or.inl rfl) rfl (by decide) (f := 65) rfl dX0_drop_25 ?_
  have k := h.put (m := setOn m c false) (c := c) (none) (setOn_lt (n := 8) m1 hc) (fun u hu => by rw [setOn_bit, m2 u hu]; rfl)
  exact j_vreturn (pc := 28) C Q dX0_drop_28 (Nat.le_of_ble_eq_true rfl) (Nat.le_of_ble_eq_true rfl) (⟨rfl, k⟩)
