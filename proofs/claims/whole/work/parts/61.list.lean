set_option maxHeartbeats 4000000 in
set_option maxRecDepth 100000 in
theorem c_Jx4a65c_fastRemove_b59b0 (L9 : Launch) (w9 : Wd) {σ : HS} {a c : Nat} {xs : List Tg} (h : AL9 σ a xs c) {i : Nat} {x : Tg} (hx : xs[i]? = some x) (hi : xs.length = i + 1) : MJ L9 w9 yJx4a65c_fastRemove_b59b0 cJx4a65c_fastRemove_b59b0 4 none ({ frames := 0, cells := 0, slots := 0, locals := 0 } : Room) [.ref (hG σ (0, a)), .ref (hG σ (14, 64 * a + c)), .int (nI i)] σ (fun a9 σ' => a9 = none ∧ σ' = sR (sI (sI σ 0 a 0 (hI σ 0 a 0 + nI 1)) 2 a 0 (nI i)) 896 (64 * a + c) i none) := by
  refine MJ.of (by decide +kernel) (Nat.le_of_ble_eq_true rfl) (fun X hX1 hX2 C Q hinit => ?_)
  subst hX1; subst hX2
  show J X 0 0 σ [(0, .ref (hG σ (0, a))), (1, .ref (hG σ (14, 64 * a + c))), (2, .int (nI i))] [] 0
  obtain ⟨hlt, hic, hrow, hat, hNc, hel, hxa, hxk⟩ := h.row hx
  have h64 := h.2.2.2.2.2.1
  have hsz : hI (sI σ 0 a 0 (hI σ 0 a 0 + nI 1)) 2 a 0 = nI (i + 1) := ((h.mod _).2.1).trans (congrArg nI hi)
  refine j_aload_n (pc := 0) C dJx4a65c_fastRemove_b59b0_0 rfl 0 rfl ?_
  refine j_dup (pc := 1) C dJx4a65c_fastRemove_b59b0_1 rfl ?_
  refine j_getI (pc := 2) C fp_Jx4a65c_63 (⟨h.1, rfl⟩) rfl (f := 0) rfl dJx4a65c_fastRemove_b59b0_2 ?_
  refine j_iconst (pc := 5) C (nI 1) dJx4a65c_fastRemove_b59b0_5 (by decide) ?_
  refine j_iadd (pc := 6) C dJx4a65c_fastRemove_b59b0_6 ?_
  refine j_putI (pc := 7) C fp_Jx4a65c_63 (⟨h.1, rfl⟩) rfl rfl (Or.inl rfl) rfl (by decide) (f := 0) rfl dJx4a65c_fastRemove_b59b0_7 ?_
  refine j_aload_n (pc := 10) C dJx4a65c_fastRemove_b59b0_10 rfl 0 rfl ?_
  refine j_getI (pc := 11) C fp_Jx4a65c_48 (⟨h.1, rfl⟩) rfl (f := 2) rfl dJx4a65c_fastRemove_b59b0_11 ?_
  refine j_topi (nI (i + 1)) hsz ?_
  refine j_iconst (pc := 14) C (nI 1) dJx4a65c_fastRemove_b59b0_14 (by decide) ?_
  refine j_isub (pc := 15) C dJx4a65c_fastRemove_b59b0_15 ?_
  refine j_topi (nI i) (pk_sub (a := i + 1) (b := 1) (by omega)) ?_
  refine j_dup (pc := 16) C dJx4a65c_fastRemove_b59b0_16 rfl ?_
  refine j_istore_n (pc := 17) C [(3, .int (nI i)), (0, .ref (hG σ (0, a))), (1, .ref (hG σ (14, 64 * a + c))), (2, .int (nI i))] dJx4a65c_fastRemove_b59b0_17 rfl (by decide) rfl ?_
  refine j_iload_n (pc := 18) C dJx4a65c_fastRemove_b59b0_18 rfl 3 rfl ?_
  refine jn_icmp_le (pc := 19) C 34 (a := i) (b := i) (by omega) (by omega) dJx4a65c_fastRemove_b59b0_19 (by decide) (fun c0 => ?_) (fun c0 => (absurd c0 (by omega) : False).elim)
  refine j_aload_n (pc := 34) C dJx4a65c_fastRemove_b59b0_34 rfl 2 rfl ?_
  refine j_aload_n (pc := 35) C dJx4a65c_fastRemove_b59b0_35 rfl 1 rfl ?_
  refine j_iload_n (pc := 36) C dJx4a65c_fastRemove_b59b0_36 rfl 0 rfl ?_
  refine j_dup_x1 (pc := 37) C dJx4a65c_fastRemove_b59b0_37 rfl rfl ?_
  refine j_putI (pc := 38) C fp_Jx4a65c_48 (⟨h.1, rfl⟩) rfl rfl (Or.inl rfl) rfl (by decide) (f := 2) rfl dJx4a65c_fastRemove_b59b0_38 ?_
  refine j_null (pc := 41) C dJx4a65c_fastRemove_b59b0_41 ?_
  refine j_aastN (pc := 42) C hat (p := i) (M := c) rfl hNc hic (by omega) dJx4a65c_fastRemove_b59b0_42 ?_
  show J X 0 0 (sR (sI (sI σ 0 a 0 (hI σ 0 a 0 + nI 1)) 2 a 0 (nI i)) 896 (64 * a + c) i none) [(3, .int (nI i)), (0, .ref (hG σ (0, a))), (1, .ref (hG σ (14, 64 * a + c))), (2, .int (nI i))] [] 43
  exact j_vreturn (pc := 43) C Q dJx4a65c_fastRemove_b59b0_43 (Nat.le_of_ble_eq_true rfl) (Nat.le_of_ble_eq_true rfl) (⟨rfl, rfl⟩)
set_option maxHeartbeats 4000000 in
set_option maxRecDepth 100000 in
theorem c_Jx4a65c_remove_915e3 (L9 : Launch) (w9 : Wd) {σ : HS} {a c : Nat} {xs : List Tg} (h : AL9 σ a xs c) {i : Nat} {x : Tg} (hx : xs[i]? = some x) (hi : xs.length = i + 1) : MJ L9 w9 yJx4a65c_remove_915e3 cJx4a65c_remove_915e3 4 (some (.object "java/lang/Object")) ({ frames := 2, cells := 0, slots := 0, locals := 43 } : Room) [.ref (hG σ (0, a)), .int (nI i)] σ (fun a9 σ' => a9 = some (.ref (hG σ x)) ∧ σ' = sR (sI (sI σ 0 a 0 (hI σ 0 a 0 + nI 1)) 2 a 0 (nI i)) 896 (64 * a + c) i none) := by
  refine MJ.of (by decide +kernel) (Nat.le_of_ble_eq_true rfl) (fun X hX1 hX2 C Q hinit => ?_)
  subst hX1; subst hX2
  show J X 0 0 σ [(0, .ref (hG σ (0, a))), (1, .int (nI i))] [] 0
  have hsz := h.2.1
  obtain ⟨hlt, hic, hrow, hat, hNc, hel, hxa, hxk⟩ := h.row hx
  have h64 := h.2.2.2.2.2.1
  have hlc := h.2.2.2.2.1
  refine j_iload_n (pc := 0) C dJx4a65c_remove_915e3_0 rfl 1 rfl ?_
  refine j_aload_n (pc := 1) C dJx4a65c_remove_915e3_1 rfl 0 rfl ?_
  refine j_getI (pc := 2) C fp_Jx4a65c_48 (⟨h.1, rfl⟩) rfl (f := 2) rfl dJx4a65c_remove_915e3_2 ?_
  refine j_topi (nI xs.length) hsz ?_
  refine j_callS (pc := 5) C [.int (nI i), .int (nI xs.length)] [] (rm0 := ({ frames := 2, cells := 0, slots := 0, locals := 43 } : Room)) (k' := 0) (n' := 0) Q.1 (c_J15_checkIndex_7cf53 (xl X) (xw X) hlt (by omega)) mp_J15_checkIndex_7cf53 wm_256 rfl rfl (Nat.le_of_ble_eq_true rfl) dJx4a65c_remove_915e3_5 ⟨by decide, by decide⟩ ⟨Nat.le_of_ble_eq_true rfl, Nat.le_of_ble_eq_true rfl⟩ rfl rfl (det1 ?_)
  refine j_pop (pc := 8) C dJx4a65c_remove_915e3_8 rfl ?_
  refine j_aload_n (pc := 9) C dJx4a65c_remove_915e3_9 rfl 0 rfl ?_
  refine j_getA (pc := 10) C fp_Jx4a65c_9 (⟨h.1, rfl⟩) rfl (f := 1) rfl (14, 64 * a + c) (hG σ (14, 64 * a + c)) hrow hat dJx4a65c_remove_915e3_10 ?_
  refine j_astore_n (pc := 13) C [(2, .ref (hG σ (14, 64 * a + c))), (0, .ref (hG σ (0, a))), (1, .int (nI i))] dJx4a65c_remove_915e3_13 rfl (by decide) rfl ?_
  refine j_aload_n (pc := 14) C dJx4a65c_remove_915e3_14 rfl 0 rfl ?_
  refine j_iload_n (pc := 15) C dJx4a65c_remove_915e3_15 rfl 2 rfl ?_
  refine j_aald (pc := 16) C (p := i) (M := c) hat rfl hNc hic (by omega) dJx4a65c_remove_915e3_16 ?_
  rw [hel]
  show J X 0 0 σ [(2, .ref (hG σ (14, 64 * a + c))), (0, .ref (hG σ (0, a))), (1, .int (nI i))] [.ref (hG σ x)] 17
  refine j_astore_n (pc := 17) C [(3, .ref (hG σ x)), (2, .ref (hG σ (14, 64 * a + c))), (0, .ref (hG σ (0, a))), (1, .int (nI i))] dJx4a65c_remove_915e3_17 rfl (by decide) rfl ?_
  refine j_aload_n (pc := 18) C dJx4a65c_remove_915e3_18 rfl 2 rfl ?_
  refine j_aload_n (pc := 19) C dJx4a65c_remove_915e3_19 rfl 1 rfl ?_
  refine j_iload_n (pc := 20) C dJx4a65c_remove_915e3_20 rfl 3 rfl ?_
  refine j_callV (pc := 21) C [.ref (hG σ (14, 64 * a + c)), .int (nI i)] [] (rm0 := ({ frames := 2, cells := 0, slots := 0, locals := 43 } : Room)) (k' := 0) (n' := 0) Q.1 (c_Jx4a65c_fastRemove_b59b0 (xl X) (xw X) h hx hi) mp_Jx4a65c_fastRemove_b59b0 wm_913 (⟨h.1, rfl⟩) rfl rfl (Nat.le_of_ble_eq_true rfl) rfl rfl (Nat.le_of_ble_eq_true rfl) dJx4a65c_remove_915e3_21 ⟨by decide, by decide⟩ ⟨Nat.le_of_ble_eq_true rfl, Nat.le_of_ble_eq_true rfl⟩ rfl rfl (det0 ?_)
  refine j_aload_n (pc := 24) C dJx4a65c_remove_915e3_24 rfl 0 rfl ?_
  exact j_areturn (pc := 25) C Q (Or.inl ⟨_, rfl⟩) (Or.inr ⟨_, rfl⟩) dJx4a65c_remove_915e3_25 (Nat.le_of_ble_eq_true rfl) (Nat.le_of_ble_eq_true rfl) (⟨rfl, rfl⟩)
