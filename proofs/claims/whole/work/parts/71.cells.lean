set_option maxHeartbeats 4000000 in
set_option maxRecDepth 100000 in
theorem c_X0_isCell (L9 : Launch) (w9 : Wd) {σ : HS} (x : Int32) : MJ L9 w9 yX0_isCell cX0_isCell 1 (some .boolean) ({ frames := 0, cells := 0, slots := 0, locals := 0 } : Room) [.int x] σ (fun a9 σ' => a9 = some (.int (bI (inI x 8))) ∧ σ' = σ) := by
  refine MJ.of (by decide +kernel) (Nat.le_of_ble_eq_true rfl) (fun X hX1 hX2 C Q hinit => ?_)
  subst hX1; subst hX2
  show J X 0 0 σ [(0, .int x)] [] 0
  refine j_iload_n (pc := 0) C dX0_isCell_0 rfl 0 rfl ?_
  refine j_if_lt (pc := 1) C 14 dX0_isCell_1 (by decide) (fun c1 => ?_) (fun c1 => ?_)
  · refine j_iconst (pc := 14) C (nI 0) dX0_isCell_14 (by decide) ?_
    refine j_topi (bI (inI x 8)) (by unfold inI; rw [decide_eq_false (lt0_iff.mp c1)]; rfl) ?_
    exact j_zreturn (pc := 15) C Q dX0_isCell_15 (bI_nar _) (Nat.le_of_ble_eq_true rfl) (Nat.le_of_ble_eq_true rfl) (⟨rfl, rfl⟩)
  · have c3 : 0 ≤ x.toInt := Decidable.byContradiction (fun z => c1 (lt0_iff.mpr z))
    have k := nI_le_iff x (m := 7) (by decide)
    obtain ⟨n1, n2⟩ := nn_t c3
    have ki := inI_nI (a := xN x) (m := 8) n1
    rw [← n2] at ki
    rw [n2]
    refine j_iload_n (pc := 4) C dX0_isCell_4 rfl 0 rfl ?_
    refine j_bipush (pc := 5) C (nI 8) dX0_isCell_5 (by decide) ?_
    refine jn_icmp_ge (pc := 7) C 14 (a := xN x) (b := 8) (by omega) (by omega) dX0_isCell_7 (by decide) (fun c2 => ?_) (fun c2 => ?_)
    · refine j_iconst (pc := 14) C (nI 0) dX0_isCell_14 (by decide) ?_
      refine j_topi (bI (inI x 8)) (by rw [ki, decide_eq_false (by omega)]; rfl) ?_
      exact j_zreturn (pc := 15) C Q dX0_isCell_15 (bI_nar _) (Nat.le_of_ble_eq_true rfl) (Nat.le_of_ble_eq_true rfl) (⟨rfl, rfl⟩)
    · refine j_iconst (pc := 10) C (nI 1) dX0_isCell_10 (by decide) ?_
      refine j_goto (pc := 11) C 15 dX0_isCell_11 (by decide) ?_
      refine j_topi (bI (inI x 8)) (by rw [ki, decide_eq_true (by omega)]; rfl) ?_
      exact j_zreturn (pc := 15) C Q dX0_isCell_15 (bI_nar _) (Nat.le_of_ble_eq_true rfl) (Nat.le_of_ble_eq_true rfl) (⟨rfl, rfl⟩)
set_option maxHeartbeats 4000000 in
set_option maxRecDepth 100000 in
theorem c_X0_has (L9 : Launch) (w9 : Wd) {σ : HS} {r : Nat} {f : Nat → Option (List Nat)} (h : CR9 σ r f) {c : Nat} (hc : c < 8) : MJ L9 w9 yX0_has cX0_has 2 (some .boolean) ({ frames := 1, cells := 0, slots := 0, locals := 20 } : Room) [.ref (hG σ (1, r)), .int (nI c)] σ (fun a9 σ' => a9 = some (.int (bI (f c).isSome)) ∧ σ' = σ) := by
  refine MJ.of (by decide +kernel) (Nat.le_of_ble_eq_true rfl) (fun X hX1 hX2 C Q hinit => ?_)
  subst hX1; subst hX2
  show J X 0 0 σ [(0, .ref (hG σ (1, r))), (1, .int (nI c))] [] 0
  obtain ⟨m, m1, hm, m2⟩ := h.2.2.2.2.2
  have ki : inI (nI c) 8 = true := by rw [inI_nI (by omega), decide_eq_true hc]
  refine j_iload_n (pc := 0) C dX0_has_0 rfl 1 rfl ?_
  refine j_callS (pc := 1) C [.int (nI c)] [] (rm0 := ({ frames := 1, cells := 0, slots := 0, locals := 20 } : Room)) (k' := 0) (n' := 0) Q.1 (c_X0_isCell (xl X) (xw X) (nI c)) mp_X0_isCell wm_275 rfl rfl (Nat.le_of_ble_eq_true rfl) dX0_has_1 ⟨by decide, by decide⟩ ⟨Nat.le_of_ble_eq_true rfl, Nat.le_of_ble_eq_true rfl⟩ rfl rfl (det1 ?_)
  refine j_topi (bI true) (by rw [ki]) ?_
  refine j_if_eq (pc := 4) C 22 dX0_has_4 (by decide) (fun q => absurd q (by decide)) (fun _ => ?_)
  refine j_aload_n (pc := 7) C dX0_has_7 rfl 0 rfl ?_
  refine j_getI (pc := 8) C fp_X0_19 (⟨h.1, rfl⟩) rfl (f := 65) rfl dX0_has_8 ?_
  refine j_topi (nI m) hm ?_
  refine j_iload_n (pc := 11) C dX0_has_11 rfl 1 rfl ?_
  refine j_iushr (pc := 12) C dX0_has_12 ?_
  refine j_iconst (pc := 13) C (nI 1) dX0_has_13 (by decide) ?_
  refine j_iand (pc := 14) C dX0_has_14 ?_
  refine j_topi (nI (((f c).isSome).toNat)) (by rw [← m2 c hc]; exact ubit m m1 c hc) ?_
  refine jn_if_eq (pc := 15) C 22 (a := ((f c).isSome).toNat) (by first | exact bool_lt _ | omega) dX0_has_15 (by decide) (fun c1 => ?_) (fun c1 => ?_)
  · refine j_iconst (pc := 22) C (nI 0) dX0_has_22 (by decide) ?_
    refine j_topi (bI ((f c).isSome)) (by rw [bool0.mp c1]; rfl) ?_
    exact j_zreturn (pc := 23) C Q dX0_has_23 (bI_nar _) (Nat.le_of_ble_eq_true rfl) (Nat.le_of_ble_eq_true rfl) (⟨rfl, rfl⟩)
  · have c3 : (f c).isSome = true := by cases e : (f c).isSome with
      | false => rw [e] at c1; exact absurd rfl c1
      | true => rfl
    refine j_iconst (pc := 18) C (nI 1) dX0_has_18 (by decide) ?_
    refine j_goto (pc := 19) C 23 dX0_has_19 (by decide) ?_
    refine j_topi (bI ((f c).isSome)) (by rw [c3]; rfl) ?_
    exact j_zreturn (pc := 23) C Q dX0_has_23 (bI_nar _) (Nat.le_of_ble_eq_true rfl) (Nat.le_of_ble_eq_true rfl) (⟨rfl, rfl⟩)
set_option maxHeartbeats 4000000 in
set_option maxRecDepth 100000 in
theorem c_X0_in (L9 : Launch) (w9 : Wd) {σ : HS} {r : Nat} {f : Nat → Option (List Nat)} (h : CR9 σ r f) {c : Nat} (hc : c < 8) : MJ L9 w9 yX0_in cX0_in 2 (some .long) ({ frames := 1, cells := 0, slots := 0, locals := 20 } : Room) [.ref (hG σ (1, r)), .int (nI c)] σ (fun a9 σ' => a9 = some (.long (enc5 ((f c).getD []))) ∧ σ' = σ) := by
  refine MJ.of (by decide +kernel) (Nat.le_of_ble_eq_true rfl) (fun X hX1 hX2 C Q hinit => ?_)
  subst hX1; subst hX2
  show J X 0 0 σ [(0, .ref (hG σ (1, r))), (1, .int (nI c))] [] 0
  have ki : inI (nI c) 8 = true := by rw [inI_nI (by omega), decide_eq_true hc]
  refine j_iload_n (pc := 0) C dX0_in_0 rfl 1 rfl ?_
  refine j_callS (pc := 1) C [.int (nI c)] [] (rm0 := ({ frames := 1, cells := 0, slots := 0, locals := 20 } : Room)) (k' := 0) (n' := 0) Q.1 (c_X0_isCell (xl X) (xw X) (nI c)) mp_X0_isCell wm_275 rfl rfl (Nat.le_of_ble_eq_true rfl) dX0_in_1 ⟨by decide, by decide⟩ ⟨Nat.le_of_ble_eq_true rfl, Nat.le_of_ble_eq_true rfl⟩ rfl rfl (det1 ?_)
  refine j_topi (bI true) (by rw [ki]) ?_
  refine j_if_eq (pc := 4) C 16 dX0_in_4 (by decide) (fun q => absurd q (by decide)) (fun _ => ?_)
  refine j_aload_n (pc := 7) C dX0_in_7 rfl 0 rfl ?_
  refine j_getA (pc := 8) C fp_X0_9 (⟨h.1, rfl⟩) rfl (f := 64) rfl (12, r) (hG σ (12, r)) h.2.1 (⟨h.2.2.1, rfl⟩ : At _ (12, r) _) dX0_in_8 ?_
  refine j_iload_n (pc := 11) C dX0_in_11 rfl 1 rfl ?_
  refine j_lald (pc := 12) C (p := c) (M := 8) (⟨h.2.2.1, rfl⟩ : At _ (12, r) _) rfl h.2.2.2.1 hc (by decide) dX0_in_12 ?_
  refine j_topl (enc5 ((f c).getD [])) (h.2.2.2.2.1 c hc) ?_
  refine j_goto (pc := 13) C 17 dX0_in_13 (by decide) ?_
  exact j_lreturn (pc := 17) C Q dX0_in_17 (Nat.le_of_ble_eq_true rfl) (Nat.le_of_ble_eq_true rfl) (⟨rfl, rfl⟩)
