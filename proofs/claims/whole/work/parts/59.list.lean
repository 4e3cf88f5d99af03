set_option maxHeartbeats 4000000 in
set_option maxRecDepth 100000 in
theorem c_grow1_0 (L9 : Launch) (w9 : Wd) {σ : HS} {a : Nat} (h0 : hV σ (0, a) = true) (hsz : hI σ 2 a 0 = nI 0) (hrow : hR σ 1 a 0 = some (15, 0)) (hj : hV σ (14, 64 * a + 10) = false) : MJ L9 w9 yJx4a65c_grow_d5877 cJx4a65c_grow_d5877 1 (some (.array (.object "java/lang/Object"))) ({ frames := 2, cells := 1, slots := 10, locals := 37 } : Room) [.ref (hG σ (0, a))] σ (fun a9 σ' => ∃ q, a9 = some (.ref q) ∧ σ' = sR (sNew σ (14, 64 * a + 10) q 10) 1 a 0 (some (14, 64 * a + 10))) := by
  refine MJ.of (by decide +kernel) (Nat.le_of_ble_eq_true rfl) (fun X hX1 hX2 C Q hinit => ?_)
  subst hX1; subst hX2
  show J X 0 0 σ [(0, .ref (hG σ (0, a)))] [] 0
  refine j_aload_n (pc := 0) C dJx4a65c_grow_d5877_0 rfl 0 rfl ?_
  refine j_aload_n (pc := 1) C dJx4a65c_grow_d5877_1 rfl 0 rfl ?_
  refine j_getI (pc := 2) C fp_Jx4a65c_48 (⟨h0, rfl⟩) rfl (f := 2) rfl dJx4a65c_grow_d5877_2 ?_
  refine j_topi (nI 0) hsz ?_
  refine j_iconst (pc := 5) C (nI 1) dJx4a65c_grow_d5877_5 (by decide) ?_
  refine j_iadd (pc := 6) C dJx4a65c_grow_d5877_6 ?_
  refine j_topi (nI (0 + 1)) (nI_add 0 1) ?_
  refine j_topi (nI 1) rfl ?_
  refine j_callV (pc := 7) C [.int (nI 1)] [] (rm0 := ({ frames := 2, cells := 1, slots := 10, locals := 37 } : Room)) (k' := 1) (n' := 10) Q.1 (c_grow_0 (xl X) (xw X) h0 hrow hj) mp_Jx4a65c_grow_92f84 wm_504 (⟨h0, rfl⟩) rfl rfl (Nat.le_of_ble_eq_true rfl) rfl rfl (Nat.le_of_ble_eq_true rfl) dJx4a65c_grow_d5877_7 ⟨by decide, by decide⟩ ⟨Nat.le_of_ble_eq_true rfl, Nat.le_of_ble_eq_true rfl⟩ rfl rfl (fun v9 σ1 hp9 => ?_)
  obtain ⟨q, rfl, rfl⟩ := hp9
  show J X 1 10 (sR (sNew σ (14, 64 * a + 10) q 10) 1 a 0 (some (14, 64 * a + 10))) [(0, .ref (hG σ (0, a)))] [.ref q] 10
  exact j_areturn (pc := 10) C Q (Or.inr ⟨_, rfl⟩) (Or.inr ⟨_, rfl⟩) dJx4a65c_grow_d5877_10 (Nat.le_of_ble_eq_true rfl) (Nat.le_of_ble_eq_true rfl) (⟨q, rfl, rfl⟩)
set_option maxHeartbeats 4000000 in
set_option maxRecDepth 100000 in
theorem c_grow1_10 (L9 : Launch) (w9 : Wd) {σ : HS} {a : Nat} (h0 : hV σ (0, a) = true) (hsz : hI σ 2 a 0 = nI 10) (hrow : hR σ 1 a 0 = some (14, 64 * a + 10)) (hs : hV σ (14, 64 * a + 10) = true) (hn : hN σ 14 (64 * a + 10) = 10) (hj : hV σ (14, 64 * a + 15) = false) (hE : ∀ u, u < 10 → ∀ t, hR σ 896 (64 * a + 10) u = some t → hV σ t = true ∧ t.1 < 11) : MJ L9 w9 yJx4a65c_grow_d5877 cJx4a65c_grow_d5877 1 (some (.array (.object "java/lang/Object"))) ({ frames := 4, cells := 1, slots := 15, locals := 127 } : Room) [.ref (hG σ (0, a))] σ (fun a9 σ' => ∃ q, a9 = some (.ref q) ∧ σ' = sR (cpQ (sNew σ (14, 64 * a + 15) q 15) (64 * a + 10) (64 * a + 15) 10) 1 a 0 (some (14, 64 * a + 15))) := by
  refine MJ.of (by decide +kernel) (Nat.le_of_ble_eq_true rfl) (fun X hX1 hX2 C Q hinit => ?_)
  subst hX1; subst hX2
  show J X 0 0 σ [(0, .ref (hG σ (0, a)))] [] 0
  refine j_aload_n (pc := 0) C dJx4a65c_grow_d5877_0 rfl 0 rfl ?_
  refine j_aload_n (pc := 1) C dJx4a65c_grow_d5877_1 rfl 0 rfl ?_
  refine j_getI (pc := 2) C fp_Jx4a65c_48 (⟨h0, rfl⟩) rfl (f := 2) rfl dJx4a65c_grow_d5877_2 ?_
  refine j_topi (nI 10) hsz ?_
  refine j_iconst (pc := 5) C (nI 1) dJx4a65c_grow_d5877_5 (by decide) ?_
  refine j_iadd (pc := 6) C dJx4a65c_grow_d5877_6 ?_
  refine j_topi (nI (10 + 1)) (nI_add 10 1) ?_
  refine j_topi (nI 11) rfl ?_
  refine j_callV (pc := 7) C [.int (nI 11)] [] (rm0 := ({ frames := 4, cells := 1, slots := 15, locals := 127 } : Room)) (k' := 1) (n' := 15) Q.1 (c_grow_10 (xl X) (xw X) h0 hrow hs hn hj hE) mp_Jx4a65c_grow_92f84 wm_504 (⟨h0, rfl⟩) rfl rfl (Nat.le_of_ble_eq_true rfl) rfl rfl (Nat.le_of_ble_eq_true rfl) dJx4a65c_grow_d5877_7 ⟨by decide, by decide⟩ ⟨Nat.le_of_ble_eq_true rfl, Nat.le_of_ble_eq_true rfl⟩ rfl rfl (fun v9 σ1 hp9 => ?_)
  obtain ⟨q, rfl, rfl⟩ := hp9
  show J X 1 15 (sR (cpQ (sNew σ (14, 64 * a + 15) q 15) (64 * a + 10) (64 * a + 15) 10) 1 a 0 (some (14, 64 * a + 15))) [(0, .ref (hG σ (0, a)))] [.ref q] 10
  exact j_areturn (pc := 10) C Q (Or.inr ⟨_, rfl⟩) (Or.inr ⟨_, rfl⟩) dJx4a65c_grow_d5877_10 (Nat.le_of_ble_eq_true rfl) (Nat.le_of_ble_eq_true rfl) (⟨q, rfl, rfl⟩)
set_option maxHeartbeats 4000000 in
set_option maxRecDepth 100000 in
theorem c_grow1_15 (L9 : Launch) (w9 : Wd) {σ : HS} {a : Nat} (h0 : hV σ (0, a) = true) (hsz : hI σ 2 a 0 = nI 15) (hrow : hR σ 1 a 0 = some (14, 64 * a + 15)) (hs : hV σ (14, 64 * a + 15) = true) (hn : hN σ 14 (64 * a + 15) = 15) (hj : hV σ (14, 64 * a + 22) = false) (hE : ∀ u, u < 15 → ∀ t, hR σ 896 (64 * a + 15) u = some t → hV σ t = true ∧ t.1 < 11) : MJ L9 w9 yJx4a65c_grow_d5877 cJx4a65c_grow_d5877 1 (some (.array (.object "java/lang/Object"))) ({ frames := 4, cells := 1, slots := 22, locals := 127 } : Room) [.ref (hG σ (0, a))] σ (fun a9 σ' => ∃ q, a9 = some (.ref q) ∧ σ' = sR (cpQ (sNew σ (14, 64 * a + 22) q 22) (64 * a + 15) (64 * a + 22) 15) 1 a 0 (some (14, 64 * a + 22))) := by
  refine MJ.of (by decide +kernel) (Nat.le_of_ble_eq_true rfl) (fun X hX1 hX2 C Q hinit => ?_)
  subst hX1; subst hX2
  show J X 0 0 σ [(0, .ref (hG σ (0, a)))] [] 0
  refine j_aload_n (pc := 0) C dJx4a65c_grow_d5877_0 rfl 0 rfl ?_
  refine j_aload_n (pc := 1) C dJx4a65c_grow_d5877_1 rfl 0 rfl ?_
  refine j_getI (pc := 2) C fp_Jx4a65c_48 (⟨h0, rfl⟩) rfl (f := 2) rfl dJx4a65c_grow_d5877_2 ?_
  refine j_topi (nI 15) hsz ?_
  refine j_iconst (pc := 5) C (nI 1) dJx4a65c_grow_d5877_5 (by decide) ?_
  refine j_iadd (pc := 6) C dJx4a65c_grow_d5877_6 ?_
  refine j_topi (nI (15 + 1)) (nI_add 15 1) ?_
  refine j_topi (nI 16) rfl ?_
  refine j_callV (pc := 7) C [.int (nI 16)] [] (rm0 := ({ frames := 4, cells := 1, slots := 22, locals := 127 } : Room)) (k' := 1) (n' := 22) Q.1 (c_grow_15 (xl X) (xw X) h0 hrow hs hn hj hE) mp_Jx4a65c_grow_92f84 wm_504 (⟨h0, rfl⟩) rfl rfl (Nat.le_of_ble_eq_true rfl) rfl rfl (Nat.le_of_ble_eq_true rfl) dJx4a65c_grow_d5877_7 ⟨by decide, by decide⟩ ⟨Nat.le_of_ble_eq_true rfl, Nat.le_of_ble_eq_true rfl⟩ rfl rfl (fun v9 σ1 hp9 => ?_)
  obtain ⟨q, rfl, rfl⟩ := hp9
  show J X 1 22 (sR (cpQ (sNew σ (14, 64 * a + 22) q 22) (64 * a + 15) (64 * a + 22) 15) 1 a 0 (some (14, 64 * a + 22))) [(0, .ref (hG σ (0, a)))] [.ref q] 10
  exact j_areturn (pc := 10) C Q (Or.inr ⟨_, rfl⟩) (Or.inr ⟨_, rfl⟩) dJx4a65c_grow_d5877_10 (Nat.le_of_ble_eq_true rfl) (Nat.le_of_ble_eq_true rfl) (⟨q, rfl, rfl⟩)
set_option maxHeartbeats 4000000 in
set_option maxRecDepth 100000 in
theorem c_grow1_22 (L9 : Launch) (w9 : Wd) {σ : HS} {a : Nat} (h0 : hV σ (0, a) = true) (hsz : hI σ 2 a 0 = nI 22) (hrow : hR σ 1 a 0 = some (14, 64 * a + 22)) (hs : hV σ (14, 64 * a + 22) = true) (hn : hN σ 14 (64 * a + 22) = 22) (hj : hV σ (14, 64 * a + 33) = false) (hE : ∀ u, u < 22 → ∀ t, hR σ 896 (64 * a + 22) u = some t → hV σ t = true ∧ t.1 < 11) : MJ L9 w9 yJx4a65c_grow_d5877 cJx4a65c_grow_d5877 1 (some (.array (.object "java/lang/Object"))) ({ frames := 4, cells := 1, slots := 33, locals := 127 } : Room) [.ref (hG σ (0, a))] σ (fun a9 σ' => ∃ q, a9 = some (.ref q) ∧ σ' = sR (cpQ (sNew σ (14, 64 * a + 33) q 33) (64 * a + 22) (64 * a + 33) 22) 1 a 0 (some (14, 64 * a + 33))) := by
  refine MJ.of (by decide +kernel) (Nat.le_of_ble_eq_true rfl) (fun X hX1 hX2 C Q hinit => ?_)
  subst hX1; subst hX2
  show J X 0 0 σ [(0, .ref (hG σ (0, a)))] [] 0
  refine j_aload_n (pc := 0) C dJx4a65c_grow_d5877_0 rfl 0 rfl ?_
  refine j_aload_n (pc := 1) C dJx4a65c_grow_d5877_1 rfl 0 rfl ?_
  refine j_getI (pc := 2) C fp_Jx4a65c_48 (⟨h0, rfl⟩) rfl (f := 2) rfl dJx4a65c_grow_d5877_2 ?_
  refine j_topi (nI 22) hsz ?_
  refine j_iconst (pc := 5) C (nI 1) dJx4a65c_grow_d5877_5 (by decide) ?_
  refine j_iadd (pc := 6) C dJx4a65c_grow_d5877_6 ?_
  refine j_topi (nI (22 + 1)) (nI_add 22 1) ?_
  refine j_topi (nI 23) rfl ?_
  refine j_callV (pc := 7) C [.int (nI 23)] [] (rm0 := ({ frames := 4, cells := 1, slots := 33, locals := 127 } : Room)) (k' := 1) (n' := 33) Q.1 (c_grow_22 (xl X) (xw X) h0 hrow hs hn hj hE) mp_Jx4a65c_grow_92f84 wm_504 (⟨h0, rfl⟩) rfl rfl (Nat.le_of_ble_eq_true rfl) rfl rfl (Nat.le_of_ble_eq_true rfl) dJx4a65c_grow_d5877_7 ⟨by decide, by decide⟩ ⟨Nat.le_of_ble_eq_true rfl, Nat.le_of_ble_eq_true rfl⟩ rfl rfl (fun v9 σ1 hp9 => ?_)
  obtain ⟨q, rfl, rfl⟩ := hp9
  show J X 1 33 (sR (cpQ (sNew σ (14, 64 * a + 33) q 33) (64 * a + 22) (64 * a + 33) 22) 1 a 0 (some (14, 64 * a + 33))) [(0, .ref (hG σ (0, a)))] [.ref q] 10
  exact j_areturn (pc := 10) C Q (Or.inr ⟨_, rfl⟩) (Or.inr ⟨_, rfl⟩) dJx4a65c_grow_d5877_10 (Nat.le_of_ble_eq_true rfl) (Nat.le_of_ble_eq_true rfl) (⟨q, rfl, rfl⟩)
set_option maxHeartbeats 4000000 in
set_option maxRecDepth 100000 in
theorem c_grow1_33 (L9 : Launch) (w9 : Wd) {σ : HS} {a : Nat} (h0 : hV σ (0, a) = true) (hsz : hI σ 2 a 0 = nI 33) (hrow : hR σ 1 a 0 = some (14, 64 * a + 33)) (hs : hV σ (14, 64 * a + 33) = true) (hn : hN σ 14 (64 * a + 33) = 33) (hj : hV σ (14, 64 * a + 49) = false) (hE : ∀ u, u < 33 → ∀ t, hR σ 896 (64 * a + 33) u = some t → hV σ t = true ∧ t.1 < 11) : MJ L9 w9 yJx4a65c_grow_d5877 cJx4a65c_grow_d5877 1 (some (.array (.object "java/lang/Object"))) ({ frames := 4, cells := 1, slots := 49, locals := 127 } : Room) [.ref (hG σ (0, a))] σ (fun a9 σ' => ∃ q, a9 = some (.ref q) ∧ σ' = sR (cpQ (sNew σ (14, 64 * a + 49) q 49) (64 * a + 33) (64 * a + 49) 33) 1 a 0 (some (14, 64 * a + 49))) := by
  refine MJ.of (by decide +kernel) (Nat.le_of_ble_eq_true rfl) (fun X hX1 hX2 C Q hinit => ?_)
  subst hX1; subst hX2
  show J X 0 0 σ [(0, .ref (hG σ (0, a)))] [] 0
  refine j_aload_n (pc := 0) C dJx4a65c_grow_d5877_0 rfl 0 rfl ?_
  refine j_aload_n (pc := 1) C dJx4a65c_grow_d5877_1 rfl 0 rfl ?_
  refine j_getI (pc := 2) C fp_Jx4a65c_48 (⟨h0, rfl⟩) rfl (f := 2) rfl dJx4a65c_grow_d5877_2 ?_
  refine j_topi (nI 33) hsz ?_
  refine j_iconst (pc := 5) C (nI 1) dJx4a65c_grow_d5877_5 (by decide) ?_
  refine j_iadd (pc := 6) C dJx4a65c_grow_d5877_6 ?_
  refine j_topi (nI (33 + 1)) (nI_add 33 1) ?_
  refine j_topi (nI 34) rfl ?_
  refine j_callV (pc := 7) C [.int (nI 34)] [] (rm0 := ({ frames := 4, cells := 1, slots := 49, locals := 127 } : Room)) (k' := 1) (n' := 49) Q.1 (c_grow_33 (xl X) (xw X) h0 hrow hs hn hj hE) mp_Jx4a65c_grow_92f84 wm_504 (⟨h0, rfl⟩) rfl rfl (Nat.le_of_ble_eq_true rfl) rfl rfl (Nat.le_of_ble_eq_true rfl) dJx4a65c_grow_d5877_7 ⟨by decide, by decide⟩ ⟨Nat.le_of_ble_eq_true rfl, Nat.le_of_ble_eq_true rfl⟩ rfl rfl (fun v9 σ1 hp9 => ?_)
  obtain ⟨q, rfl, rfl⟩ := hp9
  show J X 1 49 (sR (cpQ (sNew σ (14, 64 * a + 49) q 49) (64 * a + 33) (64 * a + 49) 33) 1 a 0 (some (14, 64 * a + 49))) [(0, .ref (hG σ (0, a)))] [.ref q] 10
  exact j_areturn (pc := 10) C Q (Or.inr ⟨_, rfl⟩) (Or.inr ⟨_, rfl⟩) dJx4a65c_grow_d5877_10 (Nat.le_of_ble_eq_true rfl) (Nat.le_of_ble_eq_true rfl) (⟨q, rfl, rfl⟩)
set_option maxHeartbeats 4000000 in
set_option maxRecDepth 100000 in
theorem c_add3 (L9 : Launch) (w9 : Wd) {σ : HS} {a c : Nat} {xs : List Tg} (h : AL9 σ a xs c) (hroom : xs.length < c) {x : Tg} {b : Nat} (hx : At σ x b) (hxk : x.1 < 11) : MJ L9 w9 yJx4a65c_add_72be8 cJx4a65c_add_72be8 4 none ({ frames := 0, cells := 0, slots := 0, locals := 0 } : Room) [.ref (hG σ (0, a)), .ref b, .ref (hG σ (14, 64 * a + c)), .int (nI xs.length)] σ (fun a9 σ' => a9 = none ∧ σ' = sI (sR σ 896 (64 * a + c) xs.length (some x)) 2 a 0 (nI (xs.length + 1))) := by
  refine MJ.of (by decide +kernel) (Nat.le_of_ble_eq_true rfl) (fun X hX1 hX2 C Q hinit => ?_)
  subst hX1; subst hX2
  show J X 0 0 σ [(0, .ref (hG σ (0, a))), (1, .ref b), (2, .ref (hG σ (14, 64 * a + c))), (3, .int (nI xs.length))] [] 0
  have h64 := h.2.2.2.2.2.1
  obtain ⟨hrow, hv, hNc⟩ := h.2.2.2.1 (by omega)
  have hat : At σ (14, 64 * a + c) (hG σ (14, 64 * a + c)) := ⟨hv, rfl⟩
  refine j_iload_n (pc := 0) C dJx4a65c_add_72be8_0 rfl 3 rfl ?_
  refine j_aload_n (pc := 1) C dJx4a65c_add_72be8_1 rfl 2 rfl ?_
  refine j_alen (pc := 2) C hat (.object "java/lang/Object") 3 rfl (Nat.le_of_ble_eq_true rfl) hNc dJx4a65c_add_72be8_2 ?_
  show J X 0 0 σ [(0, .ref (hG σ (0, a))), (1, .ref b), (2, .ref (hG σ (14, 64 * a + c))), (3, .int (nI xs.length))] [.int (nI c), .int (nI xs.length)] 3
  refine jn_icmp_ne (pc := 3) C 11 (a := xs.length) (b := c) (by omega) (by omega) dJx4a65c_add_72be8_3 (by decide) (fun c0 => ?_) (fun c0 => (absurd c0 (by omega) : False).elim)
  refine j_aload_n (pc := 11) C dJx4a65c_add_72be8_11 rfl 2 rfl ?_
  refine j_iload_n (pc := 12) C dJx4a65c_add_72be8_12 rfl 3 rfl ?_
  refine j_aload_n (pc := 13) C dJx4a65c_add_72be8_13 rfl 1 rfl ?_
  refine j_aast (pc := 14) C hat hx hxk (p := xs.length) (M := c) rfl hNc hroom (by omega) dJx4a65c_add_72be8_14 ?_
  show J X 0 0 (sR σ 896 (64 * a + c) xs.length (some x)) [(0, .ref (hG σ (0, a))), (1, .ref b), (2, .ref (hG σ (14, 64 * a + c))), (3, .int (nI xs.length))] [] 15
  refine j_aload_n (pc := 15) C dJx4a65c_add_72be8_15 rfl 0 rfl ?_
  refine j_iload_n (pc := 16) C dJx4a65c_add_72be8_16 rfl 3 rfl ?_
  refine j_iconst (pc := 17) C (nI 1) dJx4a65c_add_72be8_17 (by decide) ?_
  refine j_iadd (pc := 18) C dJx4a65c_add_72be8_18 ?_
  refine j_topi (nI (xs.length + 1)) (nI_add xs.length 1) ?_
  refine j_putI (pc := 19) C fp_Jx4a65c_48 (⟨h.1, rfl⟩) rfl rfl (Or.inl rfl) rfl (by decide) (f := 2) rfl dJx4a65c_add_72be8_19 ?_
  exact j_vreturn (pc := 22) C Q dJx4a65c_add_72be8_22 (Nat.le_of_ble_eq_true rfl) (Nat.le_of_ble_eq_true rfl) (⟨rfl, rfl⟩)
set_option maxHeartbeats 4000000 in
set_option maxRecDepth 100000 in
theorem c_add3_0 (L9 : Launch) (w9 : Wd) {σ : HS} {a : Nat} (h0 : hV σ (0, a) = true) (hsz : hI σ 2 a 0 = nI 0) (hrow : hR σ 1 a 0 = some (15, 0)) (hj : hV σ (14, 64 * a + 10) = false) {x : Tg} {b : Nat} (hx : At σ x b) (hxk : x.1 < 11) : MJ L9 w9 yJx4a65c_add_72be8 cJx4a65c_add_72be8 4 none ({ frames := 3, cells := 1, slots := 10, locals := 57 } : Room) [.ref (hG σ (0, a)), .ref b, .ref (hG σ (15, 0)), .int (nI 0)] σ (fun a9 σ' => a9 = none ∧ ∃ q, σ' = sI (sR (sR (sNew σ (14, 64 * a + 10) q 10) 1 a 0 (some (14, 64 * a + 10))) 896 (64 * a + 10) 0 (some x)) 2 a 0 (nI 1)) := by
  refine MJ.of (by decide +kernel) (Nat.le_of_ble_eq_true rfl) (fun X hX1 hX2 C Q hinit => ?_)
  subst hX1; subst hX2
  show J X 0 0 σ [(0, .ref (hG σ (0, a))), (1, .ref b), (2, .ref (hG σ (15, 0))), (3, .int (nI 0))] [] 0
  refine j_iload_n (pc := 0) C dJx4a65c_add_72be8_0 rfl 3 rfl ?_
  refine j_aload_n (pc := 1) C dJx4a65c_add_72be8_1 rfl 2 rfl ?_
  refine j_alen0 (pc := 2) C dJx4a65c_add_72be8_2 ?_
  show J X 0 0 σ [(0, .ref (hG σ (0, a))), (1, .ref b), (2, .ref (hG σ (15, 0))), (3, .int (nI 0))] [.int (nI 0), .int (nI 0)] 3
  refine j_icmp_ne (pc := 3) C 11 dJx4a65c_add_72be8_3 (by decide) (fun q => absurd q (by decide)) (fun _ => ?_)
  refine j_aload_n (pc := 6) C dJx4a65c_add_72be8_6 rfl 0 rfl ?_
  refine j_callV (pc := 7) C [] [] (rm0 := ({ frames := 3, cells := 1, slots := 10, locals := 57 } : Room)) (k' := 1) (n' := 10) Q.1 (c_grow1_0 (xl X) (xw X) h0 hsz hrow hj) mp_Jx4a65c_grow_d5877 wm_500 (⟨h0, rfl⟩) rfl rfl (Nat.le_of_ble_eq_true rfl) rfl rfl (Nat.le_of_ble_eq_true rfl) dJx4a65c_add_72be8_7 ⟨by decide, by decide⟩ ⟨Nat.le_of_ble_eq_true rfl, Nat.le_of_ble_eq_true rfl⟩ rfl rfl (fun v9 σ1 hp9 => ?_)
  obtain ⟨q, rfl, rfl⟩ := hp9
  have hA : At (sR (sNew σ (14, 64 * a + 10) q 10) 1 a 0 (some (14, 64 * a + 10))) (14, 64 * a + 10) q := (At.new (σ := σ) (t := (14, 64 * a + 10)) (q := q) (n := 10))
  have hO : At (sR (sNew σ (14, 64 * a + 10) q 10) 1 a 0 (some (14, 64 * a + 10))) (0, a) (hG σ (0, a)) := At.ext (σ := σ) ⟨h0, rfl⟩ (Ext.new (q := q) (n := 10) hj)
  have hX : At (sR (sNew σ (14, 64 * a + 10) q 10) 1 a 0 (some (14, 64 * a + 10))) x b := At.ext (σ := σ) hx (Ext.new (q := q) (n := 10) hj)
  have hM : hN (sR (sNew σ (14, 64 * a + 10) q 10) 1 a 0 (some (14, 64 * a + 10))) 14 (64 * a + 10) = 10 := if_pos ⟨rfl, rfl⟩
  show J X 1 10 (sR (sNew σ (14, 64 * a + 10) q 10) 1 a 0 (some (14, 64 * a + 10))) [(0, .ref (hG σ (0, a))), (1, .ref b), (2, .ref (hG σ (15, 0))), (3, .int (nI 0))] [.ref q] 10
  refine j_astore_n (pc := 10) C [(2, .ref q), (0, .ref (hG σ (0, a))), (1, .ref b), (3, .int (nI 0))] dJx4a65c_add_72be8_10 rfl (by decide) rfl ?_
  refine j_aload_n (pc := 11) C dJx4a65c_add_72be8_11 rfl 0 rfl ?_
  refine j_iload_n (pc := 12) C dJx4a65c_add_72be8_12 rfl 3 rfl ?_
  refine j_aload_n (pc := 13) C dJx4a65c_add_72be8_13 rfl 2 rfl ?_
  refine j_aast (pc := 14) C hA hX hxk (p := 0) (M := 10) rfl hM (by omega) (by omega) dJx4a65c_add_72be8_14 ?_
  show J X 1 10 (sR (sR (sNew σ (14, 64 * a + 10) q 10) 1 a 0 (some (14, 64 * a + 10))) 896 (64 * a + 10) 0 (some x)) [(2, .ref q), (0, .ref (hG σ (0, a))), (1, .ref b), (3, .int (nI 0))] [] 15
  refine j_aload_n (pc := 15) C dJx4a65c_add_72be8_15 rfl 1 rfl ?_
  refine j_iload_n (pc := 16) C dJx4a65c_add_72be8_16 rfl 3 rfl ?_
  refine j_iconst (pc := 17) C (nI 1) dJx4a65c_add_72be8_17 (by decide) ?_
  refine j_iadd (pc := 18) C dJx4a65c_add_72be8_18 ?_
  refine j_topi (nI (0 + 1)) (nI_add 0 1) ?_
  refine j_topi (nI 1) rfl ?_
  refine j_putI (pc := 19) C fp_Jx4a65c_48 hO rfl rfl (Or.inl rfl) rfl (by decide) (f := 2) rfl dJx4a65c_add_72be8_19 ?_
  exact j_vreturn (pc := 22) C Q dJx4a65c_add_72be8_22 (Nat.le_of_ble_eq_true rfl) (Nat.le_of_ble_eq_true rfl) (⟨rfl, q, rfl⟩)
set_option maxHeartbeats 4000000 in
set_option maxRecDepth 100000 in
theorem c_add3_10 (L9 : Launch) (w9 : Wd) {σ : HS} {a : Nat} (h0 : hV σ (0, a) = true) (hsz : hI σ 2 a 0 = nI 10) (hrow : hR σ 1 a 0 = some (14, 64 * a + 10)) (hs : hV σ (14, 64 * a + 10) = true) (hn : hN σ 14 (64 * a + 10) = 10) (hj : hV σ (14, 64 * a + 15) = false) (hE : ∀ u, u < 10 → ∀ t, hR σ 896 (64 * a + 10) u = some t → hV σ t = true ∧ t.1 < 11) {x : Tg} {b : Nat} (hx : At σ x b) (hxk : x.1 < 11) : MJ L9 w9 yJx4a65c_add_72be8 cJx4a65c_add_72be8 4 none ({ frames := 5, cells := 1, slots := 15, locals := 147 } : Room) [.ref (hG σ (0, a)), .ref b, .ref (hG σ (14, 64 * a + 10)), .int (nI 10)] σ (fun a9 σ' => a9 = none ∧ ∃ q, σ' = sI (sR (sR (cpQ (sNew σ (14, 64 * a + 15) q 15) (64 * a + 10) (64 * a + 15) 10) 1 a 0 (some (14, 64 * a + 15))) 896 (64 * a + 15) 10 (some x)) 2 a 0 (nI 11)) := by
  refine MJ.of (by decide +kernel) (Nat.le_of_ble_eq_true rfl) (fun X hX1 hX2 C Q hinit => ?_)
  subst hX1; subst hX2
  show J X 0 0 σ [(0, .ref (hG σ (0, a))), (1, .ref b), (2, .ref (hG σ (14, 64 * a + 10))), (3, .int (nI 10))] [] 0
  refine j_iload_n (pc := 0) C dJx4a65c_add_72be8_0 rfl 3 rfl ?_
  refine j_aload_n (pc := 1) C dJx4a65c_add_72be8_1 rfl 2 rfl ?_
  refine j_alen (pc := 2) C (⟨hs, rfl⟩ : At _ (14, 64 * a + 10) _) (.object "java/lang/Object") 3 rfl (Nat.le_of_ble_eq_true rfl) hn dJx4a65c_add_72be8_2 ?_
  show J X 0 0 σ [(0, .ref (hG σ (0, a))), (1, .ref b), (2, .ref (hG σ (14, 64 * a + 10))), (3, .int (nI 10))] [.int (nI 10), .int (nI 10)] 3
  refine j_icmp_ne (pc := 3) C 11 dJx4a65c_add_72be8_3 (by decide) (fun q => absurd q (by decide)) (fun _ => ?_)
  refine j_aload_n (pc := 6) C dJx4a65c_add_72be8_6 rfl 0 rfl ?_
  refine j_callV (pc := 7) C [] [] (rm0 := ({ frames := 5, cells := 1, slots := 15, locals := 147 } : Room)) (k' := 1) (n' := 15) Q.1 (c_grow1_10 (xl X) (xw X) h0 hsz hrow hs hn hj hE) mp_Jx4a65c_grow_d5877 wm_500 (⟨h0, rfl⟩) rfl rfl (Nat.le_of_ble_eq_true rfl) rfl rfl (Nat.le_of_ble_eq_true rfl) dJx4a65c_add_72be8_7 ⟨by decide, by decide⟩ ⟨Nat.le_of_ble_eq_true rfl, Nat.le_of_ble_eq_true rfl⟩ rfl rfl (fun v9 σ1 hp9 => ?_)
  obtain ⟨q, rfl, rfl⟩ := hp9
  have hA : At (sR (cpQ (sNew σ (14, 64 * a + 15) q 15) (64 * a + 10) (64 * a + 15) 10) 1 a 0 (some (14, 64 * a + 15))) (14, 64 * a + 15) q := (At.new (σ := σ) (t := (14, 64 * a + 15)) (q := q) (n := 15))
  have hO : At (sR (cpQ (sNew σ (14, 64 * a + 15) q 15) (64 * a + 10) (64 * a + 15) 10) 1 a 0 (some (14, 64 * a + 15))) (0, a) (hG σ (0, a)) := At.ext (σ := σ) ⟨h0, rfl⟩ (Ext.new (q := q) (n := 15) hj)
  have hX : At (sR (cpQ (sNew σ (14, 64 * a + 15) q 15) (64 * a + 10) (64 * a + 15) 10) 1 a 0 (some (14, 64 * a + 15))) x b := At.ext (σ := σ) hx (Ext.new (q := q) (n := 15) hj)
  have hM : hN (sR (cpQ (sNew σ (14, 64 * a + 15) q 15) (64 * a + 10) (64 * a + 15) 10) 1 a 0 (some (14, 64 * a + 15))) 14 (64 * a + 15) = 15 := if_pos ⟨rfl, rfl⟩
  show J X 1 15 (sR (cpQ (sNew σ (14, 64 * a + 15) q 15) (64 * a + 10) (64 * a + 15) 10) 1 a 0 (some (14, 64 * a + 15))) [(0, .ref (hG σ (0, a))), (1, .ref b), (2, .ref (hG σ (14, 64 * a + 10))), (3, .int (nI 10))] [.ref q] 10
  refine j_astore_n (pc := 10) C [(2, .ref q), (0, .ref (hG σ (0, a))), (1, .ref b), (3, .int (nI 10))] dJx4a65c_add_72be8_10 rfl (by decide) rfl ?_
  refine j_aload_n (pc := 11) C dJx4a65c_add_72be8_11 rfl 0 rfl ?_
  refine j_iload_n (pc := 12) C dJx4a65c_add_72be8_12 rfl 3 rfl ?_
  refine j_aload_n (pc := 13) C dJx4a65c_add_72be8_13 rfl 2 rfl ?_
  refine j_aast (pc := 14) C hA hX hxk (p := 10) (M := 15) rfl hM (by omega) (by omega) dJx4a65c_add_72be8_14 ?_
  show J X 1 15 (sR (sR (cpQ (sNew σ (14, 64 * a + 15) q 15) (64 * a + 10) (64 * a + 15) 10) 1 a 0 (some (14, 64 * a + 15))) 896 (64 * a + 15) 10 (some x)) [(2, .ref q), (0, .ref (hG σ (0, a))), (1, .ref b), (3, .int (nI 10))] [] 15
  refine j_aload_n (pc := 15) C dJx4a65c_add_72be8_15 rfl 1 rfl ?_
  refine j_iload_n (pc := 16) C dJx4a65c_add_72be8_16 rfl 3 rfl ?_
  refine j_iconst (pc := 17) C (nI 1) dJx4a65c_add_72be8_17 (by decide) ?_
  refine j_iadd (pc := 18) C dJx4a65c_add_72be8_18 ?_
  refine j_topi (nI (10 + 1)) (nI_add 10 1) ?_
  refine j_topi (nI 11) rfl ?_
  refine j_putI (pc := 19) C fp_Jx4a65c_48 hO rfl rfl (Or.inl rfl) rfl (by decide) (f := 2) rfl dJx4a65c_add_72be8_19 ?_
  exact j_vreturn (pc := 22) C Q dJx4a65c_add_72be8_22 (Nat.le_of_ble_eq_true rfl) (Nat.le_of_ble_eq_true rfl) (⟨rfl, q, rfl⟩)
set_option maxHeartbeats 4000000 in
set_option maxRecDepth 100000 in
theorem c_add3_15 (L9 : Launch) (w9 : Wd) {σ : HS} {a : Nat} (h0 : hV σ (0, a) = true) (hsz : hI σ 2 a 0 = nI 15) (hrow : hR σ 1 a 0 = some (14, 64 * a + 15)) (hs : hV σ (14, 64 * a + 15) = true) (hn : hN σ 14 (64 * a + 15) = 15) (hj : hV σ (14, 64 * a + 22) = false) (hE : ∀ u, u < 15 → ∀ t, hR σ 896 (64 * a + 15) u = some t → hV σ t = true ∧ t.1 < 11) {x : Tg} {b : Nat} (hx : At σ x b) (hxk : x.1 < 11) : MJ L9 w9 yJx4a65c_add_72be8 cJx4a65c_add_72be8 4 none ({ frames := 5, cells := 1, slots := 22, locals := 147 } : Room) [.ref (hG σ (0, a)), .ref b, .ref (hG σ (14, 64 * a + 15)), .int (nI 15)] σ (fun a9 σ' => a9 = none ∧ ∃ q, σ' = sI (sR (sR (cpQ (sNew σ (14, 64 * a + 22) q 22) (64 * a + 15) (64 * a + 22) 15) 1 a 0 (some (14, 64 * a + 22))) 896 (64 * a + 22) 15 (some x)) 2 a 0 (nI 16)) := by
  refine MJ.of (by decide +kernel) (Nat.le_of_ble_eq_true rfl) (fun X hX1 hX2 C Q hinit => ?_)
  subst hX1; subst hX2
  show J X 0 0 σ [(0, .ref (hG σ (0, a))), (1, .ref b), (2, .ref (hG σ (14, 64 * a + 15))), (3, .int (nI 15))] [] 0
  refine j_iload_n (pc := 0) C dJx4a65c_add_72be8_0 rfl 3 rfl ?_
  refine j_aload_n (pc := 1) C dJx4a65c_add_72be8_1 rfl 2 rfl ?_
  refine j_alen (pc := 2) C (⟨hs, rfl⟩ : At _ (14, 64 * a + 15) _) (.object "java/lang/Object") 3 rfl (Nat.le_of_ble_eq_true rfl) hn dJx4a65c_add_72be8_2 ?_
  show J X 0 0 σ [(0, .ref (hG σ (0, a))), (1, .ref b), (2, .ref (hG σ (14, 64 * a + 15))), (3, .int (nI 15))] [.int (nI 15), .int (nI 15)] 3
  refine j_icmp_ne (pc := 3) C 11 dJx4a65c_add_72be8_3 (by decide) (fun q => absurd q (by decide)) (fun _ => ?_)
  refine j_aload_n (pc := 6) C dJx4a65c_add_72be8_6 rfl 0 rfl ?_
  refine j_callV (pc := 7) C [] [] (rm0 := ({ frames := 5, cells := 1, slots := 22, locals := 147 } : Room)) (k' := 1) (n' := 22) Q.1 (c_grow1_15 (xl X) (xw X) h0 hsz hrow hs hn hj hE) mp_Jx4a65c_grow_d5877 wm_500 (⟨h0, rfl⟩) rfl rfl (Nat.le_of_ble_eq_true rfl) rfl rfl (Nat.le_of_ble_eq_true rfl) dJx4a65c_add_72be8_7 ⟨by decide, by decide⟩ ⟨Nat.le_of_ble_eq_true rfl, Nat.le_of_ble_eq_true rfl⟩ rfl rfl (fun v9 σ1 hp9 => ?_)
  obtain ⟨q, rfl, rfl⟩ := hp9
  have hA : At (sR (cpQ (sNew σ (14, 64 * a + 22) q 22) (64 * a + 15) (64 * a + 22) 15) 1 a 0 (some (14, 64 * a + 22))) (14, 64 * a + 22) q := (At.new (σ := σ) (t := (14, 64 * a + 22)) (q := q) (n := 22))
  have hO : At (sR (cpQ (sNew σ (14, 64 * a + 22) q 22) (64 * a + 15) (64 * a + 22) 15) 1 a 0 (some (14, 64 * a + 22))) (0, a) (hG σ (0, a)) := At.ext (σ := σ) ⟨h0, rfl⟩ (Ext.new (q := q) (n := 22) hj)
  have hX : At (sR (cpQ (sNew σ (14, 64 * a + 22) q 22) (64 * a + 15) (64 * a + 22) 15) 1 a 0 (some (14, 64 * a + 22))) x b := At.ext (σ := σ) hx (Ext.new (q := q) (n := 22) hj)
  have hM : hN (sR (cpQ (sNew σ (14, 64 * a + 22) q 22) (64 * a + 15) (64 * a + 22) 15) 1 a 0 (some (14, 64 * a + 22))) 14 (64 * a + 22) = 22 := if_pos ⟨rfl, rfl⟩
  show J X 1 22 (sR (cpQ (sNew σ (14, 64 * a + 22) q 22) (64 * a + 15) (64 * a + 22) 15) 1 a 0 (some (14, 64 * a + 22))) [(0, .ref (hG σ (0, a))), (1, .ref b), (2, .ref (hG σ (14, 64 * a + 15))), (3, .int (nI 15))] [.ref q] 10
  refine j_astore_n (pc := 10) C [(2, .ref q), (0, .ref (hG σ (0, a))), (1, .ref b), (3, .int (nI 15))] dJx4a65c_add_72be8_10 rfl (by decide) rfl ?_
  refine j_aload_n (pc := 11) C dJx4a65c_add_72be8_11 rfl 0 rfl ?_
  refine j_iload_n (pc := 12) C dJx4a65c_add_72be8_12 rfl 3 rfl ?_
  refine j_aload_n (pc := 13) C dJx4a65c_add_72be8_13 rfl 2 rfl ?_
  refine j_aast (pc := 14) C hA hX hxk (p := 15) (M := 22) rfl hM (by omega) (by omega) dJx4a65c_add_72be8_14 ?_
  show J X 1 22 (sR (sR (cpQ (sNew σ (14, 64 * a + 22) q 22) (64 * a + 15) (64 * a + 22) 15) 1 a 0 (some (14, 64 * a + 22))) 896 (64 * a + 22) 15 (some x)) [(2, .ref q), (0, .ref (hG σ (0, a))), (1, .ref b), (3, .int (nI 15))] [] 15
  refine j_aload_n (pc := 15) C dJx4a65c_add_72be8_15 rfl 1 rfl ?_
  refine j_iload_n (pc := 16) C dJx4a65c_add_72be8_16 rfl 3 rfl ?_
  refine j_iconst (pc := 17) C (nI 1) dJx4a65c_add_72be8_17 (by decide) ?_
  refine j_iadd (pc := 18) C dJx4a65c_add_72be8_18 ?_
  refine j_topi (nI (15 + 1)) (nI_add 15 1) ?_
  refine j_topi (nI 16) rfl ?_
  refine j_putI (pc := 19) C fp_Jx4a65c_48 hO rfl rfl (Or.inl rfl) rfl (by decide) (f := 2) rfl dJx4a65c_add_72be8_19 ?_
  exact j_vreturn (pc := 22) C Q dJx4a65c_add_72be8_22 (Nat.le_of_ble_eq_true rfl) (Nat.le_of_ble_eq_true rfl) (⟨rfl, q, rfl⟩)
set_option maxHeartbeats 4000000 in
set_option maxRecDepth 100000 in
theorem c_add3_22 (L9 : Launch) (w9 : Wd) {σ : HS} {a : Nat} (h0 : hV σ (0, a) = true) (hsz : hI σ 2 a 0 = nI 22) (hrow : hR σ 1 a 0 = some (14, 64 * a + 22)) (hs : hV σ (14, 64 * a + 22) = true) (hn : hN σ 14 (64 * a + 22) = 22) (hj : hV σ (14, 64 * a + 33) = false) (hE : ∀ u, u < 22 → ∀ t, hR σ 896 (64 * a + 22) u = some t → hV σ t = true ∧ t.1 < 11) {x : Tg} {b : Nat} (hx : At σ x b) (hxk : x.1 < 11) : MJ L9 w9 yJx4a65c_add_72be8 cJx4a65c_add_72be8 4 none ({ frames := 5, cells := 1, slots := 33, locals := 147 } : Room) [.ref (hG σ (0, a)), .ref b, .ref (hG σ (14, 64 * a + 22)), .int (nI 22)] σ (fun a9 σ' => a9 = none ∧ ∃ q, σ' = sI (sR (sR (cpQ (sNew σ (14, 64 * a + 33) q 33) (64 * a + 22) (64 * a + 33) 22) 1 a 0 (some (14, 64 * a + 33))) 896 (64 * a + 33) 22 (some x)) 2 a 0 (nI 23)) := by
  refine MJ.of (by decide +kernel) (Nat.le_of_ble_eq_true rfl) (fun X hX1 hX2 C Q hinit => ?_)
  subst hX1; subst hX2
  show J X 0 0 σ [(0, .ref (hG σ (0, a))), (1, .ref b), (2, .ref (hG σ (14, 64 * a + 22))), (3, .int (nI 22))] [] 0
  refine j_iload_n (pc := 0) C dJx4a65c_add_72be8_0 rfl 3 rfl ?_
  refine j_aload_n (pc := 1) C dJx4a65c_add_72be8_1 rfl 2 rfl ?_
  refine j_alen (pc := 2) C (⟨hs, rfl⟩ : At _ (14, 64 * a + 22) _) (.object "java/lang/Object") 3 rfl (Nat.le_of_ble_eq_true rfl) hn dJx4a65c_add_72be8_2 ?_
  show J X 0 0 σ [(0, .ref (hG σ (0, a))), (1, .ref b), (2, .ref (hG σ (14, 64 * a + 22))), (3, .int (nI 22))] [.int (nI 22), .int (nI 22)] 3
  refine j_icmp_ne (pc := 3) C 11 dJx4a65c_add_72be8_3 (by decide) (fun q => absurd q (by decide)) (fun _ => ?_)
  refine j_aload_n (pc := 6) C dJx4a65c_add_72be8_6 rfl 0 rfl ?_
  refine j_callV (pc := 7) C [] [] (rm0 := ({ frames := 5, cells := 1, slots := 33, locals := 147 } : Room)) (k' := 1) (n' := 33) Q.1 (c_grow1_22 (xl X) (xw X) h0 hsz hrow hs hn hj hE) mp_Jx4a65c_grow_d5877 wm_500 (⟨h0, rfl⟩) rfl rfl (Nat.le_of_ble_eq_true rfl) rfl rfl (Nat.le_of_ble_eq_true rfl) dJx4a65c_add_72be8_7 ⟨by decide, by decide⟩ ⟨Nat.le_of_ble_eq_true rfl, Nat.le_of_ble_eq_true rfl⟩ rfl rfl (fun v9 σ1 hp9 => ?_)
  obtain ⟨q, rfl, rfl⟩ := hp9
  have hA : At (sR (cpQ (sNew σ (14, 64 * a + 33) q 33) (64 * a + 22) (64 * a + 33) 22) 1 a 0 (some (14, 64 * a + 33))) (14, 64 * a + 33) q := (At.new (σ := σ) (t := (14, 64 * a + 33)) (q := q) (n := 33))
  have hO : At (sR (cpQ (sNew σ (14, 64 * a + 33) q 33) (64 * a + 22) (64 * a + 33) 22) 1 a 0 (some (14, 64 * a + 33))) (0, a) (hG σ (0, a)) := At.ext (σ := σ) ⟨h0, rfl⟩ (Ext.new (q := q) (n := 33) hj)
  have hX : At (sR (cpQ (sNew σ (14, 64 * a + 33) q 33) (64 * a + 22) (64 * a + 33) 22) 1 a 0 (some (14, 64 * a + 33))) x b := At.ext (σ := σ) hx (Ext.new (q := q) (n := 33) hj)
  have hM : hN (sR (cpQ (sNew σ (14, 64 * a + 33) q 33) (64 * a + 22) (64 * a + 33) 22) 1 a 0 (some (14, 64 * a + 33))) 14 (64 * a + 33) = 33 := if_pos ⟨rfl, rfl⟩
  show J X 1 33 (sR (cpQ (sNew σ (14, 64 * a + 33) q 33) (64 * a + 22) (64 * a + 33) 22) 1 a 0 (some (14, 64 * a + 33))) [(0, .ref (hG σ (0, a))), (1, .ref b), (2, .ref (hG σ (14, 64 * a + 22))), (3, .int (nI 22))] [.ref q] 10
  refine j_astore_n (pc := 10) C [(2, .ref q), (0, .ref (hG σ (0, a))), (1, .ref b), (3, .int (nI 22))] dJx4a65c_add_72be8_10 rfl (by decide) rfl ?_
  refine j_aload_n (pc := 11) C dJx4a65c_add_72be8_11 rfl 0 rfl ?_
  refine j_iload_n (pc := 12) C dJx4a65c_add_72be8_12 rfl 3 rfl ?_
  refine j_aload_n (pc := 13) C dJx4a65c_add_72be8_13 rfl 2 rfl ?_
  refine j_aast (pc := 14) C hA hX hxk (p := 22) (M := 33) rfl hM (by omega) (by omega) dJx4a65c_add_72be8_14 ?_
  show J X 1 33 (sR (sR (cpQ (sNew σ (14, 64 * a + 33) q 33) (64 * a + 22) (64 * a + 33) 22) 1 a 0 (some (14, 64 * a + 33))) 896 (64 * a + 33) 22 (some x)) [(2, .ref q), (0, .ref (hG σ (0, a))), (1, .ref b), (3, .int (nI 22))] [] 15
  refine j_aload_n (pc := 15) C dJx4a65c_add_72be8_15 rfl 1 rfl ?_
  refine j_iload_n (pc := 16) C dJx4a65c_add_72be8_16 rfl 3 rfl ?_
  refine j_iconst (pc := 17) C (nI 1) dJx4a65c_add_72be8_17 (by decide) ?_
  refine j_iadd (pc := 18) C dJx4a65c_add_72be8_18 ?_
  refine j_topi (nI (22 + 1)) (nI_add 22 1) ?_
  refine j_topi (nI 23) rfl ?_
  refine j_putI (pc := 19) C fp_Jx4a65c_48 hO rfl rfl (Or.inl rfl) rfl (by decide) (f := 2) rfl dJx4a65c_add_72be8_19 ?_
  exact j_vreturn (pc := 22) C Q dJx4a65c_add_72be8_22 (Nat.le_of_ble_eq_true rfl) (Nat.le_of_ble_eq_true rfl) (⟨rfl, q, rfl⟩)
set_option maxHeartbeats 4000000 in
set_option maxRecDepth 100000 in
theorem c_add3_33 (L9 : Launch) (w9 : Wd) {σ : HS} {a : Nat} (h0 : hV σ (0, a) = true) (hsz : hI σ 2 a 0 = nI 33) (hrow : hR σ 1 a 0 = some (14, 64 * a + 33)) (hs : hV σ (14, 64 * a + 33) = true) (hn : hN σ 14 (64 * a + 33) = 33) (hj : hV σ (14, 64 * a + 49) = false) (hE : ∀ u, u < 33 → ∀ t, hR σ 896 (64 * a + 33) u = some t → hV σ t = true ∧ t.1 < 11) {x : Tg} {b : Nat} (hx : At σ x b) (hxk : x.1 < 11) : MJ L9 w9 yJx4a65c_add_72be8 cJx4a65c_add_72be8 4 none ({ frames := 5, cells := 1, slots := 49, locals := 147 } : Room) [.ref (hG σ (0, a)), .ref b, .ref (hG σ (14, 64 * a + 33)), .int (nI 33)] σ (fun a9 σ' => a9 = none ∧ ∃ q, σ' = sI (sR (sR (cpQ (sNew σ (14, 64 * a + 49) q 49) (64 * a + 33) (64 * a + 49) 33) 1 a 0 (some (14, 64 * a + 49))) 896 (64 * a + 49) 33 (some x)) 2 a 0 (nI 34)) := by
  refine MJ.of (by decide +kernel) (Nat.le_of_ble_eq_true rfl) (fun X hX1 hX2 C Q hinit => ?_)
  subst hX1; subst hX2
  show J X 0 0 σ [(0, .ref (hG σ (0, a))), (1, .ref b), (2, .ref (hG σ (14, 64 * a + 33))), (3, .int (nI 33))] [] 0
  refine j_iload_n (pc := 0) C dJx4a65c_add_72be8_0 rfl 3 rfl ?_
  refine j_aload_n (pc := 1) C dJx4a65c_add_72be8_1 rfl 2 rfl ?_
  refine j_alen (pc := 2) C (⟨hs, rfl⟩ : At _ (14, 64 * a + 33) _) (.object "java/lang/Object") 3 rfl (Nat.le_of_ble_eq_true rfl) hn dJx4a65c_add_72be8_2 ?_
  show J X 0 0 σ [(0, .ref (hG σ (0, a))), (1, .ref b), (2, .ref (hG σ (14, 64 * a + 33))), (3, .int (nI 33))] [.int (nI 33), .int (nI 33)] 3
  refine j_icmp_ne (pc := 3) C 11 dJx4a65c_add_72be8_3 (by decide) (fun q => absurd q (by decide)) (fun _ => ?_)
  refine j_aload_n (pc := 6) C dJx4a65c_add_72be8_6 rfl 0 rfl ?_
  refine j_callV (pc := 7) C [] [] (rm0 := ({ frames := 5, cells := 1, slots := 49, locals := 147 } : Room)) (k' := 1) (n' := 49) Q.1 (c_grow1_33 (xl X) (xw X) h0 hsz hrow hs hn hj hE) mp_Jx4a65c_grow_d5877 wm_500 (⟨h0, rfl⟩) rfl rfl (Nat.le_of_ble_eq_true rfl) rfl rfl (Nat.le_of_ble_eq_true rfl) dJx4a65c_add_72be8_7 ⟨by decide, by decide⟩ ⟨Nat.le_of_ble_eq_true rfl, Nat.le_of_ble_eq_true rfl⟩ rfl rfl (fun v9 σ1 hp9 => ?_)
  obtain ⟨q, rfl, rfl⟩ := hp9
  have hA : At (sR (cpQ (sNew σ (14, 64 * a + 49) q 49) (64 * a + 33) (64 * a + 49) 33) 1 a 0 (some (14, 64 * a + 49))) (14, 64 * a + 49) q := (At.new (σ := σ) (t := (14, 64 * a + 49)) (q := q) (n := 49))
  have hO : At (sR (cpQ (sNew σ (14, 64 * a + 49) q 49) (64 * a + 33) (64 * a + 49) 33) 1 a 0 (some (14, 64 * a + 49))) (0, a) (hG σ (0, a)) := At.ext (σ := σ) ⟨h0, rfl⟩ (Ext.new (q := q) (n := 49) hj)
  have hX : At (sR (cpQ (sNew σ (14, 64 * a + 49) q 49) (64 * a + 33) (64 * a + 49) 33) 1 a 0 (some (14, 64 * a + 49))) x b := At.ext (σ := σ) hx (Ext.new (q := q) (n := 49) hj)
  have hM : hN (sR (cpQ (sNew σ (14, 64 * a + 49) q 49) (64 * a + 33) (64 * a + 49) 33) 1 a 0 (some (14, 64 * a + 49))) 14 (64 * a + 49) = 49 := if_pos ⟨rfl, rfl⟩
  show J X 1 49 (sR (cpQ (sNew σ (14, 64 * a + 49) q 49) (64 * a + 33) (64 * a + 49) 33) 1 a 0 (some (14, 64 * a + 49))) [(0, .ref (hG σ (0, a))), (1, .ref b), (2, .ref (hG σ (14, 64 * a + 33))), (3, .int (nI 33))] [.ref q] 10
  refine j_astore_n (pc := 10) C [(2, .ref q), (0, .ref (hG σ (0, a))), (1, .ref b), (3, .int (nI 33))] dJx4a65c_add_72be8_10 rfl (by decide) rfl ?_
  refine j_aload_n (pc := 11) C dJx4a65c_add_72be8_11 rfl 0 rfl ?_
  refine j_iload_n (pc := 12) C dJx4a65c_add_72be8_12 rfl 3 rfl ?_
  refine j_aload_n (pc := 13) C dJx4a65c_add_72be8_13 rfl 2 rfl ?_
  refine j_aast (pc := 14) C hA hX hxk (p := 33) (M := 49) rfl hM (by omega) (by omega) dJx4a65c_add_72be8_14 ?_
  show J X 1 49 (sR (sR (cpQ (sNew σ (14, 64 * a + 49) q 49) (64 * a + 33) (64 * a + 49) 33) 1 a 0 (some (14, 64 * a + 49))) 896 (64 * a + 49) 33 (some x)) [(2, .ref q), (0, .ref (hG σ (0, a))), (1, .ref b), (3, .int (nI 33))] [] 15
  refine j_aload_n (pc := 15) C dJx4a65c_add_72be8_15 rfl 1 rfl ?_
  refine j_iload_n (pc := 16) C dJx4a65c_add_72be8_16 rfl 3 rfl ?_
  refine j_iconst (pc := 17) C (nI 1) dJx4a65c_add_72be8_17 (by decide) ?_
  refine j_iadd (pc := 18) C dJx4a65c_add_72be8_18 ?_
  refine j_topi (nI (33 + 1)) (nI_add 33 1) ?_
  refine j_topi (nI 34) rfl ?_
  refine j_putI (pc := 19) C fp_Jx4a65c_48 hO rfl rfl (Or.inl rfl) rfl (by decide) (f := 2) rfl dJx4a65c_add_72be8_19 ?_
  exact j_vreturn (pc := 22) C Q dJx4a65c_add_72be8_22 (Nat.le_of_ble_eq_true rfl) (Nat.le_of_ble_eq_true rfl) (⟨rfl, q, rfl⟩)
