theorem AL9.mod {σ : HS} {a c : Nat} {xs : List Tg} (h : AL9 σ a xs c) (v : Int32) : AL9 (sI σ 0 a 0 v) a xs c := ⟨h.1, (show up3 (hI σ) 0 a 0 v 2 a 0 = _ from up3_ne (fun z => absurd z.1 (by decide))).trans h.2.1, h.2.2⟩
set_option maxHeartbeats 4000000 in
set_option maxRecDepth 100000 in
theorem c_add2 (L9 : Launch) (w9 : Wd) {σ : HS} {a c : Nat} {xs : List Tg} (h : AL9 σ a xs c) (hroom : xs.length < c) {x : Tg} {b : Nat} (hx : At σ x b) (hxk : x.1 < 11) : MJ L9 w9 yJx4a65c_add_9ea2d cJx4a65c_add_9ea2d 2 (some .boolean) ({ frames := 1, cells := 0, slots := 0, locals := 23 } : Room) [.ref (hG σ (0, a)), .ref b] σ (fun a9 σ' => a9 = some (.int (bI true)) ∧ σ' = sI (sR (sI σ 0 a 0 (hI σ 0 a 0 + nI 1)) 896 (64 * a + c) xs.length (some x)) 2 a 0 (nI (xs.length + 1))) := by
  refine MJ.of (by decide +kernel) (Nat.le_of_ble_eq_true rfl) (fun X hX1 hX2 C Q hinit => ?_)
  subst hX1; subst hX2
  show J X 0 0 σ [(0, .ref (hG σ (0, a))), (1, .ref b)] [] 0
  have h64 := h.2.2.2.2.2.1
  obtain ⟨hrow, hv, hNc⟩ := h.2.2.2.1 (by omega)
  have hat : At σ (14, 64 * a + c) (hG σ (14, 64 * a + c)) := ⟨hv, rfl⟩
  have hsz : hI (sI σ 0 a 0 (hI σ 0 a 0 + nI 1)) 2 a 0 = nI xs.length := (h.mod _).2.1
  refine j_aload_n (pc := 0) C dJx4a65c_add_9ea2d_0 rfl 0 rfl ?_
  refine j_dup (pc := 1) C dJx4a65c_add_9ea2d_1 rfl ?_
  refine j_getI (pc := 2) C fp_Jx4a65c_63 (⟨h.1, rfl⟩) rfl (f := 0) rfl dJx4a65c_add_9ea2d_2 ?_
  refine j_iconst (pc := 5) C (nI 1) dJx4a65c_add_9ea2d_5 (by decide) ?_
  refine j_iadd (pc := 6) C dJx4a65c_add_9ea2d_6 ?_
  refine j_putI (pc := 7) C fp_Jx4a65c_63 (⟨h.1, rfl⟩) rfl rfl (Or.inl rfl) rfl (by decide) (f := 0) rfl dJx4a65c_add_9ea2d_7 ?_
  refine j_aload_n (pc := 10) C dJx4a65c_add_9ea2d_10 rfl 0 rfl ?_
  refine j_aload_n (pc := 11) C dJx4a65c_add_9ea2d_11 rfl 1 rfl ?_
  refine j_aload_n (pc := 12) C dJx4a65c_add_9ea2d_12 rfl 0 rfl ?_
  refine j_getA (pc := 13) C fp_Jx4a65c_9 (⟨h.1, rfl⟩) rfl (f := 1) rfl (14, 64 * a + c) (hG σ (14, 64 * a + c)) hrow hat dJx4a65c_add_9ea2d_13 ?_
  refine j_aload_n (pc := 16) C dJx4a65c_add_9ea2d_16 rfl 0 rfl ?_
  refine j_getI (pc := 17) C fp_Jx4a65c_48 (⟨h.1, rfl⟩) rfl (f := 2) rfl dJx4a65c_add_9ea2d_17 ?_
  refine j_topi (nI xs.length) hsz ?_
  refine j_callV (pc := 20) C [.ref b, .ref (hG σ (14, 64 * a + c)), .int (nI xs.length)] [] (rm0 := ({ frames := 1, cells := 0, slots := 0, locals := 23 } : Room)) (k' := 0) (n' := 0) Q.1 (c_add3 (xl X) (xw X) (h.mod _) hroom hx hxk) mp_Jx4a65c_add_72be8 wm_496 (⟨h.1, rfl⟩) rfl rfl (Nat.le_of_ble_eq_true rfl) rfl rfl (Nat.le_of_ble_eq_true rfl) dJx4a65c_add_9ea2d_20 ⟨by decide, by decide⟩ ⟨Nat.le_of_ble_eq_true rfl, Nat.le_of_ble_eq_true rfl⟩ rfl rfl (det0 ?_)
  refine j_iconst (pc := 23) C (nI 1) dJx4a65c_add_9ea2d_23 (by decide) ?_
  refine j_topi (bI true) rfl ?_
  exact j_zreturn (pc := 24) C Q dJx4a65c_add_9ea2d_24 (bI_nar _) (Nat.le_of_ble_eq_true rfl) (Nat.le_of_ble_eq_true rfl) (⟨rfl, rfl⟩)
set_option maxHeartbeats 4000000 in
set_option maxRecDepth 100000 in
theorem c_add2_0 (L9 : Launch) (w9 : Wd) {σ : HS} {a : Nat} (h0 : hV σ (0, a) = true) (hsz : hI σ 2 a 0 = nI 0) (hrow : hR σ 1 a 0 = some (15, 0)) (hj : hV σ (14, 64 * a + 10) = false) {x : Tg} {b : Nat} (hx : At σ x b) (hxk : x.1 < 11) : MJ L9 w9 yJx4a65c_add_9ea2d cJx4a65c_add_9ea2d 2 (some .boolean) ({ frames := 4, cells := 1, slots := 10, locals := 80 } : Room) [.ref (hG σ (0, a)), .ref b] σ (fun a9 σ' => a9 = some (.int (bI true)) ∧ ∃ q, σ' = sI (sR (sR (sNew (sI σ 0 a 0 (hI σ 0 a 0 + nI 1)) (14, 64 * a + 10) q 10) 1 a 0 (some (14, 64 * a + 10))) 896 (64 * a + 10) 0 (some x)) 2 a 0 (nI 1)) := by
  refine MJ.of (by decide +kernel) (Nat.le_of_ble_eq_true rfl) (fun X hX1 hX2 C Q hinit => ?_)
  subst hX1; subst hX2
  show J X 0 0 σ [(0, .ref (hG σ (0, a))), (1, .ref b)] [] 0
  have hz2 : hI (sI σ 0 a 0 (hI σ 0 a 0 + nI 1)) 2 a 0 = nI 0 := (show up3 (hI σ) 0 a 0 (hI σ 0 a 0 + nI 1) 2 a 0 = hI σ 2 a 0 from up3_ne (fun z => absurd z.1 (by decide))).trans hsz
  refine j_aload_n (pc := 0) C dJx4a65c_add_9ea2d_0 rfl 0 rfl ?_
  refine j_dup (pc := 1) C dJx4a65c_add_9ea2d_1 rfl ?_
  refine j_getI (pc := 2) C fp_Jx4a65c_63 (⟨h0, rfl⟩) rfl (f := 0) rfl dJx4a65c_add_9ea2d_2 ?_
  refine j_iconst (pc := 5) C (nI 1) dJx4a65c_add_9ea2d_5 (by decide) ?_
  refine j_iadd (pc := 6) C dJx4a65c_add_9ea2d_6 ?_
  refine j_putI (pc := 7) C fp_Jx4a65c_63 (⟨h0, rfl⟩) rfl rfl (Or.inl rfl) rfl (by decide) (f := 0) rfl dJx4a65c_add_9ea2d_7 ?_
  refine j_aload_n (pc := 10) C dJx4a65c_add_9ea2d_10 rfl 0 rfl ?_
  refine j_aload_n (pc := 11) C dJx4a65c_add_9ea2d_11 rfl 1 rfl ?_
  refine j_aload_n (pc := 12) C dJx4a65c_add_9ea2d_12 rfl 0 rfl ?_
  refine j_getR (pc := 13) C fp_Jx4a65c_9 (⟨h0, rfl⟩ : At _ (0, a) _) rfl (f := 1) rfl (15, 0) hrow dJx4a65c_add_9ea2d_13 ?_
  show J X 0 0 (sI σ 0 a 0 ((hI σ 0 a 0) + (nI 1))) [(0, .ref (hG σ (0, a))), (1, .ref b)] [.ref (hG σ (15, 0)), .ref b, .ref (hG σ (0, a))] 16
  refine j_aload_n (pc := 16) C dJx4a65c_add_9ea2d_16 rfl 0 rfl ?_
  refine j_getI (pc := 17) C fp_Jx4a65c_48 (⟨h0, rfl⟩) rfl (f := 2) rfl dJx4a65c_add_9ea2d_17 ?_
  refine j_topi (nI 0) hz2 ?_
  refine j_callV (pc := 20) C [.ref b, .ref (hG σ (15, 0)), .int (nI 0)] [] (rm0 := ({ frames := 4, cells := 1, slots := 10, locals := 80 } : Room)) (k' := 1) (n' := 10) Q.1 (c_add3_0 (xl X) (xw X) (σ := sI σ 0 a 0 (hI σ 0 a 0 + nI 1)) h0 hz2 hrow hj hx hxk) mp_Jx4a65c_add_72be8 wm_496 (⟨h0, rfl⟩) rfl rfl (Nat.le_of_ble_eq_true rfl) rfl rfl (Nat.le_of_ble_eq_true rfl) dJx4a65c_add_9ea2d_20 ⟨by decide, by decide⟩ ⟨Nat.le_of_ble_eq_true rfl, Nat.le_of_ble_eq_true rfl⟩ rfl rfl (fun v9 σ1 hp9 => ?_)
  obtain ⟨rfl, q, rfl⟩ := hp9
  show J X 1 10 (sI (sR (sR (sNew (sI σ 0 a 0 (hI σ 0 a 0 + nI 1)) (14, 64 * a + 10) q 10) 1 a 0 (some (14, 64 * a + 10))) 896 (64 * a + 10) 0 (some x)) 2 a 0 (nI 1)) [(0, .ref (hG σ (0, a))), (1, .ref b)] [] 23
  refine j_iconst (pc := 23) C (nI 1) dJx4a65c_add_9ea2d_23 (by decide) ?_
  refine j_topi (bI true) rfl ?_
  exact j_zreturn (pc := 24) C Q dJx4a65c_add_9ea2d_24 (bI_nar _) (Nat.le_of_ble_eq_true rfl) (Nat.le_of_ble_eq_true rfl) (⟨rfl, q, rfl⟩)
set_option maxHeartbeats 4000000 in
set_option maxRecDepth 100000 in
theorem c_add2_10 (L9 : Launch) (w9 : Wd) {σ : HS} {a : Nat} (h0 : hV σ (0, a) = true) (hsz : hI σ 2 a 0 = nI 10) (hrow : hR σ 1 a 0 = some (14, 64 * a + 10)) (hs : hV σ (14, 64 * a + 10) = true) (hn : hN σ 14 (64 * a + 10) = 10) (hj : hV σ (14, 64 * a + 15) = false) (hE : ∀ u, u < 10 → ∀ t, hR σ 896 (64 * a + 10) u = some t → hV σ t = true ∧ t.1 < 11) {x : Tg} {b : Nat} (hx : At σ x b) (hxk : x.1 < 11) : MJ L9 w9 yJx4a65c_add_9ea2d cJx4a65c_add_9ea2d 2 (some .boolean) ({ frames := 6, cells := 1, slots := 15, locals := 170 } : Room) [.ref (hG σ (0, a)), .ref b] σ (fun a9 σ' => a9 = some (.int (bI true)) ∧ ∃ q, σ' = sI (sR (sR (cpQ (sNew (sI σ 0 a 0 (hI σ 0 a 0 + nI 1)) (14, 64 * a + 15) q 15) (64 * a + 10) (64 * a + 15) 10) 1 a 0 (some (14, 64 * a + 15))) 896 (64 * a + 15) 10 (some x)) 2 a 0 (nI 11)) := by
  refine MJ.of (by decide +kernel) (Nat.le_of_ble_eq_true rfl) (fun X hX1 hX2 C Q hinit => ?_)
  subst hX1; subst hX2
  show J X 0 0 σ [(0, .ref (hG σ (0, a))), (1, .ref b)] [] 0
  have hz2 : hI (sI σ 0 a 0 (hI σ 0 a 0 + nI 1)) 2 a 0 = nI 10 := (show up3 (hI σ) 0 a 0 (hI σ 0 a 0 + nI 1) 2 a 0 = hI σ 2 a 0 from up3_ne (fun z => absurd z.1 (by decide))).trans hsz
  refine j_aload_n (pc := 0) C dJx4a65c_add_9ea2d_0 rfl 0 rfl ?_
  refine j_dup (pc := 1) C dJx4a65c_add_9ea2d_1 rfl ?_
  refine j_getI (pc := 2) C fp_Jx4a65c_63 (⟨h0, rfl⟩) rfl (f := 0) rfl dJx4a65c_add_9ea2d_2 ?_
  refine j_iconst (pc := 5) C (nI 1) dJx4a65c_add_9ea2d_5 (by decide) ?_
  refine j_iadd (pc := 6) C dJx4a65c_add_9ea2d_6 ?_
  refine j_putI (pc := 7) C fp_Jx4a65c_63 (⟨h0, rfl⟩) rfl rfl (Or.inl rfl) rfl (by decide) (f := 0) rfl dJx4a65c_add_9ea2d_7 ?_
  refine j_aload_n (pc := 10) C dJx4a65c_add_9ea2d_10 rfl 0 rfl ?_
  refine j_aload_n (pc := 11) C dJx4a65c_add_9ea2d_11 rfl 1 rfl ?_
  refine j_aload_n (pc := 12) C dJx4a65c_add_9ea2d_12 rfl 0 rfl ?_
  refine j_getA (pc := 13) C fp_Jx4a65c_9 (⟨h0, rfl⟩) rfl (f := 1) rfl (14, 64 * a + 10) (hG σ (14, 64 * a + 10)) hrow (⟨hs, rfl⟩ : At _ (14, 64 * a + 10) _) dJx4a65c_add_9ea2d_13 ?_
  refine j_aload_n (pc := 16) C dJx4a65c_add_9ea2d_16 rfl 0 rfl ?_
  refine j_getI (pc := 17) C fp_Jx4a65c_48 (⟨h0, rfl⟩) rfl (f := 2) rfl dJx4a65c_add_9ea2d_17 ?_
  refine j_topi (nI 10) hz2 ?_
  refine j_callV (pc := 20) C [.ref b, .ref (hG σ (14, 64 * a + 10)), .int (nI 10)] [] (rm0 := ({ frames := 6, cells := 1, slots := 15, locals := 170 } : Room)) (k' := 1) (n' := 15) Q.1 (c_add3_10 (xl X) (xw X) (σ := sI σ 0 a 0 (hI σ 0 a 0 + nI 1)) h0 hz2 hrow hs hn hj hE hx hxk) mp_Jx4a65c_add_72be8 wm_496 (⟨h0, rfl⟩) rfl rfl (Nat.le_of_ble_eq_true rfl) rfl rfl (Nat.le_of_ble_eq_true rfl) dJx4a65c_add_9ea2d_20 ⟨by decide, by decide⟩ ⟨Nat.le_of_ble_eq_true rfl, Nat.le_of_ble_eq_true rfl⟩ rfl rfl (fun v9 σ1 hp9 => ?_)
  obtain ⟨rfl, q, rfl⟩ := hp9
  show J X 1 15 (sI (sR (sR (cpQ (sNew (sI σ 0 a 0 (hI σ 0 a 0 + nI 1)) (14, 64 * a + 15) q 15) (64 * a + 10) (64 * a + 15) 10) 1 a 0 (some (14, 64 * a + 15))) 896 (64 * a + 15) 10 (some x)) 2 a 0 (nI 11)) [(0, .ref (hG σ (0, a))), (1, .ref b)] [] 23
  refine j_iconst (pc := 23) C (nI 1) dJx4a65c_add_9ea2d_23 (by decide) ?_
  refine j_topi (bI true) rfl ?_
  exact j_zreturn (pc := 24) C Q dJx4a65c_add_9ea2d_24 (bI_nar _) (Nat.le_of_ble_eq_true rfl) (Nat.le_of_ble_eq_true rfl) (⟨rfl, q, rfl⟩)
set_option maxHeartbeats 4000000 in
set_option maxRecDepth 100000 in
theorem c_add2_15 (L9 : Launch) (w9 : Wd) {σ : HS} {a : Nat} (h0 : hV σ (0, a) = true) (hsz : hI σ 2 a 0 = nI 15) (hrow : hR σ 1 a 0 = some (14, 64 * a + 15)) (hs : hV σ (14, 64 * a + 15) = true) (hn : hN σ 14 (64 * a + 15) = 15) (hj : hV σ (14, 64 * a + 22) = false) (hE : ∀ u, u < 15 → ∀ t, hR σ 896 (64 * a + 15) u = some t → hV σ t = true ∧ t.1 < 11) {x : Tg} {b : Nat} (hx : At σ x b) (hxk : x.1 < 11) : MJ L9 w9 yJx4a65c_add_9ea2d cJx4a65c_add_9ea2d 2 (some .boolean) ({ frames := 6, cells := 1, slots := 22, locals := 170 } : Room) [.ref (hG σ (0, a)), .ref b] σ (fun a9 σ' => a9 = some (.int (bI true)) ∧ ∃ q, σ' = sI (sR (sR (cpQ (sNew (sI σ 0 a 0 (hI σ 0 a 0 + nI 1)) (14, 64 * a + 22) q 22) (64 * a + 15) (64 * a + 22) 15) 1 a 0 (some (14, 64 * a + 22))) 896 (64 * a + 22) 15 (some x)) 2 a 0 (nI 16)) := by
  refine MJ.of (by decide +kernel) (Nat.le_of_ble_eq_true rfl) (fun X hX1 hX2 C Q hinit => ?_)
  subst hX1; subst hX2
  show J X 0 0 σ [(0, .ref (hG σ (0, a))), (1, .ref b)] [] 0
  have hz2 : hI (sI σ 0 a 0 (hI σ 0 a 0 + nI 1)) 2 a 0 = nI 15 := (show up3 (hI σ) 0 a 0 (hI σ 0 a 0 + nI 1) 2 a 0 = hI σ 2 a 0 from up3_ne (fun z => absurd z.1 (by decide))).trans hsz
  refine j_aload_n (pc := 0) C dJx4a65c_add_9ea2d_0 rfl 0 rfl ?_
  refine j_dup (pc := 1) C dJx4a65c_add_9ea2d_1 rfl ?_
  refine j_getI (pc := 2) C fp_Jx4a65c_63 (⟨h0, rfl⟩) rfl (f := 0) rfl dJx4a65c_add_9ea2d_2 ?_
  refine j_iconst (pc := 5) C (nI 1) dJx4a65c_add_9ea2d_5 (by decide) ?_
  refine j_iadd (pc := 6) C dJx4a65c_add_9ea2d_6 ?_
  refine j_putI (pc := 7) C fp_Jx4a65c_63 (⟨h0, rfl⟩) rfl rfl (Or.inl rfl) rfl (by decide) (f := 0) rfl dJx4a65c_add_9ea2d_7 ?_
  refine j_aload_n (pc := 10) C dJx4a65c_add_9ea2d_10 rfl 0 rfl ?_
  refine j_aload_n (pc := 11) C dJx4a65c_add_9ea2d_11 rfl 1 rfl ?_
  refine j_aload_n (pc := 12) C dJx4a65c_add_9ea2d_12 rfl 0 rfl ?_
  refine j_getA (pc := 13) C fp_Jx4a65c_9 (⟨h0, rfl⟩) rfl (f := 1) rfl (14, 64 * a + 15) (hG σ (14, 64 * a + 15)) hrow (⟨hs, rfl⟩ : At _ (14, 64 * a + 15) _) dJx4a65c_add_9ea2d_13 ?_
  refine j_aload_n (pc := 16) C dJx4a65c_add_9ea2d_16 rfl 0 rfl ?_
  refine j_getI (pc := 17) C fp_Jx4a65c_48 (⟨h0, rfl⟩) rfl (f := 2) rfl dJx4a65c_add_9ea2d_17 ?_
  refine j_topi (nI 15) hz2 ?_
  refine j_callV (pc := 20) C [.ref b, .ref (hG σ (14, 64 * a + 15)), .int (nI 15)] [] (rm0 := ({ frames := 6, cells := 1, slots := 22, locals := 170 } : Room)) (k' := 1) (n' := 22) Q.1 (c_add3_15 (xl X) (xw X) (σ := sI σ 0 a 0 (hI σ 0 a 0 + nI 1)) h0 hz2 hrow hs hn hj hE hx hxk) mp_Jx4a65c_add_72be8 wm_496 (⟨h0, rfl⟩) rfl rfl (Nat.le_of_ble_eq_true rfl) rfl rfl (Nat.le_of_ble_eq_true rfl) dJx4a65c_add_9ea2d_20 ⟨by decide, by decide⟩ ⟨Nat.le_of_ble_eq_true rfl, Nat.le_of_ble_eq_true rfl⟩ rfl rfl (fun v9 σ1 hp9 => ?_)
  obtain ⟨rfl, q, rfl⟩ := hp9
  show J X 1 22 (sI (sR (sR (cpQ (sNew (sI σ 0 a 0 (hI σ 0 a 0 + nI 1)) (14, 64 * a + 22) q 22) (64 * a + 15) (64 * a + 22) 15) 1 a 0 (some (14, 64 * a + 22))) 896 (64 * a + 22) 15 (some x)) 2 a 0 (nI 16)) [(0, .ref (hG σ (0, a))), (1, .ref b)] [] 23
  refine j_iconst (pc := 23) C (nI 1) dJx4a65c_add_9ea2d_23 (by decide) ?_
  refine j_topi (bI true) rfl ?_
  exact j_zreturn (pc := 24) C Q dJx4a65c_add_9ea2d_24 (bI_nar _) (Nat.le_of_ble_eq_true rfl) (Nat.le_of_ble_eq_true rfl) (⟨rfl, q, rfl⟩)
set_option maxHeartbeats 4000000 in
set_option maxRecDepth 100000 in
theorem c_add2_22 (L9 : Launch) (w9 : Wd) {σ : HS} {a : Nat} (h0 : hV σ (0, a) = true) (hsz : hI σ 2 a 0 = nI 22) (hrow : hR σ 1 a 0 = some (14, 64 * a + 22)) (hs : hV σ (14, 64 * a + 22) = true) (hn : hN σ 14 (64 * a + 22) = 22) (hj : hV σ (14, 64 * a + 33) = false) (hE : ∀ u, u < 22 → ∀ t, hR σ 896 (64 * a + 22) u = some t → hV σ t = true ∧ t.1 < 11) {x : Tg} {b : Nat} (hx : At σ x b) (hxk : x.1 < 11) : MJ L9 w9 yJx4a65c_add_9ea2d cJx4a65c_add_9ea2d 2 (some .boolean) ({ frames := 6, cells := 1, slots := 33, locals := 170 } : Room) [.ref (hG σ (0, a)), .ref b] σ (fun a9 σ' => a9 = some (.int (bI true)) ∧ ∃ q, σ' = sI (sR (sR (cpQ (sNew (sI σ 0 a 0 (hI σ 0 a 0 + nI 1)) (14, 64 * a + 33) q 33) (64 * a + 22) (64 * a + 33) 22) 1 a 0 (some (14, 64 * a + 33))) 896 (64 * a + 33) 22 (some x)) 2 a 0 (nI 23)) := by
  refine MJ.of (by decide +kernel) (Nat.le_of_ble_eq_true rfl) (fun X hX1 hX2 C Q hinit => ?_)
  subst hX1; subst hX2
  show J X 0 0 σ [(0, .ref (hG σ (0, a))), (1, .ref b)] [] 0
  have hz2 : hI (sI σ 0 a 0 (hI σ 0 a 0 + nI 1)) 2 a 0 = nI 22 := (show up3 (hI σ) 0 a 0 (hI σ 0 a 0 + nI 1) 2 a 0 = hI σ 2 a 0 from up3_ne (fun z => absurd z.1 (by decide))).trans hsz
  refine j_aload_n (pc := 0) C dJx4a65c_add_9ea2d_0 rfl 0 rfl ?_
  refine j_dup (pc := 1) C dJx4a65c_add_9ea2d_1 rfl ?_
  refine j_getI (pc := 2) C fp_Jx4a65c_63 (⟨h0, rfl⟩) rfl (f := 0) rfl dJx4a65c_add_9ea2d_2 ?_
  refine j_iconst (pc := 5) C (nI 1) dJx4a65c_add_9ea2d_5 (by decide) ?_
  refine j_iadd (pc := 6) C dJx4a65c_add_9ea2d_6 ?_
  refine j_putI (pc := 7) C fp_Jx4a65c_63 (⟨h0, rfl⟩) rfl rfl (Or.inl rfl) rfl (by decide) (f := 0) rfl dJx4a65c_add_9ea2d_7 ?_
  refine j_aload_n (pc := 10) C dJx4a65c_add_9ea2d_10 rfl 0 rfl ?_
  refine j_aload_n (pc := 11) C dJx4a65c_add_9ea2d_11 rfl 1 rfl ?_
  refine j_aload_n (pc := 12) C dJx4a65c_add_9ea2d_12 rfl 0 rfl ?_
  refine j_getA (pc := 13) C fp_Jx4a65c_9 (⟨h0, rfl⟩) rfl (f := 1) rfl (14, 64 * a + 22) (hG σ (14, 64 * a + 22)) hrow (⟨hs, rfl⟩ : At _ (14, 64 * a + 22) _) dJx4a65c_add_9ea2d_13 ?_
  refine j_aload_n (pc := 16) C dJx4a65c_add_9ea2d_16 rfl 0 rfl ?_
  refine j_getI (pc := 17) C fp_Jx4a65c_48 (⟨h0, rfl⟩) rfl (f := 2) rfl dJx4a65c_add_9ea2d_17 ?_
  refine j_topi (nI 22) hz2 ?_
  refine j_callV (pc := 20) C [.ref b, .ref (hG σ (14, 64 * a + 22)), .int (nI 22)] [] (rm0 := ({ frames := 6, cells := 1, slots := 33, locals := 170 } : Room)) (k' := 1) (n' := 33) Q.1 (c_add3_22 (xl X) (xw X) (σ := sI σ 0 a 0 (hI σ 0 a 0 + nI 1)) h0 hz2 hrow hs hn hj hE hx hxk) mp_Jx4a65c_add_72be8 wm_496 (⟨h0, rfl⟩) rfl rfl (Nat.le_of_ble_eq_true rfl) rfl rfl (Nat.le_of_ble_eq_true rfl) dJx4a65c_add_9ea2d_20 ⟨by decide, by decide⟩ ⟨Nat.le_of_ble_eq_true rfl, Nat.le_of_ble_eq_true rfl⟩ rfl rfl (fun v9 σ1 hp9 => ?_)
  obtain ⟨rfl, q, rfl⟩ := hp9
  show J X 1 33 (sI (sR (sR (cpQ (sNew (sI σ 0 a 0 (hI σ 0 a 0 + nI 1)) (14, 64 * a + 33) q 33) (64 * a + 22) (64 * a + 33) 22) 1 a 0 (some (14, 64 * a + 33))) 896 (64 * a + 33) 22 (some x)) 2 a 0 (nI 23)) [(0, .ref (hG σ (0, a))), (1, .ref b)] [] 23
  refine j_iconst (pc := 23) C (nI 1) dJx4a65c_add_9ea2d_23 (by decide) ?_
  refine j_topi (bI true) rfl ?_
  exact j_zreturn (pc := 24) C Q dJx4a65c_add_9ea2d_24 (bI_nar _) (Nat.le_of_ble_eq_true rfl) (Nat.le_of_ble_eq_true rfl) (⟨rfl, q, rfl⟩)
set_option maxHeartbeats 4000000 in
set_option maxRecDepth 100000 in
theorem c_add2_33 (L9 : Launch) (w9 : Wd) {σ : HS} {a : Nat} (h0 : hV σ (0, a) = true) (hsz : hI σ 2 a 0 = nI 33) (hrow : hR σ 1 a 0 = some (14, 64 * a + 33)) (hs : hV σ (14, 64 * a + 33) = true) (hn : hN σ 14 (64 * a + 33) = 33) (hj : hV σ (14, 64 * a + 49) = false) (hE : ∀ u, u < 33 → ∀ t, hR σ 896 (64 * a + 33) u = some t → hV σ t = true ∧ t.1 < 11) {x : Tg} {b : Nat} (hx : At σ x b) (hxk : x.1 < 11) : MJ L9 w9 yJx4a65c_add_9ea2d cJx4a65c_add_9ea2d 2 (some .boolean) ({ frames := 6, cells := 1, slots := 49, locals := 170 } : Room) [.ref (hG σ (0, a)), .ref b] σ (fun a9 σ' => a9 = some (.int (bI true)) ∧ ∃ q, σ' = sI (sR (sR (cpQ (sNew (sI σ 0 a 0 (hI σ 0 a 0 + nI 1)) (14, 64 * a + 49) q 49) (64 * a + 33) (64 * a + 49) 33) 1 a 0 (some (14, 64 * a + 49))) 896 (64 * a + 49) 33 (some x)) 2 a 0 (nI 34)) := by
  refine MJ.of (by decide +kernel) (Nat.le_of_ble_eq_true rfl) (fun X hX1 hX2 C Q hinit => ?_)
  subst hX1; subst hX2
  show J X 0 0 σ [(0, .ref (hG σ (0, a))), (1, .ref b)] [] 0
  have hz2 : hI (sI σ 0 a 0 (hI σ 0 a 0 + nI 1)) 2 a 0 = nI 33 := (show up3 (hI σ) 0 a 0 (hI σ 0 a 0 + nI 1) 2 a 0 = hI σ 2 a 0 from up3_ne (fun z => absurd z.1 (by decide))).trans hsz
  refine j_aload_n (pc := 0) C dJx4a65c_add_9ea2d_0 rfl 0 rfl ?_
  refine j_dup (pc := 1) C dJx4a65c_add_9ea2d_1 rfl ?_
  refine j_getI (pc := 2) C fp_Jx4a65c_63 (⟨h0, rfl⟩) rfl (f := 0) rfl dJx4a65c_add_9ea2d_2 ?_
  refine j_iconst (pc := 5) C (nI 1) dJx4a65c_add_9ea2d_5 (by decide) ?_
  refine j_iadd (pc := 6) C dJx4a65c_add_9ea2d_6 ?_
  refine j_putI (pc := 7) C fp_Jx4a65c_63 (⟨h0, rfl⟩) rfl rfl (Or.inl rfl) rfl (by decide) (f := 0) rfl dJx4a65c_add_9ea2d_7 ?_
  refine j_aload_n (pc := 10) C dJx4a65c_add_9ea2d_10 rfl 0 rfl ?_
  refine j_aload_n (pc := 11) C dJx4a65c_add_9ea2d_11 rfl 1 rfl ?_
  refine j_aload_n (pc := 12) C dJx4a65c_add_9ea2d_12 rfl 0 rfl ?_
  refine j_getA (pc := 13) C fp_Jx4a65c_9 (⟨h0, rfl⟩) rfl (f := 1) rfl (14, 64 * a + 33) (hG σ (14, 64 * a + 33)) hrow (⟨hs, rfl⟩ : At _ (14, 64 * a + 33) _) dJx4a65c_add_9ea2d_13 ?_
  refine j_aload_n (pc := 16) C dJx4a65c_add_9ea2d_16 rfl 0 rfl ?_
  refine j_getI (pc := 17) C fp_Jx4a65c_48 (⟨h0, rfl⟩) rfl (f := 2) rfl dJx4a65c_add_9ea2d_17 ?_
  refine j_topi (nI 33) hz2 ?_
  refine j_callV (pc := 20) C [.ref b, .ref (hG σ (14, 64 * a + 33)), .int (nI 33)] [] (rm0 := ({ frames := 6, cells := 1, slots := 49, locals := 170 } : Room)) (k' := 1) (n' := 49) Q.1 (c_add3_33 (xl X) (xw X) (σ := sI σ 0 a 0 (hI σ 0 a 0 + nI 1)) h0 hz2 hrow hs hn hj hE hx hxk) mp_Jx4a65c_add_72be8 wm_496 (⟨h0, rfl⟩) rfl rfl (Nat.le_of_ble_eq_true rfl) rfl rfl (Nat.le_of_ble_eq_true rfl) dJx4a65c_add_9ea2d_20 ⟨by decide, by decide⟩ ⟨Nat.le_of_ble_eq_true rfl, Nat.le_of_ble_eq_true rfl⟩ rfl rfl (fun v9 σ1 hp9 => ?_)
  obtain ⟨rfl, q, rfl⟩ := hp9
  show J X 1 49 (sI (sR (sR (cpQ (sNew (sI σ 0 a 0 (hI σ 0 a 0 + nI 1)) (14, 64 * a + 49) q 49) (64 * a + 33) (64 * a + 49) 33) 1 a 0 (some (14, 64 * a + 49))) 896 (64 * a + 49) 33 (some x)) 2 a 0 (nI 34)) [(0, .ref (hG σ (0, a))), (1, .ref b)] [] 23
  refine j_iconst (pc := 23) C (nI 1) dJx4a65c_add_9ea2d_23 (by decide) ?_
  refine j_topi (bI true) rfl ?_
  exact j_zreturn (pc := 24) C Q dJx4a65c_add_9ea2d_24 (bI_nar _) (Nat.le_of_ble_eq_true rfl) (Nat.le_of_ble_eq_true rfl) (⟨rfl, q, rfl⟩)
