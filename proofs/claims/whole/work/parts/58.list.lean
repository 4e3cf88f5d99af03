set_option maxHeartbeats 4000000 in
set_option maxRecDepth 100000 in
theorem c_copyOf2_15 (L9 : Launch) (w9 : Wd) {σ : HS} {i j n : Nat} (hs : hV σ (14, i) = true) (hn : hN σ 14 i = n) (hj : hV σ (14, j) = false) (hnM : n ≤ 15) (hE : ∀ u, u < n → ∀ t, hR σ 896 i u = some t → hV σ t = true ∧ t.1 < 11) : MJ L9 w9 yJ7_copyOf_1904c cJ7_copyOf_1904c 2 (some (.array (.object "java/lang/Object"))) ({ frames := 2, cells := 1, slots := 15, locals := 83 } : Room) [.ref (hG σ (14, i)), .int (nI 15)] σ (fun a9 σ' => ∃ q, a9 = some (.ref q) ∧ σ' = cpQ (sNew σ (14, j) q 15) i j n) := by
  refine MJ.of (by decide +kernel) (Nat.le_of_ble_eq_true rfl) (fun X hX1 hX2 C Q hinit => ?_)
  subst hX1; subst hX2
  show J X 0 0 σ [(0, .ref (hG σ (14, i))), (1, .int (nI 15))] [] 0
  refine j_aload_n (pc := 0) C dJ7_copyOf_1904c_0 rfl 0 rfl ?_
  refine j_iload_n (pc := 1) C dJ7_copyOf_1904c_1 rfl 1 rfl ?_
  refine j_aload_n (pc := 2) C dJ7_copyOf_1904c_2 rfl 0 rfl ?_
  refine j_getC (pc := 3) C (rm0 := ({ frames := 2, cells := 1, slots := 15, locals := 83 } : Room)) (i := i) Q.1 wm_521 ⟨hs, rfl⟩ dJ7_copyOf_1904c_3 ⟨Nat.le_of_ble_eq_true rfl, Nat.le_of_ble_eq_true rfl⟩ ?_
  show J X 0 0 σ [(0, .ref (hG σ (14, i))), (1, .int (nI 15))] [.ref ((xw X).2.1 15), .int (nI 15), .ref (hG σ (14, i))] 6
  refine j_callS (pc := 6) C [.ref (hG σ (14, i)), .int (nI 15), .ref ((xw X).2.1 15)] [] (rm0 := ({ frames := 2, cells := 1, slots := 15, locals := 83 } : Room)) (k' := 1) (n' := 15) Q.1 (c_copyOf3_15 (xl X) (xw X) hs hn hj hnM hE) mp_J7_copyOf_6403c wm_539 rfl rfl (Nat.le_of_ble_eq_true rfl) dJ7_copyOf_1904c_6 ⟨by decide, by decide⟩ ⟨Nat.le_of_ble_eq_true rfl, Nat.le_of_ble_eq_true rfl⟩ rfl rfl (fun v9 σ1 hp9 => ?_)
  obtain ⟨q, rfl, rfl⟩ := hp9
  show J X 1 15 (cpQ (sNew σ (14, j) q 15) i j n) [(0, .ref (hG σ (14, i))), (1, .int (nI 15))] [.ref q] 9
  exact j_areturn (pc := 9) C Q (Or.inr ⟨_, rfl⟩) (Or.inr ⟨_, rfl⟩) dJ7_copyOf_1904c_9 (Nat.le_of_ble_eq_true rfl) (Nat.le_of_ble_eq_true rfl) (⟨q, rfl, rfl⟩)
set_option maxHeartbeats 4000000 in
set_option maxRecDepth 100000 in
theorem c_copyOf2_22 (L9 : Launch) (w9 : Wd) {σ : HS} {i j n : Nat} (hs : hV σ (14, i) = true) (hn : hN σ 14 i = n) (hj : hV σ (14, j) = false) (hnM : n ≤ 22) (hE : ∀ u, u < n → ∀ t, hR σ 896 i u = some t → hV σ t = true ∧ t.1 < 11) : MJ L9 w9 yJ7_copyOf_1904c cJ7_copyOf_1904c 2 (some (.array (.object "java/lang/Object"))) ({ frames := 2, cells := 1, slots := 22, locals := 83 } : Room) [.ref (hG σ (14, i)), .int (nI 22)] σ (fun a9 σ' => ∃ q, a9 = some (.ref q) ∧ σ' = cpQ (sNew σ (14, j) q 22) i j n) := by
  refine MJ.of (by decide +kernel) (Nat.le_of_ble_eq_true rfl) (fun X hX1 hX2 C Q hinit => ?_)
  subst hX1; subst hX2
  show J X 0 0 σ [(0, .ref (hG σ (14, i))), (1, .int (nI 22))] [] 0
  refine j_aload_n (pc := 0) C dJ7_copyOf_1904c_0 rfl 0 rfl ?_
  refine j_iload_n (pc := 1) C dJ7_copyOf_1904c_1 rfl 1 rfl ?_
  refine j_aload_n (pc := 2) C dJ7_copyOf_1904c_2 rfl 0 rfl ?_
  refine j_getC (pc := 3) C (rm0 := ({ frames := 2, cells := 1, slots := 22, locals := 83 } : Room)) (i := i) Q.1 wm_521 ⟨hs, rfl⟩ dJ7_copyOf_1904c_3 ⟨Nat.le_of_ble_eq_true rfl, Nat.le_of_ble_eq_true rfl⟩ ?_
  show J X 0 0 σ [(0, .ref (hG σ (14, i))), (1, .int (nI 22))] [.ref ((xw X).2.1 15), .int (nI 22), .ref (hG σ (14, i))] 6
  refine j_callS (pc := 6) C [.ref (hG σ (14, i)), .int (nI 22), .ref ((xw X).2.1 15)] [] (rm0 := ({ frames := 2, cells := 1, slots := 22, locals := 83 } : Room)) (k' := 1) (n' := 22) Q.1 (c_copyOf3_22 (xl X) (xw X) hs hn hj hnM hE) mp_J7_copyOf_6403c wm_539 rfl rfl (Nat.le_of_ble_eq_true rfl) dJ7_copyOf_1904c_6 ⟨by decide, by decide⟩ ⟨Nat.le_of_ble_eq_true rfl, Nat.le_of_ble_eq_true rfl⟩ rfl rfl (fun v9 σ1 hp9 => ?_)
  obtain ⟨q, rfl, rfl⟩ := hp9
  show J X 1 22 (cpQ (sNew σ (14, j) q 22) i j n) [(0, .ref (hG σ (14, i))), (1, .int (nI 22))] [.ref q] 9
  exact j_areturn (pc := 9) C Q (Or.inr ⟨_, rfl⟩) (Or.inr ⟨_, rfl⟩) dJ7_copyOf_1904c_9 (Nat.le_of_ble_eq_true rfl) (Nat.le_of_ble_eq_true rfl) (⟨q, rfl, rfl⟩)
set_option maxHeartbeats 4000000 in
set_option maxRecDepth 100000 in
theorem c_copyOf2_33 (L9 : Launch) (w9 : Wd) {σ : HS} {i j n : Nat} (hs : hV σ (14, i) = true) (hn : hN σ 14 i = n) (hj : hV σ (14, j) = false) (hnM : n ≤ 33) (hE : ∀ u, u < n → ∀ t, hR σ 896 i u = some t → hV σ t = true ∧ t.1 < 11) : MJ L9 w9 yJ7_copyOf_1904c cJ7_copyOf_1904c 2 (some (.array (.object "java/lang/Object"))) ({ frames := 2, cells := 1, slots := 33, locals := 83 } : Room) [.ref (hG σ (14, i)), .int (nI 33)] σ (fun a9 σ' => ∃ q, a9 = some (.ref q) ∧ σ' = cpQ (sNew σ (14, j) q 33) i j n) := by
  refine MJ.of (by decide +kernel) (Nat.le_of_ble_eq_true rfl) (fun X hX1 hX2 C Q hinit => ?_)
  subst hX1; subst hX2
  show J X 0 0 σ [(0, .ref (hG σ (14, i))), (1, .int (nI 33))] [] 0
  refine j_aload_n (pc := 0) C dJ7_copyOf_1904c_0 rfl 0 rfl ?_
  refine j_iload_n (pc := 1) C dJ7_copyOf_1904c_1 rfl 1 rfl ?_
  refine j_aload_n (pc := 2) C dJ7_copyOf_1904c_2 rfl 0 rfl ?_
  refine j_getC (pc := 3) C (rm0 := ({ frames := 2, cells := 1, slots := 33, locals := 83 } : Room)) (i := i) Q.1 wm_521 ⟨hs, rfl⟩ dJ7_copyOf_1904c_3 ⟨Nat.le_of_ble_eq_true rfl, Nat.le_of_ble_eq_true rfl⟩ ?_
  show J X 0 0 σ [(0, .ref (hG σ (14, i))), (1, .int (nI 33))] [.ref ((xw X).2.1 15), .int (nI 33), .ref (hG σ (14, i))] 6
  refine j_callS (pc := 6) C [.ref (hG σ (14, i)), .int (nI 33), .ref ((xw X).2.1 15)] [] (rm0 := ({ frames := 2, cells := 1, slots := 33, locals := 83 } : Room)) (k' := 1) (n' := 33) Q.1 (c_copyOf3_33 (xl X) (xw X) hs hn hj hnM hE) mp_J7_copyOf_6403c wm_539 rfl rfl (Nat.le_of_ble_eq_true rfl) dJ7_copyOf_1904c_6 ⟨by decide, by decide⟩ ⟨Nat.le_of_ble_eq_true rfl, Nat.le_of_ble_eq_true rfl⟩ rfl rfl (fun v9 σ1 hp9 => ?_)
  obtain ⟨q, rfl, rfl⟩ := hp9
  show J X 1 33 (cpQ (sNew σ (14, j) q 33) i j n) [(0, .ref (hG σ (14, i))), (1, .int (nI 33))] [.ref q] 9
  exact j_areturn (pc := 9) C Q (Or.inr ⟨_, rfl⟩) (Or.inr ⟨_, rfl⟩) dJ7_copyOf_1904c_9 (Nat.le_of_ble_eq_true rfl) (Nat.le_of_ble_eq_true rfl) (⟨q, rfl, rfl⟩)
set_option maxHeartbeats 4000000 in
set_option maxRecDepth 100000 in
theorem c_copyOf2_49 (L9 : Launch) (w9 : Wd) {σ : HS} {i j n : Nat} (hs : hV σ (14, i) = true) (hn : hN σ 14 i = n) (hj : hV σ (14, j) = false) (hnM : n ≤ 49) (hE : ∀ u, u < n → ∀ t, hR σ 896 i u = some t → hV σ t = true ∧ t.1 < 11) : MJ L9 w9 yJ7_copyOf_1904c cJ7_copyOf_1904c 2 (some (.array (.object "java/lang/Object"))) ({ frames := 2, cells := 1, slots := 49, locals := 83 } : Room) [.ref (hG σ (14, i)), .int (nI 49)] σ (fun a9 σ' => ∃ q, a9 = some (.ref q) ∧ σ' = cpQ (sNew σ (14, j) q 49) i j n) := by
  refine MJ.of (by decide +kernel) (Nat.le_of_ble_eq_true rfl) (fun X hX1 hX2 C Q hinit => ?_)
  subst hX1; subst hX2
  show J X 0 0 σ [(0, .ref (hG σ (14, i))), (1, .int (nI 49))] [] 0
  refine j_aload_n (pc := 0) C dJ7_copyOf_1904c_0 rfl 0 rfl ?_
  refine j_iload_n (pc := 1) C dJ7_copyOf_1904c_1 rfl 1 rfl ?_
  refine j_aload_n (pc := 2) C dJ7_copyOf_1904c_2 rfl 0 rfl ?_
  refine j_getC (pc := 3) C (rm0 := ({ frames := 2, cells := 1, slots := 49, locals := 83 } : Room)) (i := i) Q.1 wm_521 ⟨hs, rfl⟩ dJ7_copyOf_1904c_3 ⟨Nat.le_of_ble_eq_true rfl, Nat.le_of_ble_eq_true rfl⟩ ?_
  show J X 0 0 σ [(0, .ref (hG σ (14, i))), (1, .int (nI 49))] [.ref ((xw X).2.1 15), .int (nI 49), .ref (hG σ (14, i))] 6
  refine j_callS (pc := 6) C [.ref (hG σ (14, i)), .int (nI 49), .ref ((xw X).2.1 15)] [] (rm0 := ({ frames := 2, cells := 1, slots := 49, locals := 83 } : Room)) (k' := 1) (n' := 49) Q.1 (c_copyOf3_49 (xl X) (xw X) hs hn hj hnM hE) mp_J7_copyOf_6403c wm_539 rfl rfl (Nat.le_of_ble_eq_true rfl) dJ7_copyOf_1904c_6 ⟨by decide, by decide⟩ ⟨Nat.le_of_ble_eq_true rfl, Nat.le_of_ble_eq_true rfl⟩ rfl rfl (fun v9 σ1 hp9 => ?_)
  obtain ⟨q, rfl, rfl⟩ := hp9
  show J X 1 49 (cpQ (sNew σ (14, j) q 49) i j n) [(0, .ref (hG σ (14, i))), (1, .int (nI 49))] [.ref q] 9
  exact j_areturn (pc := 9) C Q (Or.inr ⟨_, rfl⟩) (Or.inr ⟨_, rfl⟩) dJ7_copyOf_1904c_9 (Nat.le_of_ble_eq_true rfl) (Nat.le_of_ble_eq_true rfl) (⟨q, rfl, rfl⟩)
set_option maxHeartbeats 4000000 in
set_option maxRecDepth 100000 in
theorem c_grow_0 (L9 : Launch) (w9 : Wd) {σ : HS} {a : Nat} (h0 : hV σ (0, a) = true) (hrow : hR σ 1 a 0 = some (15, 0)) (hj : hV σ (14, 64 * a + 10) = false) : MJ L9 w9 yJx4a65c_grow_92f84 cJx4a65c_grow_92f84 4 (some (.array (.object "java/lang/Object"))) ({ frames := 1, cells := 1, slots := 10, locals := 14 } : Room) [.ref (hG σ (0, a)), .int (nI 1)] σ (fun a9 σ' => ∃ q, a9 = some (.ref q) ∧ σ' = sR (sNew σ (14, 64 * a + 10) q 10) 1 a 0 (some (14, 64 * a + 10))) := by
  refine MJ.of (by decide +kernel) (Nat.le_of_ble_eq_true rfl) (fun X hX1 hX2 C Q hinit => ?_)
  subst hX1; subst hX2
  show J X 0 0 σ [(0, .ref (hG σ (0, a))), (1, .int (nI 1))] [] 0
  refine j_aload_n (pc := 0) C dJx4a65c_grow_92f84_0 rfl 0 rfl ?_
  refine j_getR (pc := 1) C fp_Jx4a65c_9 (⟨h0, rfl⟩ : At _ (0, a) _) rfl (f := 1) rfl (15, 0) hrow dJx4a65c_grow_92f84_1 ?_
  show J X 0 0 σ [(0, .ref (hG σ (0, a))), (1, .int (nI 1))] [.ref (hG σ (15, 0))] 4
  refine j_alen0 (pc := 4) C dJx4a65c_grow_92f84_4 ?_
  show J X 0 0 σ [(0, .ref (hG σ (0, a))), (1, .int (nI 1))] [.int (nI 0)] 5
  refine j_istore_n (pc := 5) C [(2, .int (nI 0)), (0, .ref (hG σ (0, a))), (1, .int (nI 1))] dJx4a65c_grow_92f84_5 rfl (by decide) rfl ?_
  refine j_iload_n (pc := 6) C dJx4a65c_grow_92f84_6 rfl 0 rfl ?_
  refine j_if_gt (pc := 7) C 20 dJx4a65c_grow_92f84_7 (by decide) (fun q => absurd q (by decide)) (fun _ => ?_)
  refine j_aload_n (pc := 10) C dJx4a65c_grow_92f84_10 rfl 1 rfl ?_
  refine j_getR (pc := 11) C fp_Jx4a65c_9 (⟨h0, rfl⟩ : At _ (0, a) _) rfl (f := 1) rfl (15, 0) hrow dJx4a65c_grow_92f84_11 ?_
  show J X 0 0 σ [(2, .int (nI 0)), (0, .ref (hG σ (0, a))), (1, .int (nI 1))] [.ref (hG σ (15, 0))] 14
  refine j_gets (pc := 14) C wm_107 dJx4a65c_grow_92f84_14 ?_
  show J X 0 0 σ [(2, .int (nI 0)), (0, .ref (hG σ (0, a))), (1, .int (nI 1))] [.ref (hG σ (15, 0)), .ref (hG σ (15, 0))] 17
  refine j_acmp_eq (pc := 17) C 45 dJx4a65c_grow_92f84_17 (by decide) (fun _ => ?_) (fun z => absurd rfl z)
  show J X 0 0 σ [(2, .int (nI 0)), (0, .ref (hG σ (0, a))), (1, .int (nI 1))] [] 45
  refine j_aload_n (pc := 45) C dJx4a65c_grow_92f84_45 rfl 1 rfl ?_
  refine j_bipush (pc := 46) C (nI 10) dJx4a65c_grow_92f84_46 (by decide) ?_
  refine j_iload_n (pc := 48) C dJx4a65c_grow_92f84_48 rfl 2 rfl ?_
  refine j_mmax (pc := 49) C (a := 10) (b := 1) (rm0 := ({ frames := 1, cells := 1, slots := 10, locals := 14 } : Room)) Q.1 wm_551 (by omega) (by omega) dJx4a65c_grow_92f84_49 ⟨Nat.le_of_ble_eq_true rfl, Nat.le_of_ble_eq_true rfl, Nat.le_of_ble_eq_true rfl, Nat.le_of_ble_eq_true rfl⟩ ?_
  show J X 0 0 σ [(2, .int (nI 0)), (0, .ref (hG σ (0, a))), (1, .int (nI 1))] [.int (nI (max 10 1)), .ref (hG σ (0, a))] 52
  refine j_topi (nI 10) rfl ?_
  refine j_anew (pc := 52) C (i := 64 * a + 10) (k' := 1) (n' := 10) (rm0 := ({ frames := 1, cells := 1, slots := 10, locals := 14 } : Room)) Q.1 wm_552 hj (M := 10) rfl (by decide) dJx4a65c_grow_92f84_52 ⟨Nat.le_of_ble_eq_true rfl, Nat.le_of_ble_eq_true rfl⟩ rfl rfl (fun q => ?_)
  have hA : At (sNew σ (14, 64 * a + 10) q 10) (14, 64 * a + 10) q := At.new
  have hO : At (sNew σ (14, 64 * a + 10) q 10) (0, a) (hG σ (0, a)) := At.ext (σ := σ) ⟨h0, rfl⟩ (Ext.new (q := q) (n := 10) hj)
  show J X 1 10 (sNew σ (14, 64 * a + 10) q 10) [(2, .int (nI 0)), (0, .ref (hG σ (0, a))), (1, .int (nI 1))] [.ref q, .ref (hG σ (0, a))] 55
  refine j_dup_x1 (pc := 55) C dJx4a65c_grow_92f84_55 rfl rfl ?_
  refine j_putR (pc := 56) C (14, 64 * a + 10) hA.2 (Or.inl hA.1) fp_Jx4a65c_9 hO rfl rfl (Or.inl rfl) rfl (by decide) (f := 1) rfl dJx4a65c_grow_92f84_56 ?_
  exact j_areturn (pc := 59) C Q (Or.inr ⟨_, rfl⟩) (Or.inr ⟨_, rfl⟩) dJx4a65c_grow_92f84_59 (Nat.le_of_ble_eq_true rfl) (Nat.le_of_ble_eq_true rfl) (⟨q, rfl, rfl⟩)
set_option maxHeartbeats 4000000 in
set_option maxRecDepth 100000 in
theorem c_grow_10 (L9 : Launch) (w9 : Wd) {σ : HS} {a : Nat} (h0 : hV σ (0, a) = true) (hrow : hR σ 1 a 0 = some (14, 64 * a + 10)) (hs : hV σ (14, 64 * a + 10) = true) (hn : hN σ 14 (64 * a + 10) = 10) (hj : hV σ (14, 64 * a + 15) = false) (hE : ∀ u, u < 10 → ∀ t, hR σ 896 (64 * a + 10) u = some t → hV σ t = true ∧ t.1 < 11) : MJ L9 w9 yJx4a65c_grow_92f84 cJx4a65c_grow_92f84 4 (some (.array (.object "java/lang/Object"))) ({ frames := 3, cells := 1, slots := 15, locals := 104 } : Room) [.ref (hG σ (0, a)), .int (nI 11)] σ (fun a9 σ' => ∃ q, a9 = some (.ref q) ∧ σ' = sR (cpQ (sNew σ (14, 64 * a + 15) q 15) (64 * a + 10) (64 * a + 15) 10) 1 a 0 (some (14, 64 * a + 15))) := by
  refine MJ.of (by decide +kernel) (Nat.le_of_ble_eq_true rfl) (fun X hX1 hX2 C Q hinit => ?_)
  subst hX1; subst hX2
  show J X 0 0 σ [(0, .ref (hG σ (0, a))), (1, .int (nI 11))] [] 0
  refine j_aload_n (pc := 0) C dJx4a65c_grow_92f84_0 rfl 0 rfl ?_
  refine j_getA (pc := 1) C fp_Jx4a65c_9 (⟨h0, rfl⟩) rfl (f := 1) rfl (14, 64 * a + 10) (hG σ (14, 64 * a + 10)) hrow (⟨hs, rfl⟩ : At _ (14, 64 * a + 10) _) dJx4a65c_grow_92f84_1 ?_
  refine j_alen (pc := 4) C (⟨hs, rfl⟩ : At _ (14, 64 * a + 10) _) (.object "java/lang/Object") 3 rfl (Nat.le_of_ble_eq_true rfl) hn dJx4a65c_grow_92f84_4 ?_
  show J X 0 0 σ [(0, .ref (hG σ (0, a))), (1, .int (nI 11))] [.int (nI 10)] 5
  refine j_istore_n (pc := 5) C [(2, .int (nI 10)), (0, .ref (hG σ (0, a))), (1, .int (nI 11))] dJx4a65c_grow_92f84_5 rfl (by decide) rfl ?_
  refine j_iload_n (pc := 6) C dJx4a65c_grow_92f84_6 rfl 0 rfl ?_
  refine j_if_gt (pc := 7) C 20 dJx4a65c_grow_92f84_7 (by decide) (fun _ => ?_) (fun q => absurd q (by decide))
  refine j_iload_n (pc := 20) C dJx4a65c_grow_92f84_20 rfl 0 rfl ?_
  refine j_iload_n (pc := 21) C dJx4a65c_grow_92f84_21 rfl 2 rfl ?_
  refine j_iload_n (pc := 22) C dJx4a65c_grow_92f84_22 rfl 0 rfl ?_
  refine j_isub (pc := 23) C dJx4a65c_grow_92f84_23 ?_
  refine j_topi (nI 1) (pk_sub (a := 11) (b := 10) (by omega)) ?_
  refine j_iload_n (pc := 24) C dJx4a65c_grow_92f84_24 rfl 0 rfl ?_
  refine j_iconst (pc := 25) C (nI 1) dJx4a65c_grow_92f84_25 (by decide) ?_
  refine j_ishr (pc := 26) C dJx4a65c_grow_92f84_26 ?_
  refine j_topi (nI 5) (by decide) ?_
  refine j_callS (pc := 27) C [.int (nI 10), .int (nI 1), .int (nI 5)] [] (rm0 := ({ frames := 3, cells := 1, slots := 15, locals := 104 } : Room)) (k' := 0) (n' := 0) Q.1 (c_J8_newLength_cabcc (xl X) (xw X) (o := 10) (m := 1) (p := 5) (by omega) (by omega) (by omega) (by omega)) mp_J8_newLength_cabcc wm_508 rfl rfl (Nat.le_of_ble_eq_true rfl) dJx4a65c_grow_92f84_27 ⟨by decide, by decide⟩ ⟨Nat.le_of_ble_eq_true rfl, Nat.le_of_ble_eq_true rfl⟩ rfl rfl (det1 ?_)
  refine j_topi (nI 15) rfl ?_
  refine j_istore_n (pc := 30) C [(3, .int (nI 15)), (2, .int (nI 10)), (0, .ref (hG σ (0, a))), (1, .int (nI 11))] dJx4a65c_grow_92f84_30 rfl (by decide) rfl ?_
  refine j_aload_n (pc := 31) C dJx4a65c_grow_92f84_31 rfl 2 rfl ?_
  refine j_aload_n (pc := 32) C dJx4a65c_grow_92f84_32 rfl 2 rfl ?_
  refine j_getA (pc := 33) C fp_Jx4a65c_9 (⟨h0, rfl⟩) rfl (f := 1) rfl (14, 64 * a + 10) (hG σ (14, 64 * a + 10)) hrow (⟨hs, rfl⟩ : At _ (14, 64 * a + 10) _) dJx4a65c_grow_92f84_33 ?_
  refine j_iload_n (pc := 36) C dJx4a65c_grow_92f84_36 rfl 0 rfl ?_
  refine j_callS (pc := 37) C [.ref (hG σ (14, 64 * a + 10)), .int (nI 15)] [.ref (hG σ (0, a))] (rm0 := ({ frames := 3, cells := 1, slots := 15, locals := 104 } : Room)) (k' := 1) (n' := 15) Q.1 (c_copyOf2_15 (xl X) (xw X) (i := 64 * a + 10) (j := 64 * a + 15) (n := 10) hs hn hj (by omega) hE) mp_J7_copyOf_1904c wm_518 rfl rfl (Nat.le_of_ble_eq_true rfl) dJx4a65c_grow_92f84_37 ⟨by decide, by decide⟩ ⟨Nat.le_of_ble_eq_true rfl, Nat.le_of_ble_eq_true rfl⟩ rfl rfl (fun v9 σ1 hp9 => ?_)
  obtain ⟨q, rfl, rfl⟩ := hp9
  have hA : At (cpQ (sNew σ (14, 64 * a + 15) q 15) (64 * a + 10) (64 * a + 15) 10) (14, 64 * a + 15) q := (At.new (σ := σ) (t := (14, 64 * a + 15)) (q := q) (n := 15))
  have hO : At (cpQ (sNew σ (14, 64 * a + 15) q 15) (64 * a + 10) (64 * a + 15) 10) (0, a) (hG σ (0, a)) := At.ext (σ := σ) ⟨h0, rfl⟩ (Ext.new (q := q) (n := 15) hj)
  show J X 1 15 (cpQ (sNew σ (14, 64 * a + 15) q 15) (64 * a + 10) (64 * a + 15) 10) [(3, .int (nI 15)), (2, .int (nI 10)), (0, .ref (hG σ (0, a))), (1, .int (nI 11))] [.ref q, .ref (hG σ (0, a))] 40
  refine j_dup_x1 (pc := 40) C dJx4a65c_grow_92f84_40 rfl rfl ?_
  refine j_putR (pc := 41) C (14, 64 * a + 15) hA.2 (Or.inl hA.1) fp_Jx4a65c_9 hO rfl rfl (Or.inl rfl) rfl (by decide) (f := 1) rfl dJx4a65c_grow_92f84_41 ?_
  exact j_areturn (pc := 44) C Q (Or.inr ⟨_, rfl⟩) (Or.inr ⟨_, rfl⟩) dJx4a65c_grow_92f84_44 (Nat.le_of_ble_eq_true rfl) (Nat.le_of_ble_eq_true rfl) (⟨q, rfl, rfl⟩)
set_option maxHeartbeats 4000000 in
set_option maxRecDepth 100000 in
theorem c_grow_15 (L9 : Launch) (w9 : Wd) {σ : HS} {a : Nat} (h0 : hV σ (0, a) = true) (hrow : hR σ 1 a 0 = some (14, 64 * a + 15)) (hs : hV σ (14, 64 * a + 15) = true) (hn : hN σ 14 (64 * a + 15) = 15) (hj : hV σ (14, 64 * a + 22) = false) (hE : ∀ u, u < 15 → ∀ t, hR σ 896 (64 * a + 15) u = some t → hV σ t = true ∧ t.1 < 11) : MJ L9 w9 yJx4a65c_grow_92f84 cJx4a65c_grow_92f84 4 (some (.array (.object "java/lang/Object"))) ({ frames := 3, cells := 1, slots := 22, locals := 104 } : Room) [.ref (hG σ (0, a)), .int (nI 16)] σ (fun a9 σ' => ∃ q, a9 = some (.ref q) ∧ σ' = sR (cpQ (sNew σ (14, 64 * a + 22) q 22) (64 * a + 15) (64 * a + 22) 15) 1 a 0 (some (14, 64 * a + 22))) := by
  refine MJ.of (by decide +kernel) (Nat.le_of_ble_eq_true rfl) (fun X hX1 hX2 C Q hinit => ?_)
  subst hX1; subst hX2
  show J X 0 0 σ [(0, .ref (hG σ (0, a))), (1, .int (nI 16))] [] 0
  refine j_aload_n (pc := 0) C dJx4a65c_grow_92f84_0 rfl 0 rfl ?_
  refine j_getA (pc := 1) C fp_Jx4a65c_9 (⟨h0, rfl⟩) rfl (f := 1) rfl (14, 64 * a + 15) (hG σ (14, 64 * a + 15)) hrow (⟨hs, rfl⟩ : At _ (14, 64 * a + 15) _) dJx4a65c_grow_92f84_1 ?_
  refine j_alen (pc := 4) C (⟨hs, rfl⟩ : At _ (14, 64 * a + 15) _) (.object "java/lang/Object") 3 rfl (Nat.le_of_ble_eq_true rfl) hn dJx4a65c_grow_92f84_4 ?_
  show J X 0 0 σ [(0, .ref (hG σ (0, a))), (1, .int (nI 16))] [.int (nI 15)] 5
  refine j_istore_n (pc := 5) C [(2, .int (nI 15)), (0, .ref (hG σ (0, a))), (1, .int (nI 16))] dJx4a65c_grow_92f84_5 rfl (by decide) rfl ?_
  refine j_iload_n (pc := 6) C dJx4a65c_grow_92f84_6 rfl 0 rfl ?_
  refine j_if_gt (pc := 7) C 20 dJx4a65c_grow_92f84_7 (by decide) (fun _ => ?_) (fun q => absurd q (by decide))
  refine j_iload_n (pc := 20) C dJx4a65c_grow_92f84_20 rfl 0 rfl ?_
  refine j_iload_n (pc := 21) C dJx4a65c_grow_92f84_21 rfl 2 rfl ?_
  refine j_iload_n (pc := 22) C dJx4a65c_grow_92f84_22 rfl 0 rfl ?_
  refine j_isub (pc := 23) C dJx4a65c_grow_92f84_23 ?_
  refine j_topi (nI 1) (pk_sub (a := 16) (b := 15) (by omega)) ?_
  refine j_iload_n (pc := 24) C dJx4a65c_grow_92f84_24 rfl 0 rfl ?_
  refine j_iconst (pc := 25) C (nI 1) dJx4a65c_grow_92f84_25 (by decide) ?_
  refine j_ishr (pc := 26) C dJx4a65c_grow_92f84_26 ?_
  refine j_topi (nI 7) (by decide) ?_
  refine j_callS (pc := 27) C [.int (nI 15), .int (nI 1), .int (nI 7)] [] (rm0 := ({ frames := 3, cells := 1, slots := 22, locals := 104 } : Room)) (k' := 0) (n' := 0) Q.1 (c_J8_newLength_cabcc (xl X) (xw X) (o := 15) (m := 1) (p := 7) (by omega) (by omega) (by omega) (by omega)) mp_J8_newLength_cabcc wm_508 rfl rfl (Nat.le_of_ble_eq_true rfl) dJx4a65c_grow_92f84_27 ⟨by decide, by decide⟩ ⟨Nat.le_of_ble_eq_true rfl, Nat.le_of_ble_eq_true rfl⟩ rfl rfl (det1 ?_)
  refine j_topi (nI 22) rfl ?_
  refine j_istore_n (pc := 30) C [(3, .int (nI 22)), (2, .int (nI 15)), (0, .ref (hG σ (0, a))), (1, .int (nI 16))] dJx4a65c_grow_92f84_30 rfl (by decide) rfl ?_
  refine j_aload_n (pc := 31) C dJx4a65c_grow_92f84_31 rfl 2 rfl ?_
  refine j_aload_n (pc := 32) C dJx4a65c_grow_92f84_32 rfl 2 rfl ?_
  refine j_getA (pc := 33) C fp_Jx4a65c_9 (⟨h0, rfl⟩) rfl (f := 1) rfl (14, 64 * a + 15) (hG σ (14, 64 * a + 15)) hrow (⟨hs, rfl⟩ : At _ (14, 64 * a + 15) _) dJx4a65c_grow_92f84_33 ?_
  refine j_iload_n (pc := 36) C dJx4a65c_grow_92f84_36 rfl 0 rfl ?_
  refine j_callS (pc := 37) C [.ref (hG σ (14, 64 * a + 15)), .int (nI 22)] [.ref (hG σ (0, a))] (rm0 := ({ frames := 3, cells := 1, slots := 22, locals := 104 } : Room)) (k' := 1) (n' := 22) Q.1 (c_copyOf2_22 (xl X) (xw X) (i := 64 * a + 15) (j := 64 * a + 22) (n := 15) hs hn hj (by omega) hE) mp_J7_copyOf_1904c wm_518 rfl rfl (Nat.le_of_ble_eq_true rfl) dJx4a65c_grow_92f84_37 ⟨by decide, by decide⟩ ⟨Nat.le_of_ble_eq_true rfl, Nat.le_of_ble_eq_true rfl⟩ rfl rfl (fun v9 σ1 hp9 => ?_)
  obtain ⟨q, rfl, rfl⟩ := hp9
  have hA : At (cpQ (sNew σ (14, 64 * a + 22) q 22) (64 * a + 15) (64 * a + 22) 15) (14, 64 * a + 22) q := (At.new (σ := σ) (t := (14, 64 * a + 22)) (q := q) (n := 22))
  have hO : At (cpQ (sNew σ (14, 64 * a + 22) q 22) (64 * a + 15) (64 * a + 22) 15) (0, a) (hG σ (0, a)) := At.ext (σ := σ) ⟨h0, rfl⟩ (Ext.new (q := q) (n := 22) hj)
  show J X 1 22 (cpQ (sNew σ (14, 64 * a + 22) q 22) (64 * a + 15) (64 * a + 22) 15) [(3, .int (nI 22)), (2, .int (nI 15)), (0, .ref (hG σ (0, a))), (1, .int (nI 16))] [.ref q, .ref (hG σ (0, a))] 40
  refine j_dup_x1 (pc := 40) C dJx4a65c_grow_92f84_40 rfl rfl ?_
  refine j_putR (pc := 41) C (14, 64 * a + 22) hA.2 (Or.inl hA.1) fp_Jx4a65c_9 hO rfl rfl (Or.inl rfl) rfl (by decide) (f := 1) rfl dJx4a65c_grow_92f84_41 ?_
  exact j_areturn (pc := 44) C Q (Or.inr ⟨_, rfl⟩) (Or.inr ⟨_, rfl⟩) dJx4a65c_grow_92f84_44 (Nat.le_of_ble_eq_true rfl) (Nat.le_of_ble_eq_true rfl) (⟨q, rfl, rfl⟩)
set_option maxHeartbeats 4000000 in
set_option maxRecDepth 100000 in
theorem c_grow_22 (L9 : Launch) (w9 : Wd) {σ : HS} {a : Nat} (h0 : hV σ (0, a) = true) (hrow : hR σ 1 a 0 = some (14, 64 * a + 22)) (hs : hV σ (14, 64 * a + 22) = true) (hn : hN σ 14 (64 * a + 22) = 22) (hj : hV σ (14, 64 * a + 33) = false) (hE : ∀ u, u < 22 → ∀ t, hR σ 896 (64 * a + 22) u = some t → hV σ t = true ∧ t.1 < 11) : MJ L9 w9 yJx4a65c_grow_92f84 cJx4a65c_grow_92f84 4 (some (.array (.object "java/lang/Object"))) ({ frames := 3, cells := 1, slots := 33, locals := 104 } : Room) [.ref (hG σ (0, a)), .int (nI 23)] σ (fun a9 σ' => ∃ q, a9 = some (.ref q) ∧ σ' = sR (cpQ (sNew σ (14, 64 * a + 33) q 33) (64 * a + 22) (64 * a + 33) 22) 1 a 0 (some (14, 64 * a + 33))) := by
  refine MJ.of (by decide +kernel) (Nat.le_of_ble_eq_true rfl) (fun X hX1 hX2 C Q hinit => ?_)
  subst hX1; subst hX2
  show J X 0 0 σ [(0, .ref (hG σ (0, a))), (1, .int (nI 23))] [] 0
  refine j_aload_n (pc := 0) C dJx4a65c_grow_92f84_0 rfl 0 rfl ?_
  refine j_getA (pc := 1) C fp_Jx4a65c_9 (⟨h0, rfl⟩) rfl (f := 1) rfl (14, 64 * a + 22) (hG σ (14, 64 * a + 22)) hrow (⟨hs, rfl⟩ : At _ (14, 64 * a + 22) _) dJx4a65c_grow_92f84_1 ?_
  refine j_alen (pc := 4) C (⟨hs, rfl⟩ : At _ (14, 64 * a + 22) _) (.object "java/lang/Object") 3 rfl (Nat.le_of_ble_eq_true rfl) hn dJx4a65c_grow_92f84_4 ?_
  show J X 0 0 σ [(0, .ref (hG σ (0, a))), (1, .int (nI 23))] [.int (nI 22)] 5
  refine j_istore_n (pc := 5) C [(2, .int (nI 22)), (0, .ref (hG σ (0, a))), (1, .int (nI 23))] dJx4a65c_grow_92f84_5 rfl (by decide) rfl ?_
  refine j_iload_n (pc := 6) C dJx4a65c_grow_92f84_6 rfl 0 rfl ?_
  refine j_if_gt (pc := 7) C 20 dJx4a65c_grow_92f84_7 (by decide) (fun _ => ?_) (fun q => absurd q (by decide))
  refine j_iload_n (pc := 20) C dJx4a65c_grow_92f84_20 rfl 0 rfl ?_
  refine j_iload_n (pc := 21) C dJx4a65c_grow_92f84_21 rfl 2 rfl ?_
  refine j_iload_n (pc := 22) C dJx4a65c_grow_92f84_22 rfl 0 rfl ?_
  refine j_isub (pc := 23) C dJx4a65c_grow_92f84_23 ?_
  refine j_topi (nI 1) (pk_sub (a := 23) (b := 22) (by omega)) ?_
  refine j_iload_n (pc := 24) C dJx4a65c_grow_92f84_24 rfl 0 rfl ?_
  refine j_iconst (pc := 25) C (nI 1) dJx4a65c_grow_92f84_25 (by decide) ?_
  refine j_ishr (pc := 26) C dJx4a65c_grow_92f84_26 ?_
  refine j_topi (nI 11) (by decide) ?_
  refine j_callS (pc := 27) C [.int (nI 22), .int (nI 1), .int (nI 11)] [] (rm0 := ({ frames := 3, cells := 1, slots := 33, locals := 104 } : Room)) (k' := 0) (n' := 0) Q.1 (c_J8_newLength_cabcc (xl X) (xw X) (o := 22) (m := 1) (p := 11) (by omega) (by omega) (by omega) (by omega)) mp_J8_newLength_cabcc wm_508 rfl rfl (Nat.le_of_ble_eq_true rfl) dJx4a65c_grow_92f84_27 ⟨by decide, by decide⟩ ⟨Nat.le_of_ble_eq_true rfl, Nat.le_of_ble_eq_true rfl⟩ rfl rfl (det1 ?_)
  refine j_topi (nI 33) rfl ?_
  refine j_istore_n (pc := 30) C [(3, .int (nI 33)), (2, .int (nI 22)), (0, .ref (hG σ (0, a))), (1, .int (nI 23))] dJx4a65c_grow_92f84_30 rfl (by decide) rfl ?_
  refine j_aload_n (pc := 31) C dJx4a65c_grow_92f84_31 rfl 2 rfl ?_
  refine j_aload_n (pc := 32) C dJx4a65c_grow_92f84_32 rfl 2 rfl ?_
  refine j_getA (pc := 33) C fp_Jx4a65c_9 (⟨h0, rfl⟩) rfl (f := 1) rfl (14, 64 * a + 22) (hG σ (14, 64 * a + 22)) hrow (⟨hs, rfl⟩ : At _ (14, 64 * a + 22) _) dJx4a65c_grow_92f84_33 ?_
  refine j_iload_n (pc := 36) C dJx4a65c_grow_92f84_36 rfl 0 rfl ?_
  refine j_callS (pc := 37) C [.ref (hG σ (14, 64 * a + 22)), .int (nI 33)] [.ref (hG σ (0, a))] (rm0 := ({ frames := 3, cells := 1, slots := 33, locals := 104 } : Room)) (k' := 1) (n' := 33) Q.1 (c_copyOf2_33 (xl X) (xw X) (i := 64 * a + 22) (j := 64 * a + 33) (n := 22) hs hn hj (by omega) hE) mp_J7_copyOf_1904c wm_518 rfl rfl (Nat.le_of_ble_eq_true rfl) dJx4a65c_grow_92f84_37 ⟨by decide, by decide⟩ ⟨Nat.le_of_ble_eq_true rfl, Nat.le_of_ble_eq_true rfl⟩ rfl rfl (fun v9 σ1 hp9 => ?_)
  obtain ⟨q, rfl, rfl⟩ := hp9
  have hA : At (cpQ (sNew σ (14, 64 * a + 33) q 33) (64 * a + 22) (64 * a + 33) 22) (14, 64 * a + 33) q := (At.new (σ := σ) (t := (14, 64 * a + 33)) (q := q) (n := 33))
  have hO : At (cpQ (sNew σ (14, 64 * a + 33) q 33) (64 * a + 22) (64 * a + 33) 22) (0, a) (hG σ (0, a)) := At.ext (σ := σ) ⟨h0, rfl⟩ (Ext.new (q := q) (n := 33) hj)
  show J X 1 33 (cpQ (sNew σ (14, 64 * a + 33) q 33) (64 * a + 22) (64 * a + 33) 22) [(3, .int (nI 33)), (2, .int (nI 22)), (0, .ref (hG σ (0, a))), (1, .int (nI 23))] [.ref q, .ref (hG σ (0, a))] 40
  refine j_dup_x1 (pc := 40) C dJx4a65c_grow_92f84_40 rfl rfl ?_
  refine j_putR (pc := 41) C (14, 64 * a + 33) hA.2 (Or.inl hA.1) fp_Jx4a65c_9 hO rfl rfl (Or.inl rfl) rfl (by decide) (f := 1) rfl dJx4a65c_grow_92f84_41 ?_
  exact j_areturn (pc := 44) C Q (Or.inr ⟨_, rfl⟩) (Or.inr ⟨_, rfl⟩) dJx4a65c_grow_92f84_44 (Nat.le_of_ble_eq_true rfl) (Nat.le_of_ble_eq_true rfl) (⟨q, rfl, rfl⟩)
set_option maxHeartbeats 4000000 in
set_option maxRecDepth 100000 in
theorem c_grow_33 (L9 : Launch) (w9 : Wd) {σ : HS} {a : Nat} (h0 : hV σ (0, a) = true) (hrow : hR σ 1 a 0 = some (14, 64 * a + 33)) (hs : hV σ (14, 64 * a + 33) = true) (hn : hN σ 14 (64 * a + 33) = 33) (hj : hV σ (14, 64 * a + 49) = false) (hE : ∀ u, u < 33 → ∀ t, hR σ 896 (64 * a + 33) u = some t → hV σ t = true ∧ t.1 < 11) : MJ L9 w9 yJx4a65c_grow_92f84 cJx4a65c_grow_92f84 4 (some (.array (.object "java/lang/Object"))) ({ frames := 3, cells := 1, slots := 49, locals := 104 } : Room) [.ref (hG σ (0, a)), .int (nI 34)] σ (fun a9 σ' => ∃ q, a9 = some (.ref q) ∧ σ' = sR (cpQ (sNew σ (14, 64 * a + 49) q 49) (64 * a + 33) (64 * a + 49) 33) 1 a 0 (some (14, 64 * a + 49))) := by
  refine MJ.of (by decide +kernel) (Nat.le_of_ble_eq_true rfl) (fun X hX1 hX2 C Q hinit => ?_)
  subst hX1; subst hX2
  show J X 0 0 σ [(0, .ref (hG σ (0, a))), (1, .int (nI 34))] [] 0
  refine j_aload_n (pc := 0) C dJx4a65c_grow_92f84_0 rfl 0 rfl ?_
  refine j_getA (pc := 1) C fp_Jx4a65c_9 (⟨h0, rfl⟩) rfl (f := 1) rfl (14, 64 * a + 33) (hG σ (14, 64 * a + 33)) hrow (⟨hs, rfl⟩ : At _ (14, 64 * a + 33) _) dJx4a65c_grow_92f84_1 ?_
  refine j_alen (pc := 4) C (⟨hs, rfl⟩ : At _ (14, 64 * a + 33) _) (.object "java/lang/Object") 3 rfl (Nat.le_of_ble_eq_true rfl) hn dJx4a65c_grow_92f84_4 ?_
  show J X 0 0 σ [(0, .ref (hG σ (0, a))), (1, .int (nI 34))] [.int (nI 33)] 5
  refine j_istore_n (pc := 5) C [(2, .int (nI 33)), (0, .ref (hG σ (0, a))), (1, .int (nI 34))] dJx4a65c_grow_92f84_5 rfl (by decide) rfl ?_
  refine j_iload_n (pc := 6) C dJx4a65c_grow_92f84_6 rfl 0 rfl ?_
  refine j_if_gt (pc := 7) C 20 dJx4a65c_grow_92f84_7 (by decide) (fun _ => ?_) (fun q => absurd q (by decide))
  refine j_iload_n (pc := 20) C dJx4a65c_grow_92f84_20 rfl 0 rfl ?_
  refine j_iload_n (pc := 21) C dJx4a65c_grow_92f84_21 rfl 2 rfl ?_
  refine j_iload_n (pc := 22) C dJx4a65c_grow_92f84_22 rfl 0 rfl ?_
  refine j_isub (pc := 23) C dJx4a65c_grow_92f84_23 ?_
  refine j_topi (nI 1) (pk_sub (a := 34) (b := 33) (by omega)) ?_
  refine j_iload_n (pc := 24) C dJx4a65c_grow_92f84_24 rfl 0 rfl ?_
  refine j_iconst (pc := 25) C (nI 1) dJx4a65c_grow_92f84_25 (by decide) ?_
  refine j_ishr (pc := 26) C dJx4a65c_grow_92f84_26 ?_
  refine j_topi (nI 16) (by decide) ?_
  refine j_callS (pc := 27) C [.int (nI 33), .int (nI 1), .int (nI 16)] [] (rm0 := ({ frames := 3, cells := 1, slots := 49, locals := 104 } : Room)) (k' := 0) (n' := 0) Q.1 (c_J8_newLength_cabcc (xl X) (xw X) (o := 33) (m := 1) (p := 16) (by omega) (by omega) (by omega) (by omega)) mp_J8_newLength_cabcc wm_508 rfl rfl (Nat.le_of_ble_eq_true rfl) dJx4a65c_grow_92f84_27 ⟨by decide, by decide⟩ ⟨Nat.le_of_ble_eq_true rfl, Nat.le_of_ble_eq_true rfl⟩ rfl rfl (det1 ?_)
  refine j_topi (nI 49) rfl ?_
  refine j_istore_n (pc := 30) C [(3, .int (nI 49)), (2, .int (nI 33)), (0, .ref (hG σ (0, a))), (1, .int (nI 34))] dJx4a65c_grow_92f84_30 rfl (by decide) rfl ?_
  refine j_aload_n (pc := 31) C dJx4a65c_grow_92f84_31 rfl 2 rfl ?_
  refine j_aload_n (pc := 32) C dJx4a65c_grow_92f84_32 rfl 2 rfl ?_
  refine j_getA (pc := 33) C fp_Jx4a65c_9 (⟨h0, rfl⟩) rfl (f := 1) rfl (14, 64 * a + 33) (hG σ (14, 64 * a + 33)) hrow (⟨hs, rfl⟩ : At _ (14, 64 * a + 33) _) dJx4a65c_grow_92f84_33 ?_
  refine j_iload_n (pc := 36) C dJx4a65c_grow_92f84_36 rfl 0 rfl ?_
  refine j_callS (pc := 37) C [.ref (hG σ (14, 64 * a + 33)), .int (nI 49)] [.ref (hG σ (0, a))] (rm0 := ({ frames := 3, cells := 1, slots := 49, locals := 104 } : Room)) (k' := 1) (n' := 49) Q.1 (c_copyOf2_49 (xl X) (xw X) (i := 64 * a + 33) (j := 64 * a + 49) (n := 33) hs hn hj (by omega) hE) mp_J7_copyOf_1904c wm_518 rfl rfl (Nat.le_of_ble_eq_true rfl) dJx4a65c_grow_92f84_37 ⟨by decide, by decide⟩ ⟨Nat.le_of_ble_eq_true rfl, Nat.le_of_ble_eq_true rfl⟩ rfl rfl (fun v9 σ1 hp9 => ?_)
  obtain ⟨q, rfl, rfl⟩ := hp9
  have hA : At (cpQ (sNew σ (14, 64 * a + 49) q 49) (64 * a + 33) (64 * a + 49) 33) (14, 64 * a + 49) q := (At.new (σ := σ) (t := (14, 64 * a + 49)) (q := q) (n := 49))
  have hO : At (cpQ (sNew σ (14, 64 * a + 49) q 49) (64 * a + 33) (64 * a + 49) 33) (0, a) (hG σ (0, a)) := At.ext (σ := σ) ⟨h0, rfl⟩ (Ext.new (q := q) (n := 49) hj)
  show J X 1 49 (cpQ (sNew σ (14, 64 * a + 49) q 49) (64 * a + 33) (64 * a + 49) 33) [(3, .int (nI 49)), (2, .int (nI 33)), (0, .ref (hG σ (0, a))), (1, .int (nI 34))] [.ref q, .ref (hG σ (0, a))] 40
  refine j_dup_x1 (pc := 40) C dJx4a65c_grow_92f84_40 rfl rfl ?_
  refine j_putR (pc := 41) C (14, 64 * a + 49) hA.2 (Or.inl hA.1) fp_Jx4a65c_9 hO rfl rfl (Or.inl rfl) rfl (by decide) (f := 1) rfl dJx4a65c_grow_92f84_41 ?_
  exact j_areturn (pc := 44) C Q (Or.inr ⟨_, rfl⟩) (Or.inr ⟨_, rfl⟩) dJx4a65c_grow_92f84_44 (Nat.le_of_ble_eq_true rfl) (Nat.le_of_ble_eq_true rfl) (⟨q, rfl, rfl⟩)
