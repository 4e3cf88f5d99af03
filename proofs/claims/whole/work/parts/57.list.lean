set_option maxHeartbeats 4000000 in
set_option maxRecDepth 100000 in
theorem c_copyOf3_15 (L9 : Launch) (w9 : Wd) {σ : HS} {i j n : Nat} (hs : hV σ (14, i) = true) (hn : hN σ 14 i = n) (hj : hV σ (14, j) = false) (hnM : n ≤ 15) (hE : ∀ u, u < n → ∀ t, hR σ 896 i u = some t → hV σ t = true ∧ t.1 < 11) : MJ L9 w9 yJ7_copyOf_6403c cJ7_copyOf_6403c 4 (some (.array (.object "java/lang/Object"))) ({ frames := 1, cells := 1, slots := 15, locals := 60 } : Room) [.ref (hG σ (14, i)), .int (nI 15), .ref (w9.2.1 15)] σ (fun a9 σ' => ∃ q, a9 = some (.ref q) ∧ σ' = cpQ (sNew σ (14, j) q 15) i j n) := by
  refine MJ.of (by decide +kernel) (Nat.le_of_ble_eq_true rfl) (fun X hX1 hX2 C Q hinit => ?_)
  subst hX1; subst hX2
  show J X 0 0 σ [(0, .ref (hG σ (14, i))), (1, .int (nI 15)), (2, .ref ((xw X).2.1 15))] [] 0
  have hne : i ≠ j := fun z => by rw [z, hj] at hs; cases hs
  refine j_aload_n (pc := 0) C dJ7_copyOf_6403c_0 rfl 2 rfl ?_
  refine j_ldcM (pc := 1) C wm_542 dJ7_copyOf_6403c_1 ?_
  refine j_acmp_ne (pc := 3) C 13 dJ7_copyOf_6403c_3 (by decide) (fun z => absurd rfl z) (fun _ => ?_)
  show J X 0 0 σ [(0, .ref (hG σ (14, i))), (1, .int (nI 15)), (2, .ref ((xw X).2.1 15))] [] 6
  refine j_iload_n (pc := 6) C dJ7_copyOf_6403c_6 rfl 1 rfl ?_
  refine j_anew (pc := 7) C (i := j) (k' := 1) (n' := 15) (rm0 := ({ frames := 1, cells := 1, slots := 15, locals := 60 } : Room)) Q.1 wm_544 hj (M := 15) rfl (by decide) dJ7_copyOf_6403c_7 ⟨Nat.le_of_ble_eq_true rfl, Nat.le_of_ble_eq_true rfl⟩ rfl rfl (fun q => ?_)
  have hA : At (sNew σ (14, j) q 15) (14, j) q := At.new
  have hS : At (sNew σ (14, j) q 15) (14, i) (hG σ (14, i)) := At.ext (σ := σ) ⟨hs, rfl⟩ (Ext.new hj)
  show J X 1 15 (sNew σ (14, j) q 15) [(0, .ref (hG σ (14, i))), (1, .int (nI 15)), (2, .ref ((xw X).2.1 15))] [.ref q] 10
  refine j_goto (pc := 10) C 24 dJ7_copyOf_6403c_10 (by decide) ?_
  refine j_astore_n (pc := 24) C [(3, .ref q), (0, .ref (hG σ (14, i))), (1, .int (nI 15)), (2, .ref ((xw X).2.1 15))] dJ7_copyOf_6403c_24 rfl (by decide) rfl ?_
  refine j_aload_n (pc := 25) C dJ7_copyOf_6403c_25 rfl 1 rfl ?_
  refine j_iconst (pc := 26) C (nI 0) dJ7_copyOf_6403c_26 (by decide) ?_
  refine j_aload_n (pc := 27) C dJ7_copyOf_6403c_27 rfl 0 rfl ?_
  refine j_iconst (pc := 28) C (nI 0) dJ7_copyOf_6403c_28 (by decide) ?_
  refine j_aload_n (pc := 29) C dJ7_copyOf_6403c_29 rfl 1 rfl ?_
  have hn1 : hN (sNew σ (14, j) q 15) 14 i = n := (if_neg (fun z => hne z.2)).trans hn
  have hn2 : hN (sNew σ (14, j) q 15) 14 j = 15 := if_pos ⟨rfl, rfl⟩
  refine j_alen (pc := 30) C hS (.object "java/lang/Object") 3 rfl (Nat.le_of_ble_eq_true rfl) hn1 dJ7_copyOf_6403c_30 ?_
  show J X 1 15 (sNew σ (14, j) q 15) [(3, .ref q), (0, .ref (hG σ (14, i))), (1, .int (nI 15)), (2, .ref ((xw X).2.1 15))] [.int (nI n), .int (nI 0), .ref q, .int (nI 0), .ref (hG σ (14, i))] 31
  refine j_iload_n (pc := 31) C dJ7_copyOf_6403c_31 rfl 2 rfl ?_
  refine j_mmin (pc := 32) C (a := n) (b := 15) (rm0 := ({ frames := 1, cells := 1, slots := 15, locals := 60 } : Room)) Q.1 wm_545 (by omega) (by omega) dJ7_copyOf_6403c_32 ⟨Nat.le_of_ble_eq_true rfl, Nat.le_of_ble_eq_true rfl, Nat.le_of_ble_eq_true rfl, Nat.le_of_ble_eq_true rfl⟩ ?_
  show J X 1 15 (sNew σ (14, j) q 15) [(3, .ref q), (0, .ref (hG σ (14, i))), (1, .int (nI 15)), (2, .ref ((xw X).2.1 15))] [.int (nI (min n 15)), .int (nI 0), .ref q, .int (nI 0), .ref (hG σ (14, i))] 35
  refine j_topi (nI n) (congrArg nI (Nat.min_eq_left hnM)) ?_
  refine j_copyQ (pc := 35) C (rm0 := ({ frames := 1, cells := 1, slots := 15, locals := 60 } : Room)) Q.1 wm_548 hS hA hne hn1 hn2 hnM (by decide) (fun u hu t ht => ?_) dJ7_copyOf_6403c_35 ⟨Nat.le_of_ble_eq_true rfl, Nat.le_of_ble_eq_true rfl⟩ ?_
  · have h0 : hR σ 896 i u = some t := (clr_ne (t := (14, j)) (fun z => hne z.2)).symm.trans ht
    exact ⟨((Ext.new hj) t (hE u hu t h0).1).1, (hE u hu t h0).2⟩
  · skip
    show J X 1 15 (cpQ (sNew σ (14, j) q 15) i j n) [(3, .ref q), (0, .ref (hG σ (14, i))), (1, .int (nI 15)), (2, .ref ((xw X).2.1 15))] [] 38
    refine j_aload_n (pc := 38) C dJ7_copyOf_6403c_38 rfl 0 rfl ?_
    exact j_areturn (pc := 39) C Q (Or.inr ⟨_, rfl⟩) (Or.inr ⟨_, rfl⟩) dJ7_copyOf_6403c_39 (Nat.le_of_ble_eq_true rfl) (Nat.le_of_ble_eq_true rfl) (⟨q, rfl, rfl⟩)
set_option maxHeartbeats 4000000 in
set_option maxRecDepth 100000 in
theorem c_copyOf3_22 (L9 : Launch) (w9 : Wd) {σ : HS} {i j n : Nat} (hs : hV σ (14, i) = true) (hn : hN σ 14 i = n) (hj : hV σ (14, j) = false) (hnM : n ≤ 22) (hE : ∀ u, u < n → ∀ t, hR σ 896 i u = some t → hV σ t = true ∧ t.1 < 11) : MJ L9 w9 yJ7_copyOf_6403c cJ7_copyOf_6403c 4 (some (.array (.object "java/lang/Object"))) ({ frames := 1, cells := 1, slots := 22, locals := 60 } : Room) [.ref (hG σ (14, i)), .int (nI 22), .ref (w9.2.1 15)] σ (fun a9 σ' => ∃ q, a9 = some (.ref q) ∧ σ' = cpQ (sNew σ (14, j) q 22) i j n) := by
  refine MJ.of (by decide +kernel) (Nat.le_of_ble_eq_true rfl) (fun X hX1 hX2 C Q hinit => ?_)
  subst hX1; subst hX2
  show J X 0 0 σ [(0, .ref (hG σ (14, i))), (1, .int (nI 22)), (2, .ref ((xw X).2.1 15))] [] 0
  have hne : i ≠ j := fun z => by rw [z, hj] at hs; cases hs
  refine j_aload_n (pc := 0) C dJ7_copyOf_6403c_0 rfl 2 rfl ?_
  refine j_ldcM (pc := 1) C wm_542 dJ7_copyOf_6403c_1 ?_
  refine j_acmp_ne (pc := 3) C 13 dJ7_copyOf_6403c_3 (by decide) (fun z => absurd rfl z) (fun _ => ?_)
  show J X 0 0 σ [(0, .ref (hG σ (14, i))), (1, .int (nI 22)), (2, .ref ((xw X).2.1 15))] [] 6
  refine j_iload_n (pc := 6) C dJ7_copyOf_6403c_6 rfl 1 rfl ?_
  refine j_anew (pc := 7) C (i := j) (k' := 1) (n' := 22) (rm0 := ({ frames := 1, cells := 1, slots := 22, locals := 60 } : Room)) Q.1 wm_544 hj (M := 22) rfl (by decide) dJ7_copyOf_6403c_7 ⟨Nat.le_of_ble_eq_true rfl, Nat.le_of_ble_eq_true rfl⟩ rfl rfl (fun q => ?_)
  have hA : At (sNew σ (14, j) q 22) (14, j) q := At.new
  have hS : At (sNew σ (14, j) q 22) (14, i) (hG σ (14, i)) := At.ext (σ := σ) ⟨hs, rfl⟩ (Ext.new hj)
  show J X 1 22 (sNew σ (14, j) q 22) [(0, .ref (hG σ (14, i))), (1, .int (nI 22)), (2, .ref ((xw X).2.1 15))] [.ref q] 10
  refine j_goto (pc := 10) C 24 dJ7_copyOf_6403c_10 (by decide) ?_
  refine j_astore_n (pc := 24) C [(3, .ref q), (0, .ref (hG σ (14, i))), (1, .int (nI 22)), (2, .ref ((xw X).2.1 15))] dJ7_copyOf_6403c_24 rfl (by decide) rfl ?_
  refine j_aload_n (pc := 25) C dJ7_copyOf_6403c_25 rfl 1 rfl ?_
  refine j_iconst (pc := 26) C (nI 0) dJ7_copyOf_6403c_26 (by decide) ?_
  refine j_aload_n (pc := 27) C dJ7_copyOf_6403c_27 rfl 0 rfl ?_
  refine j_iconst (pc := 28) C (nI 0) dJ7_copyOf_6403c_28 (by decide) ?_
  refine j_aload_n (pc := 29) C dJ7_copyOf_6403c_29 rfl 1 rfl ?_
  have hn1 : hN (sNew σ (14, j) q 22) 14 i = n := (if_neg (fun z => hne z.2)).trans hn
  have hn2 : hN (sNew σ (14, j) q 22) 14 j = 22 := if_pos ⟨rfl, rfl⟩
  refine j_alen (pc := 30) C hS (.object "java/lang/Object") 3 rfl (Nat.le_of_ble_eq_true rfl) hn1 dJ7_copyOf_6403c_30 ?_
  show J X 1 22 (sNew σ (14, j) q 22) [(3, .ref q), (0, .ref (hG σ (14, i))), (1, .int (nI 22)), (2, .ref ((xw X).2.1 15))] [.int (nI n), .int (nI 0), .ref q, .int (nI 0), .ref (hG σ (14, i))] 31
  refine j_iload_n (pc := 31) C dJ7_copyOf_6403c_31 rfl 2 rfl ?_
  refine j_mmin (pc := 32) C (a := n) (b := 22) (rm0 := ({ frames := 1, cells := 1, slots := 22, locals := 60 } : Room)) Q.1 wm_545 (by omega) (by omega) dJ7_copyOf_6403c_32 ⟨Nat.le_of_ble_eq_true rfl, Nat.le_of_ble_eq_true rfl, Nat.le_of_ble_eq_true rfl, Nat.le_of_ble_eq_true rfl⟩ ?_
  show J X 1 22 (sNew σ (14, j) q 22) [(3, .ref q), (0, .ref (hG σ (14, i))), (1, .int (nI 22)), (2, .ref ((xw X).2.1 15))] [.int (nI (min n 22)), .int (nI 0), .ref q, .int (nI 0), .ref (hG σ (14, i))] 35
  refine j_topi (nI n) (congrArg nI (Nat.min_eq_left hnM)) ?_
  refine j_copyQ (pc := 35) C (rm0 := ({ frames := 1, cells := 1, slots := 22, locals := 60 } : Room)) Q.1 wm_548 hS hA hne hn1 hn2 hnM (by decide) (fun u hu t ht => ?_) dJ7_copyOf_6403c_35 ⟨Nat.le_of_ble_eq_true rfl, Nat.le_of_ble_eq_true rfl⟩ ?_
  · have h0 : hR σ 896 i u = some t := (clr_ne (t := (14, j)) (fun z => hne z.2)).symm.trans ht
    exact ⟨((Ext.new hj) t (hE u hu t h0).1).1, (hE u hu t h0).2⟩
  · skip
    show J X 1 22 (cpQ (sNew σ (14, j) q 22) i j n) [(3, .ref q), (0, .ref (hG σ (14, i))), (1, .int (nI 22)), (2, .ref ((xw X).2.1 15))] [] 38
    refine j_aload_n (pc := 38) C dJ7_copyOf_6403c_38 rfl 0 rfl ?_
    exact j_areturn (pc := 39) C Q (Or.inr ⟨_, rfl⟩) (Or.inr ⟨_, rfl⟩) dJ7_copyOf_6403c_39 (Nat.le_of_ble_eq_true rfl) (Nat.le_of_ble_eq_true rfl) (⟨q, rfl, rfl⟩)
set_option maxHeartbeats 4000000 in
set_option maxRecDepth 100000 in
theorem c_copyOf3_33 (L9 : Launch) (w9 : Wd) {σ : HS} {i j n : Nat} (hs : hV σ (14, i) = true) (hn : hN σ 14 i = n) (hj : hV σ (14, j) = false) (hnM : n ≤ 33) (hE : ∀ u, u < n → ∀ t, hR σ 896 i u = some t → hV σ t = true ∧ t.1 < 11) : MJ L9 w9 yJ7_copyOf_6403c cJ7_copyOf_6403c 4 (some (.array (.object "java/lang/Object"))) ({ frames := 1, cells := 1, slots := 33, locals := 60 } : Room) [.ref (hG σ (14, i)), .int (nI 33), .ref (w9.2.1 15)] σ (fun a9 σ' => ∃ q, a9 = some (.ref q) ∧ σ' = cpQ (sNew σ (14, j) q 33) i j n) := by
  refine MJ.of (by decide +kernel) (Nat.le_of_ble_eq_true rfl) (fun X hX1 hX2 C Q hinit => ?_)
  subst hX1; subst hX2
  show J X 0 0 σ [(0, .ref (hG σ (14, i))), (1, .int (nI 33)), (2, .ref ((xw X).2.1 15))] [] 0
  have hne : i ≠ j := fun z => by rw [z, hj] at hs; cases hs
  refine j_aload_n (pc := 0) C dJ7_copyOf_6403c_0 rfl 2 rfl ?_
  refine j_ldcM (pc := 1) C wm_542 dJ7_copyOf_6403c_1 ?_
  refine j_acmp_ne (pc := 3) C 13 dJ7_copyOf_6403c_3 (by decide) (fun z => absurd rfl z) (fun _ => ?_)
  show J X 0 0 σ [(0, .ref (hG σ (14, i))), (1, .int (nI 33)), (2, .ref ((xw X).2.1 15))] [] 6
  refine j_iload_n (pc := 6) C dJ7_copyOf_6403c_6 rfl 1 rfl ?_
  refine j_anew (pc := 7) C (i := j) (k' := 1) (n' := 33) (rm0 := ({ frames := 1, cells := 1, slots := 33, locals := 60 } : Room)) Q.1 wm_544 hj (M := 33) rfl (by decide) dJ7_copyOf_6403c_7 ⟨Nat.le_of_ble_eq_true rfl, Nat.le_of_ble_eq_true rfl⟩ rfl rfl (fun q => ?_)
  have hA : At (sNew σ (14, j) q 33) (14, j) q := At.new
  have hS : At (sNew σ (14, j) q 33) (14, i) (hG σ (14, i)) := At.ext (σ := σ) ⟨hs, rfl⟩ (Ext.new hj)
  show J X 1 33 (sNew σ (14, j) q 33) [(0, .ref (hG σ (14, i))), (1, .int (nI 33)), (2, .ref ((xw X).2.1 15))] [.ref q] 10
  refine j_goto (pc := 10) C 24 dJ7_copyOf_6403c_10 (by decide) ?_
  refine j_astore_n (pc := 24) C [(3, .ref q), (0, .ref (hG σ (14, i))), (1, .int (nI 33)), (2, .ref ((xw X).2.1 15))] dJ7_copyOf_6403c_24 rfl (by decide) rfl ?_
  refine j_aload_n (pc := 25) C dJ7_copyOf_6403c_25 rfl 1 rfl ?_
  refine j_iconst (pc := 26) C (nI 0) dJ7_copyOf_6403c_26 (by decide) ?_
  refine j_aload_n (pc := 27) C dJ7_copyOf_6403c_27 rfl 0 rfl ?_
  refine j_iconst (pc := 28) C (nI 0) dJ7_copyOf_6403c_28 (by decide) ?_
  refine j_aload_n (pc := 29) C dJ7_copyOf_6403c_29 rfl 1 rfl ?_
  have hn1 : hN (sNew σ (14, j) q 33) 14 i = n := (if_neg (fun z => hne z.2)).trans hn
  have hn2 : hN (sNew σ (14, j) q 33) 14 j = 33 := if_pos ⟨rfl, rfl⟩
  refine j_alen (pc := 30) C hS (.object "java/lang/Object") 3 rfl (Nat.le_of_ble_eq_true rfl) hn1 dJ7_copyOf_6403c_30 ?_
  show J X 1 33 (sNew σ (14, j) q 33) [(3, .ref q), (0, .ref (hG σ (14, i))), (1, .int (nI 33)), (2, .ref ((xw X).2.1 15))] [.int (nI n), .int (nI 0), .ref q, .int (nI 0), .ref (hG σ (14, i))] 31
  refine j_iload_n (pc := 31) C dJ7_copyOf_6403c_31 rfl 2 rfl ?_
  refine j_mmin (pc := 32) C (a := n) (b := 33) (rm0 := ({ frames := 1, cells := 1, slots := 33, locals := 60 } : Room)) Q.1 wm_545 (by omega) (by omega) dJ7_copyOf_6403c_32 ⟨Nat.le_of_ble_eq_true rfl, Nat.le_of_ble_eq_true rfl, Nat.le_of_ble_eq_true rfl, Nat.le_of_ble_eq_true rfl⟩ ?_
  show J X 1 33 (sNew σ (14, j) q 33) [(3, .ref q), (0, .ref (hG σ (14, i))), (1, .int (nI 33)), (2, .ref ((xw X).2.1 15))] [.int (nI (min n 33)), .int (nI 0), .ref q, .int (nI 0), .ref (hG σ (14, i))] 35
  refine j_topi (nI n) (congrArg nI (Nat.min_eq_left hnM)) ?_
  refine j_copyQ (pc := 35) C (rm0 := ({ frames := 1, cells := 1, slots := 33, locals := 60 } : Room)) Q.1 wm_548 hS hA hne hn1 hn2 hnM (by decide) (fun u hu t ht => ?_) dJ7_copyOf_6403c_35 ⟨Nat.le_of_ble_eq_true rfl, Nat.le_of_ble_eq_true rfl⟩ ?_
  · have h0 : hR σ 896 i u = some t := (clr_ne (t := (14, j)) (fun z => hne z.2)).symm.trans ht
    exact ⟨((Ext.new hj) t (hE u hu t h0).1).1, (hE u hu t h0).2⟩
  · skip
    show J X 1 33 (cpQ (sNew σ (14, j) q 33) i j n) [(3, .ref q), (0, .ref (hG σ (14, i))), (1, .int (nI 33)), (2, .ref ((xw X).2.1 15))] [] 38
    refine j_aload_n (pc := 38) C dJ7_copyOf_6403c_38 rfl 0 rfl ?_
    exact j_areturn (pc := 39) C Q (Or.inr ⟨_, rfl⟩) (Or.inr ⟨_, rfl⟩) dJ7_copyOf_6403c_39 (Nat.le_of_ble_eq_true rfl) (Nat.le_of_ble_eq_true rfl) (⟨q, rfl, rfl⟩)
set_option maxHeartbeats 4000000 in
set_option maxRecDepth 100000 in
theorem c_copyOf3_49 (L9 : Launch) (w9 : Wd) {σ : HS} {i j n : Nat} (hs : hV σ (14, i) = true) (hn : hN σ 14 i = n) (hj : hV σ (14, j) = false) (hnM : n ≤ 49) (hE : ∀ u, u < n → ∀ t, hR σ 896 i u = some t → hV σ t = true ∧ t.1 < 11) : MJ L9 w9 yJ7_copyOf_6403c cJ7_copyOf_6403c 4 (some (.array (.object "java/lang/Object"))) ({ frames := 1, cells := 1, slots := 49, locals := 60 } : Room) [.ref (hG σ (14, i)), .int (nI 49), .ref (w9.2.1 15)] σ (fun a9 σ' => ∃ q, a9 = some (.ref q) ∧ σ' = cpQ (sNew σ (14, j) q 49) i j n) := by
  refine MJ.of (by decide +kernel) (Nat.le_of_ble_eq_true rfl) (fun X hX1 hX2 C Q hinit => ?_)
  subst hX1; subst hX2
  show J X 0 0 σ [(0, .ref (hG σ (14, i))), (1, .int (nI 49)), (2, .ref ((xw X).2.1 15))] [] 0
  have hne : i ≠ j := fun z => by rw [z, hj] at hs; cases hs
  refine j_aload_n (pc := 0) C dJ7_copyOf_6403c_0 rfl 2 rfl ?_
  refine j_ldcM (pc := 1) C wm_542 dJ7_copyOf_6403c_1 ?_
  refine j_acmp_ne (pc := 3) C 13 dJ7_copyOf_6403c_3 (by decide) (fun z => absurd rfl z) (fun _ => ?_)
  show J X 0 0 σ [(0, .ref (hG σ (14, i))), (1, .int (nI 49)), (2, .ref ((xw X).2.1 15))] [] 6
  refine j_iload_n (pc := 6) C dJ7_copyOf_6403c_6 rfl 1 rfl ?_
  refine j_anew (pc := 7) C (i := j) (k' := 1) (n' := 49) (rm0 := ({ frames := 1, cells := 1, slots := 49, locals := 60 } : Room)) Q.1 wm_544 hj (M := 49) rfl (by decide) dJ7_copyOf_6403c_7 ⟨Nat.le_of_ble_eq_true rfl, Nat.le_of_ble_eq_true rfl⟩ rfl rfl (fun q => ?_)
  have hA : At (sNew σ (14, j) q 49) (14, j) q := At.new
  have hS : At (sNew σ (14, j) q 49) (14, i) (hG σ (14, i)) := At.ext (σ := σ) ⟨hs, rfl⟩ (Ext.new hj)
  show J X 1 49 (sNew σ (14, j) q 49) [(0, .ref (hG σ (14, i))), (1, .int (nI 49)), (2, .ref ((xw X).2.1 15))] [.ref q] 10
  refine j_goto (pc := 10) C 24 dJ7_copyOf_6403c_10 (by decide) ?_
  refine j_astore_n (pc := 24) C [(3, .ref q), (0, .ref (hG σ (14, i))), (1, .int (nI 49)), (2, .ref ((xw X).2.1 15))] dJ7_copyOf_6403c_24 rfl (by decide) rfl ?_
  refine j_aload_n (pc := 25) C dJ7_copyOf_6403c_25 rfl 1 rfl ?_
  refine j_iconst (pc := 26) C (nI 0) dJ7_copyOf_6403c_26 (by decide) ?_
  refine j_aload_n (pc := 27) C dJ7_copyOf_6403c_27 rfl 0 rfl ?_
  refine j_iconst (pc := 28) C (nI 0) dJ7_copyOf_6403c_28 (by decide) ?_
  refine j_aload_n (pc := 29) C dJ7_copyOf_6403c_29 rfl 1 rfl ?_
  have hn1 : hN (sNew σ (14, j) q 49) 14 i = n := (if_neg (fun z => hne z.2)).trans hn
  have hn2 : hN (sNew σ (14, j) q 49) 14 j = 49 := if_pos ⟨rfl, rfl⟩
  refine j_alen (pc := 30) C hS (.object "java/lang/Object") 3 rfl (Nat.le_of_ble_eq_true rfl) hn1 dJ7_copyOf_6403c_30 ?_
  show J X 1 49 (sNew σ (14, j) q 49) [(3, .ref q), (0, .ref (hG σ (14, i))), (1, .int (nI 49)), (2, .ref ((xw X).2.1 15))] [.int (nI n), .int (nI 0), .ref q, .int (nI 0), .ref (hG σ (14, i))] 31
  refine j_iload_n (pc := 31) C dJ7_copyOf_6403c_31 rfl 2 rfl ?_
  refine j_mmin (pc := 32) C (a := n) (b := 49) (rm0 := ({ frames := 1, cells := 1, slots := 49, locals := 60 } : Room)) Q.1 wm_545 (by omega) (by omega) dJ7_copyOf_6403c_32 ⟨Nat.le_of_ble_eq_true rfl, Nat.le_of_ble_eq_true rfl, Nat.le_of_ble_eq_true rfl, Nat.le_of_ble_eq_true rfl⟩ ?_
  show J X 1 49 (sNew σ (14, j) q 49) [(3, .ref q), (0, .ref (hG σ (14, i))), (1, .int (nI 49)), (2, .ref ((xw X).2.1 15))] [.int (nI (min n 49)), .int (nI 0), .ref q, .int (nI 0), .ref (hG σ (14, i))] 35
  refine j_topi (nI n) (congrArg nI (Nat.min_eq_left hnM)) ?_
  refine j_copyQ (pc := 35) C (rm0 := ({ frames := 1, cells := 1, slots := 49, locals := 60 } : Room)) Q.1 wm_548 hS hA hne hn1 hn2 hnM (by decide) (fun u hu t ht => ?_) dJ7_copyOf_6403c_35 ⟨Nat.le_of_ble_eq_true rfl, Nat.le_of_ble_eq_true rfl⟩ ?_
  · have h0 : hR σ 896 i u = some t := (clr_ne (t := (14, j)) (fun z => hne z.2)).symm.trans ht
    exact ⟨((Ext.new hj) t (hE u hu t h0).1).1, (hE u hu t h0).2⟩
  · skip
    show J X 1 49 (cpQ (sNew σ (14, j) q 49) i j n) [(3, .ref q), (0, .ref (hG σ (14, i))), (1, .int (nI 49)), (2, .ref ((xw X).2.1 15))] [] 38
    refine j_aload_n (pc := 38) C dJ7_copyOf_6403c_38 rfl 0 rfl ?_
    exact j_areturn (pc := 39) C Q (Or.inr ⟨_, rfl⟩) (Or.inr ⟨_, rfl⟩) dJ7_copyOf_6403c_39 (Nat.le_of_ble_eq_true rfl) (Nat.le_of_ble_eq_true rfl) (⟨q, rfl, rfl⟩)
