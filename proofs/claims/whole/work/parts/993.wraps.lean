set_option maxHeartbeats 4000000 in
set_option maxRecDepth 100000 in
theorem w_sound (L9 : Launch) (w9 : Wd) (hst9 : L9.stackTraces = false) {σ : HS} {S : SP} (hw : WF S) (hc : CI S σ) {a0 : Nat} (ha0 : At σ (9, 0) a0) {o : Nat} (ho : At σ (12, 300) o) (hN : hN σ 12 300 = 1) (x : Int32) : MW L9 w9 yL_sound cL_sound 4 (some .int) [(0, 9, 12, 13), (0, 9, 15, 15)] ({ frames := 8, cells := 1, slots := 6, locals := 122 } : Room) [.ref a0, .int x, .ref o] σ (fun a9 σ' => a9 = some (.int (nI (s_sound S x).1)) ∧ (s_sound S x).1 < 4 ∧ ((s_sound S x).1 = 0 → hL σ' 768 300 0 = (s_sound S x).2.1.toInt64) ∧ WF (s_sound S x).2.2 ∧ CI (s_sound S x).2.2 σ' ∧ Fr tgV σ σ') := by
  refine MW.of (by decide +kernel) (Nat.le_of_ble_eq_true rfl) (fun X hX1 hX2 C Q htab => ?_)
  subst hX1; subst hX2
  show J X 0 0 σ [(0, .ref a0), (1, .int x), (2, .ref o)] [] 0
  obtain ⟨hp, he, hx, hf9, hd⟩ := id hc
  obtain ⟨z1, z2, z3, z4⟩ := id hf9
  obtain ⟨ef, e1, e2⟩ := id he
  have gS := hw.1.1
  have gC := hw.1.2.2.2.1
  have gR := hw.2.1.1
  have gL := hw.2.2.1.1
  have gW := hw.2.2.2.1.1
  have gD := hw.2.2.2.2.1
  by_cases c1 : inI x 64 = false
  · have hs : s_sound S x = (1, 0, S) := if_pos c1
    refine j_aload_n (pc := 0) C dL_sound_0 rfl 2 rfl ?_
    refine j_iconst (pc := 1) C (nI 0) dL_sound_1 (by decide) ?_
    refine j_aload_n (pc := 2) C dL_sound_2 rfl 0 rfl ?_
    refine j_iload_n (pc := 3) C dL_sound_3 rfl 1 rfl ?_
    refine j_callVC (pc := 4) C [.int x] [.int (nI 0), .ref o] (rm0 := ({ frames := 8, cells := 1, slots := 6, locals := 122 } : Room)) (k' := 1) (n' := 6) Q.1 (c_X9_sound_1 (xl X) (xw X) hst9 hw hc ha0 c1) mp_X9_sound wm_373 ha0 rfl rfl (Nat.le_of_ble_eq_true rfl) rfl rfl (Nat.le_of_ble_eq_true rfl) dL_sound_4 ⟨by decide, by decide⟩ ⟨Nat.le_of_ble_eq_true rfl, Nat.le_of_ble_eq_true rfl⟩ rfl rfl (fun E9 σ9 hE9 => ?_) (fun _ _ h => (h : False).elim)
    rw [hE9.1, hE9.2]
    refine ⟨12, ⟨[], (⟨0, 9, 12, 13⟩ : ExceptionTableEntry), [(⟨0, 9, 15, 15⟩ : ExceptionTableEntry)], "java/lang/IllegalArgumentException", htab, (fun _ z => nomatch z), by decide, by decide, wm_371, by decide +kernel, rfl⟩, fun q9 => ?_⟩
    refine j_astore_n (pc := 12) C [(3, .ref q9), (0, .ref a0), (1, .int x), (2, .ref o)] dL_sound_12 rfl (by decide) rfl ?_
    refine j_iconst (pc := 13) C (nI 1) dL_sound_13 (by decide) ?_
    exact j_ireturn (pc := 14) C Q dL_sound_14 (Nat.le_of_ble_eq_true rfl) (Nat.le_of_ble_eq_true rfl) (by rw [hs]; exact ⟨rfl, show (1 : Nat) < 4 by decide, fun z => absurd z (show ¬ (1 : Nat) = 0 by decide), hw, hc, Fr.rf⟩)
  · obtain ⟨n1, n2⟩ := inI_t (ts_nf c1)
    refine j_eq rfl (lv' := [(0, .ref a0), (1, .int (nI (xN x))), (2, .ref o)]) (by rw [← n2]) rfl ?_
    by_cases c2 : wi S (xN x) ≠ 0 ∨ nS S = 16
    · have hs : s_sound S x = (2, 0, S) := (if_neg c1).trans (if_pos c2)
      refine j_aload_n (pc := 0) C dL_sound_0 rfl 2 rfl ?_
      refine j_iconst (pc := 1) C (nI 0) dL_sound_1 (by decide) ?_
      refine j_aload_n (pc := 2) C dL_sound_2 rfl 0 rfl ?_
      refine j_iload_n (pc := 3) C dL_sound_3 rfl 1 rfl ?_
      refine j_callVC (pc := 4) C [.int (nI (xN x))] [.int (nI 0), .ref o] (rm0 := ({ frames := 8, cells := 1, slots := 6, locals := 122 } : Room)) (k' := 1) (n' := 6) Q.1 (c_X9_sound_2 (xl X) (xw X) hst9 hw hc ha0 n1 c2) mp_X9_sound wm_373 ha0 rfl rfl (Nat.le_of_ble_eq_true rfl) rfl rfl (Nat.le_of_ble_eq_true rfl) dL_sound_4 ⟨by decide, by decide⟩ ⟨Nat.le_of_ble_eq_true rfl, Nat.le_of_ble_eq_true rfl⟩ rfl rfl (fun E9 σ9 hE9 => ?_) (fun _ _ h => (h : False).elim)
      rw [hE9.1, hE9.2]
      refine ⟨15, ⟨[(⟨0, 9, 12, 13⟩ : ExceptionTableEntry)], (⟨0, 9, 15, 15⟩ : ExceptionTableEntry), [], "java/lang/IllegalStateException", htab, (List.forall_mem_cons.mpr ⟨Or.inr ⟨by decide, "java/lang/IllegalArgumentException", wm_371, by decide +kernel⟩, (fun _ z => nomatch z)⟩), by decide, by decide, wm_372, by decide +kernel, rfl⟩, fun q9 => ?_⟩
      refine j_astore_n (pc := 15) C [(3, .ref q9), (0, .ref a0), (1, .int (nI (xN x))), (2, .ref o)] dL_sound_15 rfl (by decide) rfl ?_
      refine j_iconst (pc := 16) C (nI 2) dL_sound_16 (by decide) ?_
      exact j_ireturn (pc := 17) C Q dL_sound_17 (Nat.le_of_ble_eq_true rfl) (Nat.le_of_ble_eq_true rfl) (by rw [hs]; exact ⟨rfl, show (2 : Nat) < 4 by decide, fun z => absurd z (show ¬ (2 : Nat) = 0 by decide), hw, hc, Fr.rf⟩)
    · have hs : s_sound S x = (0, nI (nS S), S_sound S (xN x)) := (if_neg c1).trans (if_neg c2)
      have h2 : wi S (xN x) = 0 := Decidable.byContradiction (fun z => c2 (Or.inl z))
      have h3 : nS S < 16 := Nat.lt_of_le_of_ne gS (fun z => c2 (Or.inr z))
      refine j_aload_n (pc := 0) C dL_sound_0 rfl 2 rfl ?_
      refine j_iconst (pc := 1) C (nI 0) dL_sound_1 (by decide) ?_
      refine j_aload_n (pc := 2) C dL_sound_2 rfl 0 rfl ?_
      refine j_iload_n (pc := 3) C dL_sound_3 rfl 1 rfl ?_
      refine j_callV (pc := 4) C [.int (nI (xN x))] [.int (nI 0), .ref o] (rm0 := ({ frames := 8, cells := 1, slots := 6, locals := 122 } : Room)) (k' := 0) (n' := 0) Q.1 (c_X9_sound_0 (xl X) (xw X) hw hc ha0 n1 h2 h3) mp_X9_sound wm_373 ha0 rfl rfl (by decide) rfl rfl (Nat.le_of_ble_eq_true rfl) dL_sound_4 ⟨by decide, by decide⟩ ⟨Nat.le_of_ble_eq_true rfl, Nat.le_of_ble_eq_true rfl⟩ rfl rfl (fun v9 σ1 hp9 => ?_)
      obtain ⟨rfl, hc1, hF1⟩ := hp9
      show J X 0 0 σ1 [(0, .ref a0), (1, .int (nI (xN x))), (2, .ref o)] [.int (nI (nS S)), .int (nI 0), .ref o] 7
      refine j_i2l (pc := 7) C dL_sound_7 ?_
      refine j_last (pc := 8) C (p := 0) (M := 1) (hF1.at ho) rfl ((hF1.len ho.1).trans hN) (by decide) (by decide) dL_sound_8 ?_
      refine j_goto (pc := 9) C 18 dL_sound_9 (by decide) ?_
      refine j_iconst (pc := 18) C (nI 0) dL_sound_18 (by decide) ?_
      exact j_ireturn (pc := 19) C Q dL_sound_19 (Nat.le_of_ble_eq_true rfl) (Nat.le_of_ble_eq_true rfl) (by rw [hs]; exact ⟨rfl, show (0 : Nat) < 4 by decide, fun _ => sL_eq, (hw.sound n1 h2 h3), CI.out hc1 (hw.sound n1 h2 h3), out_fr hF1⟩)
set_option maxHeartbeats 4000000 in
set_option maxRecDepth 100000 in
theorem w_kind (L9 : Launch) (w9 : Wd) (hst9 : L9.stackTraces = false) {σ : HS} {S : SP} (hw : WF S) (hc : CI S σ) {a0 : Nat} (ha0 : At σ (9, 0) a0) {o : Nat} (ho : At σ (12, 300) o) (hN : hN σ 12 300 = 1) (x : Int32) (y : Int32) : MW L9 w9 yL_kind cL_kind 5 (some .int) [(0, 10, 13, 13), (0, 10, 17, 15)] ({ frames := 9, cells := 2, slots := 52, locals := 238 } : Room) [.ref a0, .int x, .int y, .ref o] σ (fun a9 σ' => a9 = some (.int (nI (s_kind S x y).1)) ∧ (s_kind S x y).1 < 4 ∧ ((s_kind S x y).1 = 0 → hL σ' 768 300 0 = (s_kind S x y).2.1.toInt64) ∧ WF (s_kind S x y).2.2 ∧ CI (s_kind S x y).2.2 σ' ∧ Fr tgV σ σ') := by
  refine MW.of (by decide +kernel) (Nat.le_of_ble_eq_true rfl) (fun X hX1 hX2 C Q htab => ?_)
  subst hX1; subst hX2
  show J X 0 0 σ [(0, .ref a0), (1, .int x), (2, .int y), (3, .ref o)] [] 0
  obtain ⟨hp, he, hx, hf9, hd⟩ := id hc
  obtain ⟨z1, z2, z3, z4⟩ := id hf9
  obtain ⟨ef, e1, e2⟩ := id he
  have gS := hw.1.1
  have gC := hw.1.2.2.2.1
  have gR := hw.2.1.1
  have gL := hw.2.2.1.1
  have gW := hw.2.2.2.1.1
  have gD := hw.2.2.2.2.1
  by_cases c1 : (inI x 64 && inI y 64) = false
  · have hs : s_kind S x y = (1, 0, S) := if_pos c1
    refine j_aload_n (pc := 0) C dL_kind_0 rfl 3 rfl ?_
    refine j_iconst (pc := 1) C (nI 0) dL_kind_1 (by decide) ?_
    refine j_aload_n (pc := 2) C dL_kind_2 rfl 0 rfl ?_
    refine j_iload_n (pc := 3) C dL_kind_3 rfl 1 rfl ?_
    refine j_iload_n (pc := 4) C dL_kind_4 rfl 2 rfl ?_
    refine j_callVC (pc := 5) C [.int x, .int y] [.int (nI 0), .ref o] (rm0 := ({ frames := 9, cells := 2, slots := 52, locals := 238 } : Room)) (k' := 1) (n' := 6) Q.1 (c_X9_kind_1 (xl X) (xw X) hst9 hw hc ha0 c1) mp_X9_kind wm_480 ha0 rfl rfl (Nat.le_of_ble_eq_true rfl) rfl rfl (Nat.le_of_ble_eq_true rfl) dL_kind_5 ⟨by decide, by decide⟩ ⟨Nat.le_of_ble_eq_true rfl, Nat.le_of_ble_eq_true rfl⟩ rfl rfl (fun E9 σ9 hE9 => ?_) (fun _ _ h => (h : False).elim)
    rw [hE9.1, hE9.2]
    refine ⟨13, ⟨[], (⟨0, 10, 13, 13⟩ : ExceptionTableEntry), [(⟨0, 10, 17, 15⟩ : ExceptionTableEntry)], "java/lang/IllegalArgumentException", htab, (fun _ z => nomatch z), by decide, by decide, wm_371, by decide +kernel, rfl⟩, fun q9 => ?_⟩
    refine j_astore (pc := 13) C [(4, .ref q9), (0, .ref a0), (1, .int x), (2, .int y), (3, .ref o)] dL_kind_13 (by decide) rfl ?_
    refine j_iconst (pc := 15) C (nI 1) dL_kind_15 (by decide) ?_
    exact j_ireturn (pc := 16) C Q dL_kind_16 (Nat.le_of_ble_eq_true rfl) (Nat.le_of_ble_eq_true rfl) (by rw [hs]; exact ⟨rfl, show (1 : Nat) < 4 by decide, fun z => absurd z (show ¬ (1 : Nat) = 0 by decide), hw, hc, Fr.rf⟩)
  · obtain ⟨b1, b2⟩ := and2 c1
    obtain ⟨n1, n2⟩ := inI_t b1
    obtain ⟨m1, m2⟩ := inI_t b2
    refine j_eq rfl (lv' := [(0, .ref a0), (1, .int (nI (xN x))), (2, .int y), (3, .ref o)]) (by rw [← n2]) rfl ?_
    refine j_eq rfl (lv' := [(0, .ref a0), (1, .int (nI (xN x))), (2, .int (nI (xN y))), (3, .ref o)]) (by rw [← m2]) rfl ?_
    by_cases c2 : nC S = 12
    · have hs : s_kind S x y = (2, 0, S) := (if_neg c1).trans (if_pos c2)
      refine j_aload_n (pc := 0) C dL_kind_0 rfl 3 rfl ?_
      refine j_iconst (pc := 1) C (nI 0) dL_kind_1 (by decide) ?_
      refine j_aload_n (pc := 2) C dL_kind_2 rfl 0 rfl ?_
      refine j_iload_n (pc := 3) C dL_kind_3 rfl 1 rfl ?_
      refine j_iload_n (pc := 4) C dL_kind_4 rfl 2 rfl ?_
      refine j_callVC (pc := 5) C [.int (nI (xN x)), .int (nI (xN y))] [.int (nI 0), .ref o] (rm0 := ({ frames := 9, cells := 2, slots := 52, locals := 238 } : Room)) (k' := 1) (n' := 6) Q.1 (c_X9_kind_2 (xl X) (xw X) hst9 hw hc ha0 n1 m1 c2) mp_X9_kind wm_480 ha0 rfl rfl (Nat.le_of_ble_eq_true rfl) rfl rfl (Nat.le_of_ble_eq_true rfl) dL_kind_5 ⟨by decide, by decide⟩ ⟨Nat.le_of_ble_eq_true rfl, Nat.le_of_ble_eq_true rfl⟩ rfl rfl (fun E9 σ9 hE9 => ?_) (fun _ _ h => (h : False).elim)
      rw [hE9.1, hE9.2]
      refine ⟨17, ⟨[(⟨0, 10, 13, 13⟩ : ExceptionTableEntry)], (⟨0, 10, 17, 15⟩ : ExceptionTableEntry), [], "java/lang/IllegalStateException", htab, (List.forall_mem_cons.mpr ⟨Or.inr ⟨by decide, "java/lang/IllegalArgumentException", wm_371, by decide +kernel⟩, (fun _ z => nomatch z)⟩), by decide, by decide, wm_372, by decide +kernel, rfl⟩, fun q9 => ?_⟩
      refine j_astore (pc := 17) C [(4, .ref q9), (0, .ref a0), (1, .int (nI (xN x))), (2, .int (nI (xN y))), (3, .ref o)] dL_kind_17 (by decide) rfl ?_
      refine j_iconst (pc := 19) C (nI 2) dL_kind_19 (by decide) ?_
      exact j_ireturn (pc := 20) C Q dL_kind_20 (Nat.le_of_ble_eq_true rfl) (Nat.le_of_ble_eq_true rfl) (by rw [hs]; exact ⟨rfl, show (2 : Nat) < 4 by decide, fun z => absurd z (show ¬ (2 : Nat) = 0 by decide), hw, hc, Fr.rf⟩)
    · have hs : s_kind S x y = (0, nI (nC S), S_kind S (xN x) (xN y)) := (if_neg c1).trans (if_neg c2)
      have h3 : nC S < 12 := Nat.lt_of_le_of_ne gC c2
      refine j_aload_n (pc := 0) C dL_kind_0 rfl 3 rfl ?_
      refine j_iconst (pc := 1) C (nI 0) dL_kind_1 (by decide) ?_
      refine j_aload_n (pc := 2) C dL_kind_2 rfl 0 rfl ?_
      refine j_iload_n (pc := 3) C dL_kind_3 rfl 1 rfl ?_
      refine j_iload_n (pc := 4) C dL_kind_4 rfl 2 rfl ?_
      refine j_callV (pc := 5) C [.int (nI (xN x)), .int (nI (xN y))] [.int (nI 0), .ref o] (rm0 := ({ frames := 9, cells := 2, slots := 52, locals := 238 } : Room)) (k' := 2) (n' := 52) Q.1 (c_X9_kind_0 (xl X) (xw X) hw hc ha0 n1 m1 h3) mp_X9_kind wm_480 ha0 rfl rfl (by decide) rfl rfl (Nat.le_of_ble_eq_true rfl) dL_kind_5 ⟨by decide, by decide⟩ ⟨Nat.le_of_ble_eq_true rfl, Nat.le_of_ble_eq_true rfl⟩ rfl rfl (fun v9 σ1 hp9 => ?_)
      obtain ⟨rfl, hc1, hF1⟩ := hp9
      show J X 2 52 σ1 [(0, .ref a0), (1, .int (nI (xN x))), (2, .int (nI (xN y))), (3, .ref o)] [.int (nI (nC S)), .int (nI 0), .ref o] 8
      refine j_i2l (pc := 8) C dL_kind_8 ?_
      refine j_last (pc := 9) C (p := 0) (M := 1) (hF1.at ho) rfl ((hF1.len ho.1).trans hN) (by decide) (by decide) dL_kind_9 ?_
      refine j_goto (pc := 10) C 21 dL_kind_10 (by decide) ?_
      refine j_iconst (pc := 21) C (nI 0) dL_kind_21 (by decide) ?_
      exact j_ireturn (pc := 22) C Q dL_kind_22 (Nat.le_of_ble_eq_true rfl) (Nat.le_of_ble_eq_true rfl) (by rw [hs]; exact ⟨rfl, show (0 : Nat) < 4 by decide, fun _ => sL_eq, (hw.kind n1 m1 h3), CI.out hc1 (hw.kind n1 m1 h3), out_fr hF1⟩)
set_option maxHeartbeats 4000000 in
set_option maxRecDepth 100000 in
theorem w_put (L9 : Launch) (w9 : Wd) (hst9 : L9.stackTraces = false) {σ : HS} {S : SP} (hw : WF S) (hc : CI S σ) {a0 : Nat} (ha0 : At σ (9, 0) a0) {o : Nat} (ho : At σ (12, 300) o) (hN : hN σ 12 300 = 1) (x : Int32) : MW L9 w9 yL_put cL_put 4 (some .int) [(0, 9, 12, 24), (0, 9, 15, 15)] ({ frames := 8, cells := 1, slots := 6, locals := 124 } : Room) [.ref a0, .int x, .ref o] σ (fun a9 σ' => a9 = some (.int (nI (s_put S x).1)) ∧ (s_put S x).1 < 4 ∧ ((s_put S x).1 = 0 → hL σ' 768 300 0 = (s_put S x).2.1.toInt64) ∧ WF (s_put S x).2.2 ∧ CI (s_put S x).2.2 σ' ∧ Fr tgV σ σ') := by
  refine MW.of (by decide +kernel) (Nat.le_of_ble_eq_true rfl) (fun X hX1 hX2 C Q htab => ?_)
  subst hX1; subst hX2
  show J X 0 0 σ [(0, .ref a0), (1, .int x), (2, .ref o)] [] 0
  obtain ⟨hp, he, hx, hf9, hd⟩ := id hc
  obtain ⟨z1, z2, z3, z4⟩ := id hf9
  obtain ⟨ef, e1, e2⟩ := id he
  have gS := hw.1.1
  have gC := hw.1.2.2.2.1
  have gR := hw.2.1.1
  have gL := hw.2.2.1.1
  have gW := hw.2.2.2.1.1
  have gD := hw.2.2.2.2.1
  by_cases c1 : inI x (nS S) = false
  · have hs : s_put S x = (1, 0, S) := if_pos c1
    refine j_aload_n (pc := 0) C dL_put_0 rfl 2 rfl ?_
    refine j_iconst (pc := 1) C (nI 0) dL_put_1 (by decide) ?_
    refine j_aload_n (pc := 2) C dL_put_2 rfl 0 rfl ?_
    refine j_iload_n (pc := 3) C dL_put_3 rfl 1 rfl ?_
    refine j_callVC (pc := 4) C [.int x] [.int (nI 0), .ref o] (rm0 := ({ frames := 8, cells := 1, slots := 6, locals := 124 } : Room)) (k' := 1) (n' := 6) Q.1 (c_X9_put_1 (xl X) (xw X) hst9 hw hc ha0 c1) mp_X9_put wm_557 ha0 rfl rfl (Nat.le_of_ble_eq_true rfl) rfl rfl (Nat.le_of_ble_eq_true rfl) dL_put_4 ⟨by decide, by decide⟩ ⟨Nat.le_of_ble_eq_true rfl, Nat.le_of_ble_eq_true rfl⟩ rfl rfl (fun E9 σ9 hE9 => ?_) (fun _ _ h => (h : False).elim)
    rw [hE9.1, hE9.2]
    refine ⟨12, ⟨[], (⟨0, 9, 12, 24⟩ : ExceptionTableEntry), [(⟨0, 9, 15, 15⟩ : ExceptionTableEntry)], "java/lang/IndexOutOfBoundsException", htab, (fun _ z => nomatch z), by decide, by decide, wm_556, by decide +kernel, rfl⟩, fun q9 => ?_⟩
    refine j_astore_n (pc := 12) C [(3, .ref q9), (0, .ref a0), (1, .int x), (2, .ref o)] dL_put_12 rfl (by decide) rfl ?_
    refine j_iconst (pc := 13) C (nI 1) dL_put_13 (by decide) ?_
    exact j_ireturn (pc := 14) C Q dL_put_14 (Nat.le_of_ble_eq_true rfl) (Nat.le_of_ble_eq_true rfl) (by rw [hs]; exact ⟨rfl, show (1 : Nat) < 4 by decide, fun z => absurd z (show ¬ (1 : Nat) = 0 by decide), hw, hc, Fr.rf⟩)
  · obtain ⟨n1, n2⟩ := inI_t (ts_nf c1)
    refine j_eq rfl (lv' := [(0, .ref a0), (1, .int (nI (xN x))), (2, .ref o)]) (by rw [← n2]) rfl ?_
    by_cases c2 : (dr S).length = 8
    · have hs : s_put S x = (2, 0, S) := (if_neg c1).trans (if_pos c2)
      refine j_aload_n (pc := 0) C dL_put_0 rfl 2 rfl ?_
      refine j_iconst (pc := 1) C (nI 0) dL_put_1 (by decide) ?_
      refine j_aload_n (pc := 2) C dL_put_2 rfl 0 rfl ?_
      refine j_iload_n (pc := 3) C dL_put_3 rfl 1 rfl ?_
      refine j_callVC (pc := 4) C [.int (nI (xN x))] [.int (nI 0), .ref o] (rm0 := ({ frames := 8, cells := 1, slots := 6, locals := 124 } : Room)) (k' := 1) (n' := 6) Q.1 (c_X9_put_2 (xl X) (xw X) hst9 hw hc ha0 n1 c2) mp_X9_put wm_557 ha0 rfl rfl (Nat.le_of_ble_eq_true rfl) rfl rfl (Nat.le_of_ble_eq_true rfl) dL_put_4 ⟨by decide, by decide⟩ ⟨Nat.le_of_ble_eq_true rfl, Nat.le_of_ble_eq_true rfl⟩ rfl rfl (fun E9 σ9 hE9 => ?_) (fun _ _ h => (h : False).elim)
      rw [hE9.1, hE9.2]
      refine ⟨15, ⟨[(⟨0, 9, 12, 24⟩ : ExceptionTableEntry)], (⟨0, 9, 15, 15⟩ : ExceptionTableEntry), [], "java/lang/IllegalStateException", htab, (List.forall_mem_cons.mpr ⟨Or.inr ⟨by decide, "java/lang/IndexOutOfBoundsException", wm_556, by decide +kernel⟩, (fun _ z => nomatch z)⟩), by decide, by decide, wm_372, by decide +kernel, rfl⟩, fun q9 => ?_⟩
      refine j_astore_n (pc := 15) C [(3, .ref q9), (0, .ref a0), (1, .int (nI (xN x))), (2, .ref o)] dL_put_15 rfl (by decide) rfl ?_
      refine j_iconst (pc := 16) C (nI 2) dL_put_16 (by decide) ?_
      exact j_ireturn (pc := 17) C Q dL_put_17 (Nat.le_of_ble_eq_true rfl) (Nat.le_of_ble_eq_true rfl) (by rw [hs]; exact ⟨rfl, show (2 : Nat) < 4 by decide, fun z => absurd z (show ¬ (2 : Nat) = 0 by decide), hw, hc, Fr.rf⟩)
    · have hs : s_put S x = (0, nI ((dr S).length + 1), zR S 647 0 0 (some (dr S ++ [xN x]))) := (if_neg c1).trans (if_neg c2)
      have h3 : (dr S).length < 8 := Nat.lt_of_le_of_ne (WF_drR hw).1 c2
      have hok : okS S (dr S ++ [xN x]) := okS_app (WF_dr hw) ⟨(show 1 ≤ 8 by decide), fun s hs9 => by rw [List.mem_singleton.mp hs9]; exact n1⟩ (by show (dr S).length + 1 ≤ 8; omega)
      refine j_aload_n (pc := 0) C dL_put_0 rfl 2 rfl ?_
      refine j_iconst (pc := 1) C (nI 0) dL_put_1 (by decide) ?_
      refine j_aload_n (pc := 2) C dL_put_2 rfl 0 rfl ?_
      refine j_iload_n (pc := 3) C dL_put_3 rfl 1 rfl ?_
      refine j_callV (pc := 4) C [.int (nI (xN x))] [.int (nI 0), .ref o] (rm0 := ({ frames := 8, cells := 1, slots := 6, locals := 124 } : Room)) (k' := 0) (n' := 0) Q.1 (c_X9_put_0 (xl X) (xw X) hw hc ha0 n1 h3) mp_X9_put wm_557 ha0 rfl rfl (by decide) rfl rfl (Nat.le_of_ble_eq_true rfl) dL_put_4 ⟨by decide, by decide⟩ ⟨Nat.le_of_ble_eq_true rfl, Nat.le_of_ble_eq_true rfl⟩ rfl rfl (fun v9 σ1 hp9 => ?_)
      obtain ⟨rfl, hc1, hF1⟩ := hp9
      show J X 0 0 σ1 [(0, .ref a0), (1, .int (nI (xN x))), (2, .ref o)] [.int (nI ((dr S).length + 1)), .int (nI 0), .ref o] 7
      refine j_i2l (pc := 7) C dL_put_7 ?_
      refine j_last (pc := 8) C (p := 0) (M := 1) (hF1.at ho) rfl ((hF1.len ho.1).trans hN) (by decide) (by decide) dL_put_8 ?_
      refine j_goto (pc := 9) C 18 dL_put_9 (by decide) ?_
      refine j_iconst (pc := 18) C (nI 0) dL_put_18 (by decide) ?_
      exact j_ireturn (pc := 19) C Q dL_put_19 (Nat.le_of_ble_eq_true rfl) (Nat.le_of_ble_eq_true rfl) (by rw [hs]; exact ⟨rfl, show (0 : Nat) < 4 by decide, fun _ => sL_eq, (hw.draft hok), CI.out hc1 (hw.draft hok), out_fr hF1⟩)
set_option maxHeartbeats 4000000 in
set_option maxRecDepth 100000 in
theorem w_lexeme (L9 : Launch) (w9 : Wd) (hst9 : L9.stackTraces = false) {σ : HS} {S : SP} (hw : WF S) (hc : CI S σ) {a0 : Nat} (ha0 : At σ (9, 0) a0) {o : Nat} (ho : At σ (12, 300) o) (hN : hN σ 12 300 = 1)  : MW L9 w9 yL_lexeme cL_lexeme 3 (some .int) [(0, 8, 11, 15)] ({ frames := 9, cells := 4, slots := 63, locals := 234 } : Room) [.ref a0, .ref o] σ (fun a9 σ' => a9 = some (.int (nI (s_lexeme S).1)) ∧ (s_lexeme S).1 < 4 ∧ ((s_lexeme S).1 = 0 → hL σ' 768 300 0 = (s_lexeme S).2.1.toInt64) ∧ WF (s_lexeme S).2.2 ∧ CI (s_lexeme S).2.2 σ' ∧ Fr tgV σ σ') := by
  refine MW.of (by decide +kernel) (Nat.le_of_ble_eq_true rfl) (fun X hX1 hX2 C Q htab => ?_)
  subst hX1; subst hX2
  show J X 0 0 σ [(0, .ref a0), (1, .ref o)] [] 0
  obtain ⟨hp, he, hx, hf9, hd⟩ := id hc
  obtain ⟨z1, z2, z3, z4⟩ := id hf9
  obtain ⟨ef, e1, e2⟩ := id he
  have gS := hw.1.1
  have gC := hw.1.2.2.2.1
  have gR := hw.2.1.1
  have gL := hw.2.2.1.1
  have gW := hw.2.2.2.1.1
  have gD := hw.2.2.2.2.1
  by_cases c1 : nL S = 16 ∨ isForm9 S = false
  · have hs : s_lexeme S = (1, 0, S) := if_pos c1
    refine j_aload_n (pc := 0) C dL_lexeme_0 rfl 1 rfl ?_
    refine j_iconst (pc := 1) C (nI 0) dL_lexeme_1 (by decide) ?_
    refine j_aload_n (pc := 2) C dL_lexeme_2 rfl 0 rfl ?_
    refine j_callVC (pc := 3) C [] [.int (nI 0), .ref o] (rm0 := ({ frames := 9, cells := 4, slots := 63, locals := 234 } : Room)) (k' := 1) (n' := 6) Q.1 (c_X9_lexeme_1 (xl X) (xw X) hst9 hw hc ha0 c1) mp_X9_lexeme wm_585 ha0 rfl rfl (Nat.le_of_ble_eq_true rfl) rfl rfl (Nat.le_of_ble_eq_true rfl) dL_lexeme_3 ⟨by decide, by decide⟩ ⟨Nat.le_of_ble_eq_true rfl, Nat.le_of_ble_eq_true rfl⟩ rfl rfl (fun E9 σ9 hE9 => ?_) (fun _ _ h => (h : False).elim)
    rw [hE9.1, hE9.2]
    refine ⟨11, ⟨[], (⟨0, 8, 11, 15⟩ : ExceptionTableEntry), [], "java/lang/IllegalStateException", htab, (fun _ z => nomatch z), by decide, by decide, wm_372, by decide +kernel, rfl⟩, fun q9 => ?_⟩
    refine j_astore_n (pc := 11) C [(2, .ref q9), (0, .ref a0), (1, .ref o)] dL_lexeme_11 rfl (by decide) rfl ?_
    refine j_iconst (pc := 12) C (nI 1) dL_lexeme_12 (by decide) ?_
    exact j_ireturn (pc := 13) C Q dL_lexeme_13 (Nat.le_of_ble_eq_true rfl) (Nat.le_of_ble_eq_true rfl) (by rw [hs]; exact ⟨rfl, show (1 : Nat) < 4 by decide, fun z => absurd z (show ¬ (1 : Nat) = 0 by decide), hw, hc, Fr.rf⟩)
  · have hs : s_lexeme S = (0, nI (nL S), makes9 (noDraft S) (dr S)) := if_neg c1
    have h1 : nL S ≠ 16 := fun z => c1 (Or.inl z)
    have hf : isForm9 S = true := ts_nf (fun z => c1 (Or.inr z))
    obtain ⟨f1, f6⟩ := isForm_t hf
    refine j_aload_n (pc := 0) C dL_lexeme_0 rfl 1 rfl ?_
    refine j_iconst (pc := 1) C (nI 0) dL_lexeme_1 (by decide) ?_
    refine j_aload_n (pc := 2) C dL_lexeme_2 rfl 0 rfl ?_
    refine j_callV (pc := 3) C [] [.int (nI 0), .ref o] (rm0 := ({ frames := 9, cells := 4, slots := 63, locals := 234 } : Room)) (k' := 4) (n' := 63) Q.1 (c_X9_lexeme_0 (xl X) (xw X) hw hc ha0 h1 hf) mp_X9_lexeme wm_585 ha0 rfl rfl (by decide) rfl rfl (Nat.le_of_ble_eq_true rfl) dL_lexeme_3 ⟨by decide, by decide⟩ ⟨Nat.le_of_ble_eq_true rfl, Nat.le_of_ble_eq_true rfl⟩ rfl rfl (fun v9 σ1 hp9 => ?_)
    obtain ⟨rfl, hc1, hF1⟩ := hp9
    show J X 4 63 σ1 [(0, .ref a0), (1, .ref o)] [.int (nI (nL S)), .int (nI 0), .ref o] 6
    refine j_i2l (pc := 6) C dL_lexeme_6 ?_
    refine j_last (pc := 7) C (p := 0) (M := 1) (hF1.at ho) rfl ((hF1.len ho.1).trans hN) (by decide) (by decide) dL_lexeme_7 ?_
    refine j_goto (pc := 8) C 14 dL_lexeme_8 (by decide) ?_
    refine j_iconst (pc := 14) C (nI 0) dL_lexeme_14 (by decide) ?_
    exact j_ireturn (pc := 15) C Q dL_lexeme_15 (Nat.le_of_ble_eq_true rfl) (Nat.le_of_ble_eq_true rfl) (by rw [hs]; exact ⟨rfl, show (0 : Nat) < 4 by decide, fun _ => sL_eq, (hw.noDraft.makes (WF_dr hw) f1 f6 (show nL S < 16 by omega)), CI.out hc1 (hw.noDraft.makes (WF_dr hw) f1 f6 (show nL S < 16 by omega)), out_fr hF1⟩)
set_option maxHeartbeats 4000000 in
set_option maxRecDepth 100000 in
theorem w_reform (L9 : Launch) (w9 : Wd) (hst9 : L9.stackTraces = false) {σ : HS} {S : SP} (hw : WF S) (hc : CI S σ) {a0 : Nat} (ha0 : At σ (9, 0) a0) (x : Int32) : MW L9 w9 yL_reform cL_reform 3 (some .int) [(0, 5, 8, 24), (0, 5, 11, 15)] ({ frames := 8, cells := 1, slots := 6, locals := 130 } : Room) [.ref a0, .int x] σ (fun a9 σ' => a9 = some (.int (nI (s_reform S x).1)) ∧ (s_reform S x).1 < 4 ∧ True ∧ WF (s_reform S x).2.2 ∧ CI (s_reform S x).2.2 σ' ∧ Fr tgV σ σ') := by
  refine MW.of (by decide +kernel) (Nat.le_of_ble_eq_true rfl) (fun X hX1 hX2 C Q htab => ?_)
  subst hX1; subst hX2
  show J X 0 0 σ [(0, .ref a0), (1, .int x)] [] 0
  obtain ⟨hp, he, hx, hf9, hd⟩ := id hc
  obtain ⟨z1, z2, z3, z4⟩ := id hf9
  obtain ⟨ef, e1, e2⟩ := id he
  have gS := hw.1.1
  have gC := hw.1.2.2.2.1
  have gR := hw.2.1.1
  have gL := hw.2.2.1.1
  have gW := hw.2.2.2.1.1
  have gD := hw.2.2.2.2.1
  by_cases c1 : isLex S x = false
  · have hs : s_reform S x = (1, 0, S) := if_pos c1
    refine j_aload_n (pc := 0) C dL_reform_0 rfl 0 rfl ?_
    refine j_iload_n (pc := 1) C dL_reform_1 rfl 1 rfl ?_
    refine j_callVC (pc := 2) C [.int x] [] (rm0 := ({ frames := 8, cells := 1, slots := 6, locals := 130 } : Room)) (k' := 1) (n' := 6) Q.1 (c_X9_reform_1 (xl X) (xw X) hst9 hw hc ha0 c1) mp_X9_reform wm_632 ha0 rfl rfl (Nat.le_of_ble_eq_true rfl) rfl rfl (Nat.le_of_ble_eq_true rfl) dL_reform_2 ⟨by decide, by decide⟩ ⟨Nat.le_of_ble_eq_true rfl, Nat.le_of_ble_eq_true rfl⟩ rfl rfl (fun E9 σ9 hE9 => ?_) (fun _ _ h => (h : False).elim)
    rw [hE9.1, hE9.2]
    refine ⟨8, ⟨[], (⟨0, 5, 8, 24⟩ : ExceptionTableEntry), [(⟨0, 5, 11, 15⟩ : ExceptionTableEntry)], "java/lang/IndexOutOfBoundsException", htab, (fun _ z => nomatch z), by decide, by decide, wm_556, by decide +kernel, rfl⟩, fun q9 => ?_⟩
    refine j_astore_n (pc := 8) C [(2, .ref q9), (0, .ref a0), (1, .int x)] dL_reform_8 rfl (by decide) rfl ?_
    refine j_iconst (pc := 9) C (nI 1) dL_reform_9 (by decide) ?_
    exact j_ireturn (pc := 10) C Q dL_reform_10 (Nat.le_of_ble_eq_true rfl) (Nat.le_of_ble_eq_true rfl) (by rw [hs]; exact ⟨rfl, show (1 : Nat) < 4 by decide, trivial, hw, hc, Fr.rf⟩)
  · obtain ⟨n1, n2, n3⟩ := isLex_t (ts_nf c1)
    refine j_eq rfl (lv' := [(0, .ref a0), (1, .int (nI (xN x)))]) (by rw [← n3]) rfl ?_
    by_cases c2 : isForm9 S = false
    · have hs : s_reform S x = (2, 0, S) := (if_neg c1).trans (if_pos c2)
      refine j_aload_n (pc := 0) C dL_reform_0 rfl 0 rfl ?_
      refine j_iload_n (pc := 1) C dL_reform_1 rfl 1 rfl ?_
      refine j_callVC (pc := 2) C [.int (nI (xN x))] [] (rm0 := ({ frames := 8, cells := 1, slots := 6, locals := 130 } : Room)) (k' := 1) (n' := 6) Q.1 (c_X9_reform_2 (xl X) (xw X) hst9 hw hc ha0 n1 n2 c2) mp_X9_reform wm_632 ha0 rfl rfl (Nat.le_of_ble_eq_true rfl) rfl rfl (Nat.le_of_ble_eq_true rfl) dL_reform_2 ⟨by decide, by decide⟩ ⟨Nat.le_of_ble_eq_true rfl, Nat.le_of_ble_eq_true rfl⟩ rfl rfl (fun E9 σ9 hE9 => ?_) (fun _ _ h => (h : False).elim)
      rw [hE9.1, hE9.2]
      refine ⟨11, ⟨[(⟨0, 5, 8, 24⟩ : ExceptionTableEntry)], (⟨0, 5, 11, 15⟩ : ExceptionTableEntry), [], "java/lang/IllegalStateException", htab, (List.forall_mem_cons.mpr ⟨Or.inr ⟨by decide, "java/lang/IndexOutOfBoundsException", wm_556, by decide +kernel⟩, (fun _ z => nomatch z)⟩), by decide, by decide, wm_372, by decide +kernel, rfl⟩, fun q9 => ?_⟩
      refine j_astore_n (pc := 11) C [(2, .ref q9), (0, .ref a0), (1, .int (nI (xN x)))] dL_reform_11 rfl (by decide) rfl ?_
      refine j_iconst (pc := 12) C (nI 2) dL_reform_12 (by decide) ?_
      exact j_ireturn (pc := 13) C Q dL_reform_13 (Nat.le_of_ble_eq_true rfl) (Nat.le_of_ble_eq_true rfl) (by rw [hs]; exact ⟨rfl, show (2 : Nat) < 4 by decide, trivial, hw, hc, Fr.rf⟩)
    · have hs : s_reform S x = (0, 0, zR (noDraft S) 768 408 (xN x) (some (dr S))) := (if_neg c1).trans (if_neg c2)
      have hf := ts_nf c2
      obtain ⟨f1, f6⟩ := isForm_t hf
      refine j_aload_n (pc := 0) C dL_reform_0 rfl 0 rfl ?_
      refine j_iload_n (pc := 1) C dL_reform_1 rfl 1 rfl ?_
      refine j_callV (pc := 2) C [.int (nI (xN x))] [] (rm0 := ({ frames := 8, cells := 1, slots := 6, locals := 130 } : Room)) (k' := 0) (n' := 0) Q.1 (c_X9_reform_0 (xl X) (xw X) hw hc ha0 n1 n2 hf) mp_X9_reform wm_632 ha0 rfl rfl (by decide) rfl rfl (Nat.le_of_ble_eq_true rfl) dL_reform_2 ⟨by decide, by decide⟩ ⟨Nat.le_of_ble_eq_true rfl, Nat.le_of_ble_eq_true rfl⟩ rfl rfl (fun v9 σ1 hp9 => ?_)
      obtain ⟨rfl, hc1, hF1⟩ := hp9
      show J X 0 0 σ1 [(0, .ref a0), (1, .int (nI (xN x)))] [] 5
      refine j_goto (pc := 5) C 14 dL_reform_5 (by decide) ?_
      refine j_iconst (pc := 14) C (nI 0) dL_reform_14 (by decide) ?_
      exact j_ireturn (pc := 15) C Q dL_reform_15 (Nat.le_of_ble_eq_true rfl) (Nat.le_of_ble_eq_true rfl) (by rw [hs]; exact ⟨rfl, show (0 : Nat) < 4 by decide, trivial, (hw.noDraft.form (WF_dr hw) f1 f6), hc1, hF1.wide (fun t z => Or.inl z)⟩)
set_option maxHeartbeats 4000000 in
set_option maxRecDepth 100000 in
theorem w_ending (L9 : Launch) (w9 : Wd) (hst9 : L9.stackTraces = false) {σ : HS} {S : SP} (hw : WF S) (hc : CI S σ) {a0 : Nat} (ha0 : At σ (9, 0) a0) (x : Int32) : MW L9 w9 yL_ending cL_ending 3 (some .int) [(0, 5, 8, 24), (0, 5, 11, 15)] ({ frames := 8, cells := 1, slots := 6, locals := 122 } : Room) [.ref a0, .int x] σ (fun a9 σ' => a9 = some (.int (nI (s_ending S x).1)) ∧ (s_ending S x).1 < 4 ∧ True ∧ WF (s_ending S x).2.2 ∧ CI (s_ending S x).2.2 σ' ∧ Fr tgV σ σ') := by
  refine MW.of (by decide +kernel) (Nat.le_of_ble_eq_true rfl) (fun X hX1 hX2 C Q htab => ?_)
  subst hX1; subst hX2
  show J X 0 0 σ [(0, .ref a0), (1, .int x)] [] 0
  obtain ⟨hp, he, hx, hf9, hd⟩ := id hc
  obtain ⟨z1, z2, z3, z4⟩ := id hf9
  obtain ⟨ef, e1, e2⟩ := id he
  have gS := hw.1.1
  have gC := hw.1.2.2.2.1
  have gR := hw.2.1.1
  have gL := hw.2.2.1.1
  have gW := hw.2.2.2.1.1
  have gD := hw.2.2.2.2.1
  by_cases c1 : inI x 8 = false
  · have hs : s_ending S x = (1, 0, S) := if_pos c1
    refine j_aload_n (pc := 0) C dL_ending_0 rfl 0 rfl ?_
    refine j_iload_n (pc := 1) C dL_ending_1 rfl 1 rfl ?_
    refine j_callVC (pc := 2) C [.int x] [] (rm0 := ({ frames := 8, cells := 1, slots := 6, locals := 122 } : Room)) (k' := 1) (n' := 6) Q.1 (c_X9_ending_1 (xl X) (xw X) hst9 hw hc ha0 c1) mp_X9_ending wm_643 ha0 rfl rfl (Nat.le_of_ble_eq_true rfl) rfl rfl (Nat.le_of_ble_eq_true rfl) dL_ending_2 ⟨by decide, by decide⟩ ⟨Nat.le_of_ble_eq_true rfl, Nat.le_of_ble_eq_true rfl⟩ rfl rfl (fun E9 σ9 hE9 => ?_) (fun _ _ h => (h : False).elim)
    rw [hE9.1, hE9.2]
    refine ⟨8, ⟨[], (⟨0, 5, 8, 24⟩ : ExceptionTableEntry), [(⟨0, 5, 11, 15⟩ : ExceptionTableEntry)], "java/lang/IndexOutOfBoundsException", htab, (fun _ z => nomatch z), by decide, by decide, wm_556, by decide +kernel, rfl⟩, fun q9 => ?_⟩
    refine j_astore_n (pc := 8) C [(2, .ref q9), (0, .ref a0), (1, .int x)] dL_ending_8 rfl (by decide) rfl ?_
    refine j_iconst (pc := 9) C (nI 1) dL_ending_9 (by decide) ?_
    exact j_ireturn (pc := 10) C Q dL_ending_10 (Nat.le_of_ble_eq_true rfl) (Nat.le_of_ble_eq_true rfl) (by rw [hs]; exact ⟨rfl, show (1 : Nat) < 4 by decide, trivial, hw, hc, Fr.rf⟩)
  · obtain ⟨n1, n2⟩ := inI_t (ts_nf c1)
    refine j_eq rfl (lv' := [(0, .ref a0), (1, .int (nI (xN x)))]) (by rw [← n2]) rfl ?_
    by_cases c2 : 2 < (dr S).length
    · have hs : s_ending S x = (2, 0, S) := (if_neg c1).trans (if_pos c2)
      refine j_aload_n (pc := 0) C dL_ending_0 rfl 0 rfl ?_
      refine j_iload_n (pc := 1) C dL_ending_1 rfl 1 rfl ?_
      refine j_callVC (pc := 2) C [.int (nI (xN x))] [] (rm0 := ({ frames := 8, cells := 1, slots := 6, locals := 122 } : Room)) (k' := 1) (n' := 6) Q.1 (c_X9_ending_2 (xl X) (xw X) hst9 hw hc ha0 n1 c2) mp_X9_ending wm_643 ha0 rfl rfl (Nat.le_of_ble_eq_true rfl) rfl rfl (Nat.le_of_ble_eq_true rfl) dL_ending_2 ⟨by decide, by decide⟩ ⟨Nat.le_of_ble_eq_true rfl, Nat.le_of_ble_eq_true rfl⟩ rfl rfl (fun E9 σ9 hE9 => ?_) (fun _ _ h => (h : False).elim)
      rw [hE9.1, hE9.2]
      refine ⟨11, ⟨[(⟨0, 5, 8, 24⟩ : ExceptionTableEntry)], (⟨0, 5, 11, 15⟩ : ExceptionTableEntry), [], "java/lang/IllegalStateException", htab, (List.forall_mem_cons.mpr ⟨Or.inr ⟨by decide, "java/lang/IndexOutOfBoundsException", wm_556, by decide +kernel⟩, (fun _ z => nomatch z)⟩), by decide, by decide, wm_372, by decide +kernel, rfl⟩, fun q9 => ?_⟩
      refine j_astore_n (pc := 11) C [(2, .ref q9), (0, .ref a0), (1, .int (nI (xN x)))] dL_ending_11 rfl (by decide) rfl ?_
      refine j_iconst (pc := 12) C (nI 2) dL_ending_12 (by decide) ?_
      exact j_ireturn (pc := 13) C Q dL_ending_13 (Nat.le_of_ble_eq_true rfl) (Nat.le_of_ble_eq_true rfl) (by rw [hs]; exact ⟨rfl, show (2 : Nat) < 4 by decide, trivial, hw, hc, Fr.rf⟩)
    · have hs : s_ending S x = (0, 0, zR (noDraft S) 768 411 (xN x) (some (dr S))) := (if_neg c1).trans (if_neg c2)
      have h2 : (dr S).length ≤ 2 := Nat.not_lt.mp c2
      refine j_aload_n (pc := 0) C dL_ending_0 rfl 0 rfl ?_
      refine j_iload_n (pc := 1) C dL_ending_1 rfl 1 rfl ?_
      refine j_callV (pc := 2) C [.int (nI (xN x))] [] (rm0 := ({ frames := 8, cells := 1, slots := 6, locals := 122 } : Room)) (k' := 0) (n' := 0) Q.1 (c_X9_ending_0 (xl X) (xw X) hw hc ha0 n1 h2) mp_X9_ending wm_643 ha0 rfl rfl (by decide) rfl rfl (Nat.le_of_ble_eq_true rfl) dL_ending_2 ⟨by decide, by decide⟩ ⟨Nat.le_of_ble_eq_true rfl, Nat.le_of_ble_eq_true rfl⟩ rfl rfl (fun v9 σ1 hp9 => ?_)
      obtain ⟨rfl, hc1, hF1⟩ := hp9
      show J X 0 0 σ1 [(0, .ref a0), (1, .int (nI (xN x)))] [] 5
      refine j_goto (pc := 5) C 14 dL_ending_5 (by decide) ?_
      refine j_iconst (pc := 14) C (nI 0) dL_ending_14 (by decide) ?_
      exact j_ireturn (pc := 15) C Q dL_ending_15 (Nat.le_of_ble_eq_true rfl) (Nat.le_of_ble_eq_true rfl) (by rw [hs]; exact ⟨rfl, show (0 : Nat) < 4 by decide, trivial, (hw.noDraft.ending (WF_dr hw) h2), hc1, hF1.wide (fun t z => Or.inl z)⟩)
set_option maxHeartbeats 4000000 in
set_option maxRecDepth 100000 in
theorem w_rule (L9 : Launch) (w9 : Wd) (hst9 : L9.stackTraces = false) {σ : HS} {S : SP} (hw : WF S) (hc : CI S σ) {a0 : Nat} (ha0 : At σ (9, 0) a0) {o : Nat} (ho : At σ (12, 300) o) (hN : hN σ 12 300 = 1) (t : Int32) (u : Int32) (l : Int32) (r : Int32) : MW L9 w9 yL_rule cL_rule 7 (some .int) [(0, 14, 17, 24), (0, 14, 21, 13), (0, 14, 25, 15)] ({ frames := 9, cells := 3, slots := 103, locals := 243 } : Room) [.ref a0, .int t, .int u, .int l, .int r, .ref o] σ (fun a9 σ' => a9 = some (.int (nI (s_rule S t u l r).1)) ∧ (s_rule S t u l r).1 < 4 ∧ ((s_rule S t u l r).1 = 0 → hL σ' 768 300 0 = (s_rule S t u l r).2.1.toInt64) ∧ WF (s_rule S t u l r).2.2 ∧ CI (s_rule S t u l r).2.2 σ' ∧ Fr tgV σ σ') := by
  refine MW.of (by decide +kernel) (Nat.le_of_ble_eq_true rfl) (fun X hX1 hX2 C Q htab => ?_)
  subst hX1; subst hX2
  show J X 0 0 σ [(0, .ref a0), (1, .int t), (2, .int u), (3, .int l), (4, .int r), (5, .ref o)] [] 0
  obtain ⟨hp, he, hx, hf9, hd⟩ := id hc
  obtain ⟨z1, z2, z3, z4⟩ := id hf9
  obtain ⟨ef, e1, e2⟩ := id he
  have gS := hw.1.1
  have gC := hw.1.2.2.2.1
  have gR := hw.2.1.1
  have gL := hw.2.2.1.1
  have gW := hw.2.2.2.1.1
  have gD := hw.2.2.2.2.1
  by_cases c1 : (inI t (nC S) && isSide9 S l && isSide9 S r) = false
  · have hs : s_rule S t u l r = (1, 0, S) := if_pos c1
    refine j_aload (pc := 0) C dL_rule_0 5 rfl ?_
    refine j_iconst (pc := 2) C (nI 0) dL_rule_2 (by decide) ?_
    refine j_aload_n (pc := 3) C dL_rule_3 rfl 0 rfl ?_
    refine j_iload_n (pc := 4) C dL_rule_4 rfl 1 rfl ?_
    refine j_iload_n (pc := 5) C dL_rule_5 rfl 2 rfl ?_
    refine j_iload_n (pc := 6) C dL_rule_6 rfl 3 rfl ?_
    refine j_iload (pc := 7) C dL_rule_7 4 rfl ?_
    refine j_callVC (pc := 9) C [.int t, .int u, .int l, .int r] [.int (nI 0), .ref o] (rm0 := ({ frames := 9, cells := 3, slots := 103, locals := 243 } : Room)) (k' := 1) (n' := 6) Q.1 (c_X9_rule_1 (xl X) (xw X) hst9 hw hc ha0 c1) mp_X9_rule wm_658 ha0 rfl rfl (Nat.le_of_ble_eq_true rfl) rfl rfl (Nat.le_of_ble_eq_true rfl) dL_rule_9 ⟨by decide, by decide⟩ ⟨Nat.le_of_ble_eq_true rfl, Nat.le_of_ble_eq_true rfl⟩ rfl rfl (fun E9 σ9 hE9 => ?_) (fun _ _ h => (h : False).elim)
    rw [hE9.1, hE9.2]
    refine ⟨17, ⟨[], (⟨0, 14, 17, 24⟩ : ExceptionTableEntry), [(⟨0, 14, 21, 13⟩ : ExceptionTableEntry), (⟨0, 14, 25, 15⟩ : ExceptionTableEntry)], "java/lang/IndexOutOfBoundsException", htab, (fun _ z => nomatch z), by decide, by decide, wm_556, by decide +kernel, rfl⟩, fun q9 => ?_⟩
    refine j_astore (pc := 17) C [(6, .ref q9), (0, .ref a0), (1, .int t), (2, .int u), (3, .int l), (4, .int r), (5, .ref o)] dL_rule_17 (by decide) rfl ?_
    refine j_iconst (pc := 19) C (nI 1) dL_rule_19 (by decide) ?_
    exact j_ireturn (pc := 20) C Q dL_rule_20 (Nat.le_of_ble_eq_true rfl) (Nat.le_of_ble_eq_true rfl) (by rw [hs]; exact ⟨rfl, show (1 : Nat) < 4 by decide, fun z => absurd z (show ¬ (1 : Nat) = 0 by decide), hw, hc, Fr.rf⟩)
  · obtain ⟨b1, b2, b3⟩ := and3 c1
    obtain ⟨n1, n2⟩ := inI_t b1
    refine j_eq rfl (lv' := [(0, .ref a0), (1, .int (nI (xN t))), (2, .int u), (3, .int l), (4, .int r), (5, .ref o)]) (by rw [← n2]) rfl ?_
    by_cases c2 : inI u 64 = false
    · have hs : s_rule S t u l r = (2, 0, S) := (if_neg c1).trans (if_pos c2)
      refine j_aload (pc := 0) C dL_rule_0 5 rfl ?_
      refine j_iconst (pc := 2) C (nI 0) dL_rule_2 (by decide) ?_
      refine j_aload_n (pc := 3) C dL_rule_3 rfl 0 rfl ?_
      refine j_iload_n (pc := 4) C dL_rule_4 rfl 1 rfl ?_
      refine j_iload_n (pc := 5) C dL_rule_5 rfl 2 rfl ?_
      refine j_iload_n (pc := 6) C dL_rule_6 rfl 3 rfl ?_
      refine j_iload (pc := 7) C dL_rule_7 4 rfl ?_
      refine j_callVC (pc := 9) C [.int (nI (xN t)), .int u, .int l, .int r] [.int (nI 0), .ref o] (rm0 := ({ frames := 9, cells := 3, slots := 103, locals := 243 } : Room)) (k' := 1) (n' := 6) Q.1 (c_X9_rule_2 (xl X) (xw X) hst9 hw hc ha0 n1 b2 b3 c2) mp_X9_rule wm_658 ha0 rfl rfl (Nat.le_of_ble_eq_true rfl) rfl rfl (Nat.le_of_ble_eq_true rfl) dL_rule_9 ⟨by decide, by decide⟩ ⟨Nat.le_of_ble_eq_true rfl, Nat.le_of_ble_eq_true rfl⟩ rfl rfl (fun E9 σ9 hE9 => ?_) (fun _ _ h => (h : False).elim)
      rw [hE9.1, hE9.2]
      refine ⟨21, ⟨[(⟨0, 14, 17, 24⟩ : ExceptionTableEntry)], (⟨0, 14, 21, 13⟩ : ExceptionTableEntry), [(⟨0, 14, 25, 15⟩ : ExceptionTableEntry)], "java/lang/IllegalArgumentException", htab, (List.forall_mem_cons.mpr ⟨Or.inr ⟨by decide, "java/lang/IndexOutOfBoundsException", wm_556, by decide +kernel⟩, (fun _ z => nomatch z)⟩), by decide, by decide, wm_371, by decide +kernel, rfl⟩, fun q9 => ?_⟩
      refine j_astore (pc := 21) C [(6, .ref q9), (0, .ref a0), (1, .int (nI (xN t))), (2, .int u), (3, .int l), (4, .int r), (5, .ref o)] dL_rule_21 (by decide) rfl ?_
      refine j_iconst (pc := 23) C (nI 2) dL_rule_23 (by decide) ?_
      exact j_ireturn (pc := 24) C Q dL_rule_24 (Nat.le_of_ble_eq_true rfl) (Nat.le_of_ble_eq_true rfl) (by rw [hs]; exact ⟨rfl, show (2 : Nat) < 4 by decide, fun z => absurd z (show ¬ (2 : Nat) = 0 by decide), hw, hc, Fr.rf⟩)
    · obtain ⟨m1, m2⟩ := inI_t (ts_nf c2)
      refine j_eq rfl (lv' := [(0, .ref a0), (1, .int (nI (xN t))), (2, .int (nI (xN u))), (3, .int l), (4, .int r), (5, .ref o)]) (by rw [← m2]) rfl ?_
      by_cases c3 : nR S = 6
      · have hs : s_rule S t u l r = (3, 0, S) := (if_neg c1).trans ((if_neg c2).trans (if_pos c3))
        refine j_aload (pc := 0) C dL_rule_0 5 rfl ?_
        refine j_iconst (pc := 2) C (nI 0) dL_rule_2 (by decide) ?_
        refine j_aload_n (pc := 3) C dL_rule_3 rfl 0 rfl ?_
        refine j_iload_n (pc := 4) C dL_rule_4 rfl 1 rfl ?_
        refine j_iload_n (pc := 5) C dL_rule_5 rfl 2 rfl ?_
        refine j_iload_n (pc := 6) C dL_rule_6 rfl 3 rfl ?_
        refine j_iload (pc := 7) C dL_rule_7 4 rfl ?_
        refine j_callVC (pc := 9) C [.int (nI (xN t)), .int (nI (xN u)), .int l, .int r] [.int (nI 0), .ref o] (rm0 := ({ frames := 9, cells := 3, slots := 103, locals := 243 } : Room)) (k' := 1) (n' := 6) Q.1 (c_X9_rule_3 (xl X) (xw X) hst9 hw hc ha0 n1 b2 b3 m1 c3) mp_X9_rule wm_658 ha0 rfl rfl (Nat.le_of_ble_eq_true rfl) rfl rfl (Nat.le_of_ble_eq_true rfl) dL_rule_9 ⟨by decide, by decide⟩ ⟨Nat.le_of_ble_eq_true rfl, Nat.le_of_ble_eq_true rfl⟩ rfl rfl (fun E9 σ9 hE9 => ?_) (fun _ _ h => (h : False).elim)
        rw [hE9.1, hE9.2]
        refine ⟨25, ⟨[(⟨0, 14, 17, 24⟩ : ExceptionTableEntry), (⟨0, 14, 21, 13⟩ : ExceptionTableEntry)], (⟨0, 14, 25, 15⟩ : ExceptionTableEntry), [], "java/lang/IllegalStateException", htab, (List.forall_mem_cons.mpr ⟨Or.inr ⟨by decide, "java/lang/IndexOutOfBoundsException", wm_556, by decide +kernel⟩, (List.forall_mem_cons.mpr ⟨Or.inr ⟨by decide, "java/lang/IllegalArgumentException", wm_371, by decide +kernel⟩, (fun _ z => nomatch z)⟩)⟩), by decide, by decide, wm_372, by decide +kernel, rfl⟩, fun q9 => ?_⟩
        refine j_astore (pc := 25) C [(6, .ref q9), (0, .ref a0), (1, .int (nI (xN t))), (2, .int (nI (xN u))), (3, .int l), (4, .int r), (5, .ref o)] dL_rule_25 (by decide) rfl ?_
        refine j_iconst (pc := 27) C (nI 3) dL_rule_27 (by decide) ?_
        exact j_ireturn (pc := 28) C Q dL_rule_28 (Nat.le_of_ble_eq_true rfl) (Nat.le_of_ble_eq_true rfl) (by rw [hs]; exact ⟨rfl, show (3 : Nat) < 4 by decide, fun z => absurd z (show ¬ (3 : Nat) = 0 by decide), hw, hc, Fr.rf⟩)
      · have hs : s_rule S t u l r = (0, nI (nR S), S_rule S (xN t) (xN u) (sideN l) (sideN r)) := (if_neg c1).trans ((if_neg c2).trans (if_neg c3))
        have h3 : nR S < 6 := Nat.lt_of_le_of_ne gR c3
        refine j_aload (pc := 0) C dL_rule_0 5 rfl ?_
        refine j_iconst (pc := 2) C (nI 0) dL_rule_2 (by decide) ?_
        refine j_aload_n (pc := 3) C dL_rule_3 rfl 0 rfl ?_
        refine j_iload_n (pc := 4) C dL_rule_4 rfl 1 rfl ?_
        refine j_iload_n (pc := 5) C dL_rule_5 rfl 2 rfl ?_
        refine j_iload_n (pc := 6) C dL_rule_6 rfl 3 rfl ?_
        refine j_iload (pc := 7) C dL_rule_7 4 rfl ?_
        refine j_callV (pc := 9) C [.int (nI (xN t)), .int (nI (xN u)), .int l, .int r] [.int (nI 0), .ref o] (rm0 := ({ frames := 9, cells := 3, slots := 103, locals := 243 } : Room)) (k' := 3) (n' := 103) Q.1 (c_X9_rule_0 (xl X) (xw X) hw hc ha0 n1 b2 b3 m1 h3) mp_X9_rule wm_658 ha0 rfl rfl (by decide) rfl rfl (Nat.le_of_ble_eq_true rfl) dL_rule_9 ⟨by decide, by decide⟩ ⟨Nat.le_of_ble_eq_true rfl, Nat.le_of_ble_eq_true rfl⟩ rfl rfl (fun v9 σ1 hp9 => ?_)
        obtain ⟨rfl, hc1, hF1⟩ := hp9
        show J X 3 103 σ1 [(0, .ref a0), (1, .int (nI (xN t))), (2, .int (nI (xN u))), (3, .int l), (4, .int r), (5, .ref o)] [.int (nI (nR S)), .int (nI 0), .ref o] 12
        refine j_i2l (pc := 12) C dL_rule_12 ?_
        refine j_last (pc := 13) C (p := 0) (M := 1) (hF1.at ho) rfl ((hF1.len ho.1).trans hN) (by decide) (by decide) dL_rule_13 ?_
        refine j_goto (pc := 14) C 29 dL_rule_14 (by decide) ?_
        refine j_iconst (pc := 29) C (nI 0) dL_rule_29 (by decide) ?_
        exact j_ireturn (pc := 30) C Q dL_rule_30 (Nat.le_of_ble_eq_true rfl) (Nat.le_of_ble_eq_true rfl) (by rw [hs]; exact ⟨rfl, show (0 : Nat) < 4 by decide, fun _ => sL_eq, (hw.rule n1 m1 (sideN_lt b2) (sideN_lt b3) h3), CI.out hc1 (hw.rule n1 m1 (sideN_lt b2) (sideN_lt b3) h3), out_fr hF1⟩)
set_option maxHeartbeats 4000000 in
set_option maxRecDepth 100000 in
theorem w_turn (L9 : Launch) (w9 : Wd) (hst9 : L9.stackTraces = false) {σ : HS} {S : SP} (hw : WF S) (hc : CI S σ) {a0 : Nat} (ha0 : At σ (9, 0) a0) {o : Nat} (ho : At σ (12, 300) o) (hN : hN σ 12 300 = 1) (x : Int32) (b : Bool) : MW L9 w9 yL_turn cL_turn 5 (some .int) [(0, 17, 20, 24)] ({ frames := 8, cells := 1, slots := 6, locals := 129 } : Room) [.ref a0, .int x, .int (bI b), .ref o] σ (fun a9 σ' => a9 = some (.int (nI (s_turn S x b).1)) ∧ (s_turn S x b).1 < 4 ∧ (∃ d, (s_turn S x b).2.1 = bI d ∧ ((s_turn S x b).1 = 0 → hL σ' 768 300 0 = lN d.toNat)) ∧ WF (s_turn S x b).2.2 ∧ CI (s_turn S x b).2.2 σ' ∧ Fr tgV σ σ') := by
  refine MW.of (by decide +kernel) (Nat.le_of_ble_eq_true rfl) (fun X hX1 hX2 C Q htab => ?_)
  subst hX1; subst hX2
  show J X 0 0 σ [(0, .ref a0), (1, .int x), (2, .int (bI b)), (3, .ref o)] [] 0
  obtain ⟨hp, he, hx, hf9, hd⟩ := id hc
  obtain ⟨z1, z2, z3, z4⟩ := id hf9
  obtain ⟨ef, e1, e2⟩ := id he
  have gS := hw.1.1
  have gC := hw.1.2.2.2.1
  have gR := hw.2.1.1
  have gL := hw.2.2.1.1
  have gW := hw.2.2.2.1.1
  have gD := hw.2.2.2.2.1
  by_cases c1 : inI x (nR S) = false
  · have hs : s_turn S x b = (1, 0, S) := if_pos c1
    refine j_aload_n (pc := 0) C dL_turn_0 rfl 3 rfl ?_
    refine j_iconst (pc := 1) C (nI 0) dL_turn_1 (by decide) ?_
    refine j_aload_n (pc := 2) C dL_turn_2 rfl 0 rfl ?_
    refine j_iload_n (pc := 3) C dL_turn_3 rfl 1 rfl ?_
    refine j_iload_n (pc := 4) C dL_turn_4 rfl 2 rfl ?_
    refine j_callVC (pc := 5) C [.int x, .int (bI b)] [.int (nI 0), .ref o] (rm0 := ({ frames := 8, cells := 1, slots := 6, locals := 129 } : Room)) (k' := 1) (n' := 6) Q.1 (c_X9_turn_1 (xl X) (xw X) hst9 hw hc ha0 c1) mp_X9_turn wm_701 ha0 rfl rfl (Nat.le_of_ble_eq_true rfl) rfl rfl (Nat.le_of_ble_eq_true rfl) dL_turn_5 ⟨by decide, by decide⟩ ⟨Nat.le_of_ble_eq_true rfl, Nat.le_of_ble_eq_true rfl⟩ rfl rfl (fun E9 σ9 hE9 => ?_) (fun _ _ h => (h : False).elim)
    rw [hE9.1, hE9.2]
    refine ⟨20, ⟨[], (⟨0, 17, 20, 24⟩ : ExceptionTableEntry), [], "java/lang/IndexOutOfBoundsException", htab, (fun _ z => nomatch z), by decide, by decide, wm_556, by decide +kernel, rfl⟩, fun q9 => ?_⟩
    refine j_astore (pc := 20) C [(4, .ref q9), (0, .ref a0), (1, .int x), (2, .int (bI b)), (3, .ref o)] dL_turn_20 (by decide) rfl ?_
    refine j_iconst (pc := 22) C (nI 1) dL_turn_22 (by decide) ?_
    exact j_ireturn (pc := 23) C Q dL_turn_23 (Nat.le_of_ble_eq_true rfl) (Nat.le_of_ble_eq_true rfl) (by rw [hs]; exact ⟨rfl, show (1 : Nat) < 4 by decide, ⟨false, rfl, fun z => absurd z (show ¬ (1 : Nat) = 0 by decide)⟩, hw, hc, Fr.rf⟩)
  · obtain ⟨n1, n2⟩ := inI_t (ts_nf c1)
    refine j_eq rfl (lv' := [(0, .ref a0), (1, .int (nI (xN x))), (2, .int (bI b)), (3, .ref o)]) (by rw [← n2]) rfl ?_
    have hs : s_turn S x b = (0, bI (decide ((on9 S).testBit (xN x) ≠ b)), zN S 658 0 0 (setOn (on9 S) (xN x) b)) := if_neg c1
    refine j_aload_n (pc := 0) C dL_turn_0 rfl 3 rfl ?_
    refine j_iconst (pc := 1) C (nI 0) dL_turn_1 (by decide) ?_
    refine j_aload_n (pc := 2) C dL_turn_2 rfl 0 rfl ?_
    refine j_iload_n (pc := 3) C dL_turn_3 rfl 1 rfl ?_
    refine j_iload_n (pc := 4) C dL_turn_4 rfl 2 rfl ?_
    refine j_callV (pc := 5) C [.int (nI (xN x)), .int (bI b)] [.int (nI 0), .ref o] (rm0 := ({ frames := 8, cells := 1, slots := 6, locals := 129 } : Room)) (k' := 0) (n' := 0) Q.1 (c_X9_turn_0 (xl X) (xw X) hw hc ha0 n1 b) mp_X9_turn wm_701 ha0 rfl rfl (by decide) rfl rfl (Nat.le_of_ble_eq_true rfl) dL_turn_5 ⟨by decide, by decide⟩ ⟨Nat.le_of_ble_eq_true rfl, Nat.le_of_ble_eq_true rfl⟩ rfl rfl (fun v9 σ1 hp9 => ?_)
    obtain ⟨rfl, hc1, hF1⟩ := hp9
    show J X 0 0 σ1 [(0, .ref a0), (1, .int (nI (xN x))), (2, .int (bI b)), (3, .ref o)] [.int (bI (decide ((on9 S).testBit (xN x) ≠ b))), .int (nI 0), .ref o] 8
    refine jb_if_eq (pc := 8) C 15 (b := decide ((on9 S).testBit (xN x) ≠ b)) dL_turn_8 (by decide) (fun k1 => ?_) (fun k1 => ?_)
    · refine j_lconst (pc := 15) C (lN 0) dL_turn_15 (by decide) ?_
      refine j_last (pc := 16) C (p := 0) (M := 1) (hF1.at ho) rfl ((hF1.len ho.1).trans hN) (by decide) (by decide) dL_turn_16 ?_
      refine j_goto (pc := 17) C 24 dL_turn_17 (by decide) ?_
      refine j_iconst (pc := 24) C (nI 0) dL_turn_24 (by decide) ?_
      exact j_ireturn (pc := 25) C Q dL_turn_25 (Nat.le_of_ble_eq_true rfl) (Nat.le_of_ble_eq_true rfl) (by rw [hs]; exact ⟨rfl, show (0 : Nat) < 4 by decide, ⟨decide ((on9 S).testBit (xN x) ≠ b), rfl, fun _ => by rw [k1]; exact sL_eq⟩, (hw.on n1), CI.out hc1 (hw.on n1), out_fr hF1⟩)
    · refine j_lconst (pc := 11) C (lN 1) dL_turn_11 (by decide) ?_
      refine j_goto (pc := 12) C 16 dL_turn_12 (by decide) ?_
      refine j_last (pc := 16) C (p := 0) (M := 1) (hF1.at ho) rfl ((hF1.len ho.1).trans hN) (by decide) (by decide) dL_turn_16 ?_
      refine j_goto (pc := 17) C 24 dL_turn_17 (by decide) ?_
      refine j_iconst (pc := 24) C (nI 0) dL_turn_24 (by decide) ?_
      exact j_ireturn (pc := 25) C Q dL_turn_25 (Nat.le_of_ble_eq_true rfl) (Nat.le_of_ble_eq_true rfl) (by rw [hs]; exact ⟨rfl, show (0 : Nat) < 4 by decide, ⟨decide ((on9 S).testBit (xN x) ≠ b), rfl, fun _ => by rw [k1]; exact sL_eq⟩, (hw.on n1), CI.out hc1 (hw.on n1), out_fr hF1⟩)
set_option maxHeartbeats 4000000 in
set_option maxRecDepth 100000 in
theorem w_raise (L9 : Launch) (w9 : Wd) (hst9 : L9.stackTraces = false) {σ : HS} {S : SP} (hw : WF S) (hc : CI S σ) {a0 : Nat} (ha0 : At σ (9, 0) a0) {o : Nat} (ho : At σ (12, 300) o) (hN : hN σ 12 300 = 1) (x : Int32) : MW L9 w9 yL_raise cL_raise 4 (some .int) [(0, 9, 12, 24)] ({ frames := 8, cells := 1, slots := 6, locals := 128 } : Room) [.ref a0, .int x, .ref o] σ (fun a9 σ' => a9 = some (.int (nI (s_raise S x).1)) ∧ (s_raise S x).1 < 4 ∧ ((s_raise S x).1 = 0 → hL σ' 768 300 0 = (s_raise S x).2.1.toInt64) ∧ WF (s_raise S x).2.2 ∧ CI (s_raise S x).2.2 σ' ∧ Fr tgV σ σ') := by
  refine MW.of (by decide +kernel) (Nat.le_of_ble_eq_true rfl) (fun X hX1 hX2 C Q htab => ?_)
  subst hX1; subst hX2
  show J X 0 0 σ [(0, .ref a0), (1, .int x), (2, .ref o)] [] 0
  obtain ⟨hp, he, hx, hf9, hd⟩ := id hc
  obtain ⟨z1, z2, z3, z4⟩ := id hf9
  obtain ⟨ef, e1, e2⟩ := id he
  have gS := hw.1.1
  have gC := hw.1.2.2.2.1
  have gR := hw.2.1.1
  have gL := hw.2.2.1.1
  have gW := hw.2.2.2.1.1
  have gD := hw.2.2.2.2.1
  by_cases c1 : inI x (nR S) = false
  · have hs : s_raise S x = (1, 0, S) := if_pos c1
    refine j_aload_n (pc := 0) C dL_raise_0 rfl 2 rfl ?_
    refine j_iconst (pc := 1) C (nI 0) dL_raise_1 (by decide) ?_
    refine j_aload_n (pc := 2) C dL_raise_2 rfl 0 rfl ?_
    refine j_iload_n (pc := 3) C dL_raise_3 rfl 1 rfl ?_
    refine j_callVC (pc := 4) C [.int x] [.int (nI 0), .ref o] (rm0 := ({ frames := 8, cells := 1, slots := 6, locals := 128 } : Room)) (k' := 1) (n' := 6) Q.1 (c_X9_raise_1 (xl X) (xw X) hst9 hw hc ha0 c1) mp_X9_raise wm_725 ha0 rfl rfl (Nat.le_of_ble_eq_true rfl) rfl rfl (Nat.le_of_ble_eq_true rfl) dL_raise_4 ⟨by decide, by decide⟩ ⟨Nat.le_of_ble_eq_true rfl, Nat.le_of_ble_eq_true rfl⟩ rfl rfl (fun E9 σ9 hE9 => ?_) (fun _ _ h => (h : False).elim)
    rw [hE9.1, hE9.2]
    refine ⟨12, ⟨[], (⟨0, 9, 12, 24⟩ : ExceptionTableEntry), [], "java/lang/IndexOutOfBoundsException", htab, (fun _ z => nomatch z), by decide, by decide, wm_556, by decide +kernel, rfl⟩, fun q9 => ?_⟩
    refine j_astore_n (pc := 12) C [(3, .ref q9), (0, .ref a0), (1, .int x), (2, .ref o)] dL_raise_12 rfl (by decide) rfl ?_
    refine j_iconst (pc := 13) C (nI 1) dL_raise_13 (by decide) ?_
    exact j_ireturn (pc := 14) C Q dL_raise_14 (Nat.le_of_ble_eq_true rfl) (Nat.le_of_ble_eq_true rfl) (by rw [hs]; exact ⟨rfl, show (1 : Nat) < 4 by decide, fun z => absurd z (show ¬ (1 : Nat) = 0 by decide), hw, hc, Fr.rf⟩)
  · obtain ⟨n1, n2⟩ := inI_t (ts_nf c1)
    refine j_eq rfl (lv' := [(0, .ref a0), (1, .int (nI (xN x))), (2, .ref o)]) (by rw [← n2]) rfl ?_
    have hs := raise_s c1
    refine j_aload_n (pc := 0) C dL_raise_0 rfl 2 rfl ?_
    refine j_iconst (pc := 1) C (nI 0) dL_raise_1 (by decide) ?_
    refine j_aload_n (pc := 2) C dL_raise_2 rfl 0 rfl ?_
    refine j_iload_n (pc := 3) C dL_raise_3 rfl 1 rfl ?_
    refine j_callV (pc := 4) C [.int (nI (xN x))] [.int (nI 0), .ref o] (rm0 := ({ frames := 8, cells := 1, slots := 6, locals := 128 } : Room)) (k' := 0) (n' := 0) Q.1 (c_X9_raise_0 (xl X) (xw X) hw hc ha0 n1) mp_X9_raise wm_725 ha0 rfl rfl (by decide) rfl rfl (Nat.le_of_ble_eq_true rfl) dL_raise_4 ⟨by decide, by decide⟩ ⟨Nat.le_of_ble_eq_true rfl, Nat.le_of_ble_eq_true rfl⟩ rfl rfl (fun v9 σ1 hp9 => ?_)
    obtain ⟨rfl, hc1, hF1⟩ := hp9
    show J X 0 0 σ1 [(0, .ref a0), (1, .int (nI (xN x))), (2, .ref o)] [.int (nI (pos9 S (xN x) - 1)), .int (nI 0), .ref o] 7
    refine j_i2l (pc := 7) C dL_raise_7 ?_
    refine j_last (pc := 8) C (p := 0) (M := 1) (hF1.at ho) rfl ((hF1.len ho.1).trans hN) (by decide) (by decide) dL_raise_8 ?_
    refine j_goto (pc := 9) C 15 dL_raise_9 (by decide) ?_
    refine j_iconst (pc := 15) C (nI 0) dL_raise_15 (by decide) ?_
    exact j_ireturn (pc := 16) C Q dL_raise_16 (Nat.le_of_ble_eq_true rfl) (Nat.le_of_ble_eq_true rfl) (by rw [hs]; exact ⟨rfl, show (0 : Nat) < 4 by decide, fun _ => sL_eq, (hw.raise n1), CI.out hc1 (hw.raise n1), out_fr hF1⟩)
set_option maxHeartbeats 4000000 in
set_option maxRecDepth 100000 in
theorem w_hear (L9 : Launch) (w9 : Wd) (hst9 : L9.stackTraces = false) {σ : HS} {S : SP} (hw : WF S) (hc : CI S σ) {a0 : Nat} (ha0 : At σ (9, 0) a0) {o : Nat} (ho : At σ (12, 300) o) (hN : hN σ 12 300 = 1) (x : Int32) (c : Int32) (p : Int32) : MW L9 w9 yL_hear cL_hear 6 (some .int) [(0, 12, 15, 24), (0, 12, 19, 15)] ({ frames := 9, cells := 2, slots := 54, locals := 240 } : Room) [.ref a0, .int x, .int c, .int p, .ref o] σ (fun a9 σ' => a9 = some (.int (nI (s_hear S x c p).1)) ∧ (s_hear S x c p).1 < 4 ∧ ((s_hear S x c p).1 = 0 → hL σ' 768 300 0 = (s_hear S x c p).2.1.toInt64) ∧ WF (s_hear S x c p).2.2 ∧ CI (s_hear S x c p).2.2 σ' ∧ Fr tgV σ σ') := by
  refine MW.of (by decide +kernel) (Nat.le_of_ble_eq_true rfl) (fun X hX1 hX2 C Q htab => ?_)
  subst hX1; subst hX2
  show J X 0 0 σ [(0, .ref a0), (1, .int x), (2, .int c), (3, .int p), (4, .ref o)] [] 0
  obtain ⟨hp, he, hx, hf9, hd⟩ := id hc
  obtain ⟨z1, z2, z3, z4⟩ := id hf9
  obtain ⟨ef, e1, e2⟩ := id he
  have gS := hw.1.1
  have gC := hw.1.2.2.2.1
  have gR := hw.2.1.1
  have gL := hw.2.2.1.1
  have gW := hw.2.2.2.1.1
  have gD := hw.2.2.2.2.1
  by_cases c1 : (isLex S x && inI c 8 && inI p 4) = false
  · have hs : s_hear S x c p = (1, 0, S) := if_pos c1
    refine j_aload (pc := 0) C dL_hear_0 4 rfl ?_
    refine j_iconst (pc := 2) C (nI 0) dL_hear_2 (by decide) ?_
    refine j_aload_n (pc := 3) C dL_hear_3 rfl 0 rfl ?_
    refine j_iload_n (pc := 4) C dL_hear_4 rfl 1 rfl ?_
    refine j_iload_n (pc := 5) C dL_hear_5 rfl 2 rfl ?_
    refine j_iload_n (pc := 6) C dL_hear_6 rfl 3 rfl ?_
    refine j_callVC (pc := 7) C [.int x, .int c, .int p] [.int (nI 0), .ref o] (rm0 := ({ frames := 9, cells := 2, slots := 54, locals := 240 } : Room)) (k' := 1) (n' := 6) Q.1 (c_X9_hear_1 (xl X) (xw X) hst9 hw hc ha0 c1) mp_X9_hear wm_740 ha0 rfl rfl (Nat.le_of_ble_eq_true rfl) rfl rfl (Nat.le_of_ble_eq_true rfl) dL_hear_7 ⟨by decide, by decide⟩ ⟨Nat.le_of_ble_eq_true rfl, Nat.le_of_ble_eq_true rfl⟩ rfl rfl (fun E9 σ9 hE9 => ?_) (fun _ _ h => (h : False).elim)
    rw [hE9.1, hE9.2]
    refine ⟨15, ⟨[], (⟨0, 12, 15, 24⟩ : ExceptionTableEntry), [(⟨0, 12, 19, 15⟩ : ExceptionTableEntry)], "java/lang/IndexOutOfBoundsException", htab, (fun _ z => nomatch z), by decide, by decide, wm_556, by decide +kernel, rfl⟩, fun q9 => ?_⟩
    refine j_astore (pc := 15) C [(5, .ref q9), (0, .ref a0), (1, .int x), (2, .int c), (3, .int p), (4, .ref o)] dL_hear_15 (by decide) rfl ?_
    refine j_iconst (pc := 17) C (nI 1) dL_hear_17 (by decide) ?_
    exact j_ireturn (pc := 18) C Q dL_hear_18 (Nat.le_of_ble_eq_true rfl) (Nat.le_of_ble_eq_true rfl) (by rw [hs]; exact ⟨rfl, show (1 : Nat) < 4 by decide, fun z => absurd z (show ¬ (1 : Nat) = 0 by decide), hw, hc, Fr.rf⟩)
  · obtain ⟨b1, b2, b3⟩ := and3 c1
    obtain ⟨n1, n2, n3⟩ := isLex_t b1
    obtain ⟨m1, m2⟩ := inI_t b2
    obtain ⟨r1, r2⟩ := inI_t b3
    refine j_eq rfl (lv' := [(0, .ref a0), (1, .int (nI (xN x))), (2, .int c), (3, .int p), (4, .ref o)]) (by rw [← n3]) rfl ?_
    refine j_eq rfl (lv' := [(0, .ref a0), (1, .int (nI (xN x))), (2, .int (nI (xN c))), (3, .int p), (4, .ref o)]) (by rw [← m2]) rfl ?_
    refine j_eq rfl (lv' := [(0, .ref a0), (1, .int (nI (xN x))), (2, .int (nI (xN c))), (3, .int (nI (xN p))), (4, .ref o)]) (by rw [← r2]) rfl ?_
    by_cases c2 : nW S = 40
    · have hs : s_hear S x c p = (2, 0, S) := (if_neg c1).trans (if_pos c2)
      refine j_aload (pc := 0) C dL_hear_0 4 rfl ?_
      refine j_iconst (pc := 2) C (nI 0) dL_hear_2 (by decide) ?_
      refine j_aload_n (pc := 3) C dL_hear_3 rfl 0 rfl ?_
      refine j_iload_n (pc := 4) C dL_hear_4 rfl 1 rfl ?_
      refine j_iload_n (pc := 5) C dL_hear_5 rfl 2 rfl ?_
      refine j_iload_n (pc := 6) C dL_hear_6 rfl 3 rfl ?_
      refine j_callVC (pc := 7) C [.int (nI (xN x)), .int (nI (xN c)), .int (nI (xN p))] [.int (nI 0), .ref o] (rm0 := ({ frames := 9, cells := 2, slots := 54, locals := 240 } : Room)) (k' := 1) (n' := 6) Q.1 (c_X9_hear_2 (xl X) (xw X) hst9 hw hc ha0 n1 n2 m1 r1 c2) mp_X9_hear wm_740 ha0 rfl rfl (Nat.le_of_ble_eq_true rfl) rfl rfl (Nat.le_of_ble_eq_true rfl) dL_hear_7 ⟨by decide, by decide⟩ ⟨Nat.le_of_ble_eq_true rfl, Nat.le_of_ble_eq_true rfl⟩ rfl rfl (fun E9 σ9 hE9 => ?_) (fun _ _ h => (h : False).elim)
      rw [hE9.1, hE9.2]
      refine ⟨19, ⟨[(⟨0, 12, 15, 24⟩ : ExceptionTableEntry)], (⟨0, 12, 19, 15⟩ : ExceptionTableEntry), [], "java/lang/IllegalStateException", htab, (List.forall_mem_cons.mpr ⟨Or.inr ⟨by decide, "java/lang/IndexOutOfBoundsException", wm_556, by decide +kernel⟩, (fun _ z => nomatch z)⟩), by decide, by decide, wm_372, by decide +kernel, rfl⟩, fun q9 => ?_⟩
      refine j_astore (pc := 19) C [(5, .ref q9), (0, .ref a0), (1, .int (nI (xN x))), (2, .int (nI (xN c))), (3, .int (nI (xN p))), (4, .ref o)] dL_hear_19 (by decide) rfl ?_
      refine j_iconst (pc := 21) C (nI 2) dL_hear_21 (by decide) ?_
      exact j_ireturn (pc := 22) C Q dL_hear_22 (Nat.le_of_ble_eq_true rfl) (Nat.le_of_ble_eq_true rfl) (by rw [hs]; exact ⟨rfl, show (2 : Nat) < 4 by decide, fun z => absurd z (show ¬ (2 : Nat) = 0 by decide), hw, hc, Fr.rf⟩)
    · have hs : s_hear S x c p = (0, nI (nW S), S_word (noDraft S) (xN x) (xN c) (xN p) (dr S)) := (if_neg c1).trans (if_neg c2)
      have h5 : nW S < 40 := Nat.lt_of_le_of_ne gW c2
      refine j_aload (pc := 0) C dL_hear_0 4 rfl ?_
      refine j_iconst (pc := 2) C (nI 0) dL_hear_2 (by decide) ?_
      refine j_aload_n (pc := 3) C dL_hear_3 rfl 0 rfl ?_
      refine j_iload_n (pc := 4) C dL_hear_4 rfl 1 rfl ?_
      refine j_iload_n (pc := 5) C dL_hear_5 rfl 2 rfl ?_
      refine j_iload_n (pc := 6) C dL_hear_6 rfl 3 rfl ?_
      refine j_callV (pc := 7) C [.int (nI (xN x)), .int (nI (xN c)), .int (nI (xN p))] [.int (nI 0), .ref o] (rm0 := ({ frames := 9, cells := 2, slots := 54, locals := 240 } : Room)) (k' := 2) (n' := 54) Q.1 (c_X9_hear_0 (xl X) (xw X) hw hc ha0 n1 n2 m1 r1 h5) mp_X9_hear wm_740 ha0 rfl rfl (by decide) rfl rfl (Nat.le_of_ble_eq_true rfl) dL_hear_7 ⟨by decide, by decide⟩ ⟨Nat.le_of_ble_eq_true rfl, Nat.le_of_ble_eq_true rfl⟩ rfl rfl (fun v9 σ1 hp9 => ?_)
      obtain ⟨rfl, hc1, hF1⟩ := hp9
      show J X 2 54 σ1 [(0, .ref a0), (1, .int (nI (xN x))), (2, .int (nI (xN c))), (3, .int (nI (xN p))), (4, .ref o)] [.int (nI (nW S)), .int (nI 0), .ref o] 10
      refine j_i2l (pc := 10) C dL_hear_10 ?_
      refine j_last (pc := 11) C (p := 0) (M := 1) (hF1.at ho) rfl ((hF1.len ho.1).trans hN) (by decide) (by decide) dL_hear_11 ?_
      refine j_goto (pc := 12) C 23 dL_hear_12 (by decide) ?_
      refine j_iconst (pc := 23) C (nI 0) dL_hear_23 (by decide) ?_
      exact j_ireturn (pc := 24) C Q dL_hear_24 (Nat.le_of_ble_eq_true rfl) (Nat.le_of_ble_eq_true rfl) (by rw [hs]; exact ⟨rfl, show (0 : Nat) < 4 by decide, fun _ => sL_eq, (hw.noDraft.word n1 n2 m1 r1 (WF_dr hw) h5), CI.out hc1 (hw.noDraft.word n1 n2 m1 r1 (WF_dr hw) h5), out_fr hF1⟩)
set_option maxHeartbeats 4000000 in
set_option maxRecDepth 100000 in
theorem w_correct (L9 : Launch) (w9 : Wd) (hst9 : L9.stackTraces = false) {σ : HS} {S : SP} (hw : WF S) (hc : CI S σ) {a0 : Nat} (ha0 : At σ (9, 0) a0) {o : Nat} (ho : At σ (12, 300) o) (hN : hN σ 12 300 = 1) (x : Int32) : MW L9 w9 yL_correct cL_correct 4 (some .int) [(0, 16, 19, 24)] ({ frames := 8, cells := 1, slots := 6, locals := 132 } : Room) [.ref a0, .int x, .ref o] σ (fun a9 σ' => a9 = some (.int (nI (s_correct S x).1)) ∧ (s_correct S x).1 < 4 ∧ (∃ d, (s_correct S x).2.1 = bI d ∧ ((s_correct S x).1 = 0 → hL σ' 768 300 0 = lN d.toNat)) ∧ WF (s_correct S x).2.2 ∧ CI (s_correct S x).2.2 σ' ∧ Fr tgV σ σ') := by
  refine MW.of (by decide +kernel) (Nat.le_of_ble_eq_true rfl) (fun X hX1 hX2 C Q htab => ?_)
  subst hX1; subst hX2
  show J X 0 0 σ [(0, .ref a0), (1, .int x), (2, .ref o)] [] 0
  obtain ⟨hp, he, hx, hf9, hd⟩ := id hc
  obtain ⟨z1, z2, z3, z4⟩ := id hf9
  obtain ⟨ef, e1, e2⟩ := id he
  have gS := hw.1.1
  have gC := hw.1.2.2.2.1
  have gR := hw.2.1.1
  have gL := hw.2.2.1.1
  have gW := hw.2.2.2.1.1
  have gD := hw.2.2.2.2.1
  by_cases c1 : isWrd S x = false
  · have hs : s_correct S x = (1, 0, S) := if_pos c1
    refine j_aload_n (pc := 0) C dL_correct_0 rfl 2 rfl ?_
    refine j_iconst (pc := 1) C (nI 0) dL_correct_1 (by decide) ?_
    refine j_aload_n (pc := 2) C dL_correct_2 rfl 0 rfl ?_
    refine j_iload_n (pc := 3) C dL_correct_3 rfl 1 rfl ?_
    refine j_callVC (pc := 4) C [.int x] [.int (nI 0), .ref o] (rm0 := ({ frames := 8, cells := 1, slots := 6, locals := 132 } : Room)) (k' := 1) (n' := 6) Q.1 (c_X9_correct_1 (xl X) (xw X) hst9 hw hc ha0 c1) mp_X9_correct wm_784 ha0 rfl rfl (Nat.le_of_ble_eq_true rfl) rfl rfl (Nat.le_of_ble_eq_true rfl) dL_correct_4 ⟨by decide, by decide⟩ ⟨Nat.le_of_ble_eq_true rfl, Nat.le_of_ble_eq_true rfl⟩ rfl rfl (fun E9 σ9 hE9 => ?_) (fun _ _ h => (h : False).elim)
    rw [hE9.1, hE9.2]
    refine ⟨19, ⟨[], (⟨0, 16, 19, 24⟩ : ExceptionTableEntry), [], "java/lang/IndexOutOfBoundsException", htab, (fun _ z => nomatch z), by decide, by decide, wm_556, by decide +kernel, rfl⟩, fun q9 => ?_⟩
    refine j_astore_n (pc := 19) C [(3, .ref q9), (0, .ref a0), (1, .int x), (2, .ref o)] dL_correct_19 rfl (by decide) rfl ?_
    refine j_iconst (pc := 20) C (nI 1) dL_correct_20 (by decide) ?_
    exact j_ireturn (pc := 21) C Q dL_correct_21 (Nat.le_of_ble_eq_true rfl) (Nat.le_of_ble_eq_true rfl) (by rw [hs]; exact ⟨rfl, show (1 : Nat) < 4 by decide, ⟨false, rfl, fun z => absurd z (show ¬ (1 : Nat) = 0 by decide)⟩, hw, hc, Fr.rf⟩)
  · obtain ⟨n1, n2, n3⟩ := isWrd_t (ts_nf c1)
    refine j_eq rfl (lv' := [(0, .ref a0), (1, .int (nI (xN x))), (2, .ref o)]) (by rw [← n3]) rfl ?_
    have hs : s_correct S x = (0, bI (decide (dr S ≠ hr S (xN x))), zR (noDraft S) 768 424 (xN x) (some (dr S))) := if_neg c1
    refine j_aload_n (pc := 0) C dL_correct_0 rfl 2 rfl ?_
    refine j_iconst (pc := 1) C (nI 0) dL_correct_1 (by decide) ?_
    refine j_aload_n (pc := 2) C dL_correct_2 rfl 0 rfl ?_
    refine j_iload_n (pc := 3) C dL_correct_3 rfl 1 rfl ?_
    refine j_callV (pc := 4) C [.int (nI (xN x))] [.int (nI 0), .ref o] (rm0 := ({ frames := 8, cells := 1, slots := 6, locals := 132 } : Room)) (k' := 0) (n' := 0) Q.1 (c_X9_correct_0 (xl X) (xw X) hw hc ha0 n1 n2) mp_X9_correct wm_784 ha0 rfl rfl (by decide) rfl rfl (Nat.le_of_ble_eq_true rfl) dL_correct_4 ⟨by decide, by decide⟩ ⟨Nat.le_of_ble_eq_true rfl, Nat.le_of_ble_eq_true rfl⟩ rfl rfl (fun v9 σ1 hp9 => ?_)
    obtain ⟨rfl, hc1, hF1⟩ := hp9
    show J X 0 0 σ1 [(0, .ref a0), (1, .int (nI (xN x))), (2, .ref o)] [.int (bI (decide (dr S ≠ hr S (xN x)))), .int (nI 0), .ref o] 7
    refine jb_if_eq (pc := 7) C 14 (b := decide (dr S ≠ hr S (xN x))) dL_correct_7 (by decide) (fun k1 => ?_) (fun k1 => ?_)
    · refine j_lconst (pc := 14) C (lN 0) dL_correct_14 (by decide) ?_
      refine j_last (pc := 15) C (p := 0) (M := 1) (hF1.at ho) rfl ((hF1.len ho.1).trans hN) (by decide) (by decide) dL_correct_15 ?_
      refine j_goto (pc := 16) C 22 dL_correct_16 (by decide) ?_
      refine j_iconst (pc := 22) C (nI 0) dL_correct_22 (by decide) ?_
      exact j_ireturn (pc := 23) C Q dL_correct_23 (Nat.le_of_ble_eq_true rfl) (Nat.le_of_ble_eq_true rfl) (by rw [hs]; exact ⟨rfl, show (0 : Nat) < 4 by decide, ⟨decide (dr S ≠ hr S (xN x)), rfl, fun _ => by rw [k1]; exact sL_eq⟩, (hw.noDraft.wform (WF_dr hw)), CI.out hc1 (hw.noDraft.wform (WF_dr hw)), out_fr hF1⟩)
    · refine j_lconst (pc := 10) C (lN 1) dL_correct_10 (by decide) ?_
      refine j_goto (pc := 11) C 15 dL_correct_11 (by decide) ?_
      refine j_last (pc := 15) C (p := 0) (M := 1) (hF1.at ho) rfl ((hF1.len ho.1).trans hN) (by decide) (by decide) dL_correct_15 ?_
      refine j_goto (pc := 16) C 22 dL_correct_16 (by decide) ?_
      refine j_iconst (pc := 22) C (nI 0) dL_correct_22 (by decide) ?_
      exact j_ireturn (pc := 23) C Q dL_correct_23 (Nat.le_of_ble_eq_true rfl) (Nat.le_of_ble_eq_true rfl) (by rw [hs]; exact ⟨rfl, show (0 : Nat) < 4 by decide, ⟨decide (dr S ≠ hr S (xN x)), rfl, fun _ => by rw [k1]; exact sL_eq⟩, (hw.noDraft.wform (WF_dr hw)), CI.out hc1 (hw.noDraft.wform (WF_dr hw)), out_fr hF1⟩)
set_option maxHeartbeats 4000000 in
set_option maxRecDepth 100000 in
theorem w_forget (L9 : Launch) (w9 : Wd) (hst9 : L9.stackTraces = false) {σ : HS} {S : SP} (hw : WF S) (hc : CI S σ) {a0 : Nat} (ha0 : At σ (9, 0) a0) {o : Nat} (ho : At σ (12, 300) o) (hN : hN σ 12 300 = 1) (x : Int32) : MW L9 w9 yL_forget cL_forget 4 (some .int) [(0, 9, 12, 24)] ({ frames := 8, cells := 1, slots := 6, locals := 129 } : Room) [.ref a0, .int x, .ref o] σ (fun a9 σ' => a9 = some (.int (nI (s_forget S x).1)) ∧ (s_forget S x).1 < 4 ∧ ((s_forget S x).1 = 0 → hL σ' 768 300 0 = (s_forget S x).2.1.toInt64) ∧ WF (s_forget S x).2.2 ∧ CI (s_forget S x).2.2 σ' ∧ Fr tgV σ σ') := by
  refine MW.of (by decide +kernel) (Nat.le_of_ble_eq_true rfl) (fun X hX1 hX2 C Q htab => ?_)
  subst hX1; subst hX2
  show J X 0 0 σ [(0, .ref a0), (1, .int x), (2, .ref o)] [] 0
  obtain ⟨hp, he, hx, hf9, hd⟩ := id hc
  obtain ⟨z1, z2, z3, z4⟩ := id hf9
  obtain ⟨ef, e1, e2⟩ := id he
  have gS := hw.1.1
  have gC := hw.1.2.2.2.1
  have gR := hw.2.1.1
  have gL := hw.2.2.1.1
  have gW := hw.2.2.2.1.1
  have gD := hw.2.2.2.2.1
  by_cases c1 : isWrd S x = false
  · have hs : s_forget S x = (1, 0, S) := if_pos c1
    refine j_aload_n (pc := 0) C dL_forget_0 rfl 2 rfl ?_
    refine j_iconst (pc := 1) C (nI 0) dL_forget_1 (by decide) ?_
    refine j_aload_n (pc := 2) C dL_forget_2 rfl 0 rfl ?_
    refine j_iload_n (pc := 3) C dL_forget_3 rfl 1 rfl ?_
    refine j_callVC (pc := 4) C [.int x] [.int (nI 0), .ref o] (rm0 := ({ frames := 8, cells := 1, slots := 6, locals := 129 } : Room)) (k' := 1) (n' := 6) Q.1 (c_X9_forget_1 (xl X) (xw X) hst9 hw hc ha0 c1) mp_X9_forget wm_795 ha0 rfl rfl (Nat.le_of_ble_eq_true rfl) rfl rfl (Nat.le_of_ble_eq_true rfl) dL_forget_4 ⟨by decide, by decide⟩ ⟨Nat.le_of_ble_eq_true rfl, Nat.le_of_ble_eq_true rfl⟩ rfl rfl (fun E9 σ9 hE9 => ?_) (fun _ _ h => (h : False).elim)
    rw [hE9.1, hE9.2]
    refine ⟨12, ⟨[], (⟨0, 9, 12, 24⟩ : ExceptionTableEntry), [], "java/lang/IndexOutOfBoundsException", htab, (fun _ z => nomatch z), by decide, by decide, wm_556, by decide +kernel, rfl⟩, fun q9 => ?_⟩
    refine j_astore_n (pc := 12) C [(3, .ref q9), (0, .ref a0), (1, .int x), (2, .ref o)] dL_forget_12 rfl (by decide) rfl ?_
    refine j_iconst (pc := 13) C (nI 1) dL_forget_13 (by decide) ?_
    exact j_ireturn (pc := 14) C Q dL_forget_14 (Nat.le_of_ble_eq_true rfl) (Nat.le_of_ble_eq_true rfl) (by rw [hs]; exact ⟨rfl, show (1 : Nat) < 4 by decide, fun z => absurd z (show ¬ (1 : Nat) = 0 by decide), hw, hc, Fr.rf⟩)
  · obtain ⟨n1, n2, n3⟩ := isWrd_t (ts_nf c1)
    refine j_eq rfl (lv' := [(0, .ref a0), (1, .int (nI (xN x))), (2, .ref o)]) (by rw [← n3]) rfl ?_
    have hs : s_forget S x = (0, nI (heards (zN S 832 25 (xN x) 0) (nW S)), zN S 832 25 (xN x) 0) := if_neg c1
    refine j_aload_n (pc := 0) C dL_forget_0 rfl 2 rfl ?_
    refine j_iconst (pc := 1) C (nI 0) dL_forget_1 (by decide) ?_
    refine j_aload_n (pc := 2) C dL_forget_2 rfl 0 rfl ?_
    refine j_iload_n (pc := 3) C dL_forget_3 rfl 1 rfl ?_
    refine j_callV (pc := 4) C [.int (nI (xN x))] [.int (nI 0), .ref o] (rm0 := ({ frames := 8, cells := 1, slots := 6, locals := 129 } : Room)) (k' := 0) (n' := 0) Q.1 (c_X9_forget_0 (xl X) (xw X) hw hc ha0 n1 n2) mp_X9_forget wm_795 ha0 rfl rfl (by decide) rfl rfl (Nat.le_of_ble_eq_true rfl) dL_forget_4 ⟨by decide, by decide⟩ ⟨Nat.le_of_ble_eq_true rfl, Nat.le_of_ble_eq_true rfl⟩ rfl rfl (fun v9 σ1 hp9 => ?_)
    obtain ⟨rfl, hc1, hF1⟩ := hp9
    show J X 0 0 σ1 [(0, .ref a0), (1, .int (nI (xN x))), (2, .ref o)] [.int (nI (heards (zN S 832 25 (xN x) 0) (nW S))), .int (nI 0), .ref o] 7
    refine j_i2l (pc := 7) C dL_forget_7 ?_
    refine j_last (pc := 8) C (p := 0) (M := 1) (hF1.at ho) rfl ((hF1.len ho.1).trans hN) (by decide) (by decide) dL_forget_8 ?_
    refine j_goto (pc := 9) C 15 dL_forget_9 (by decide) ?_
    refine j_iconst (pc := 15) C (nI 0) dL_forget_15 (by decide) ?_
    exact j_ireturn (pc := 16) C Q dL_forget_16 (Nat.le_of_ble_eq_true rfl) (Nat.le_of_ble_eq_true rfl) (by rw [hs]; exact ⟨rfl, show (0 : Nat) < 4 by decide, fun _ => sL_eq, hw.gone, CI.out hc1 hw.gone, out_fr hF1⟩)
set_option maxHeartbeats 4000000 in
set_option maxRecDepth 100000 in
theorem w_except (L9 : Launch) (w9 : Wd) (hst9 : L9.stackTraces = false) {σ : HS} {S : SP} (hw : WF S) (hc : CI S σ) {a0 : Nat} (ha0 : At σ (9, 0) a0) {o : Nat} (ho : At σ (12, 300) o) (hN : hN σ 12 300 = 1) (x : Int32) (c : Int32) (b : Bool) : MW L9 w9 yL_except cL_except 6 (some .int) [(0, 19, 22, 24)] ({ frames := 8, cells := 1, slots := 6, locals := 133 } : Room) [.ref a0, .int x, .int c, .int (bI b), .ref o] σ (fun a9 σ' => a9 = some (.int (nI (s_except S x c b).1)) ∧ (s_except S x c b).1 < 4 ∧ (∃ d, (s_except S x c b).2.1 = bI d ∧ ((s_except S x c b).1 = 0 → hL σ' 768 300 0 = lN d.toNat)) ∧ WF (s_except S x c b).2.2 ∧ CI (s_except S x c b).2.2 σ' ∧ Fr tgV σ σ') := by
  refine MW.of (by decide +kernel) (Nat.le_of_ble_eq_true rfl) (fun X hX1 hX2 C Q htab => ?_)
  subst hX1; subst hX2
  show J X 0 0 σ [(0, .ref a0), (1, .int x), (2, .int c), (3, .int (bI b)), (4, .ref o)] [] 0
  obtain ⟨hp, he, hx, hf9, hd⟩ := id hc
  obtain ⟨z1, z2, z3, z4⟩ := id hf9
  obtain ⟨ef, e1, e2⟩ := id he
  have gS := hw.1.1
  have gC := hw.1.2.2.2.1
  have gR := hw.2.1.1
  have gL := hw.2.2.1.1
  have gW := hw.2.2.2.1.1
  have gD := hw.2.2.2.2.1
  by_cases c1 : (isLex S x && inI c 8) = false
  · have hs : s_except S x c b = (1, 0, S) := if_pos c1
    refine j_aload (pc := 0) C dL_except_0 4 rfl ?_
    refine j_iconst (pc := 2) C (nI 0) dL_except_2 (by decide) ?_
    refine j_aload_n (pc := 3) C dL_except_3 rfl 0 rfl ?_
    refine j_iload_n (pc := 4) C dL_except_4 rfl 1 rfl ?_
    refine j_iload_n (pc := 5) C dL_except_5 rfl 2 rfl ?_
    refine j_iload_n (pc := 6) C dL_except_6 rfl 3 rfl ?_
    refine j_callVC (pc := 7) C [.int x, .int c, .int (bI b)] [.int (nI 0), .ref o] (rm0 := ({ frames := 8, cells := 1, slots := 6, locals := 133 } : Room)) (k' := 1) (n' := 6) Q.1 (c_X9_except_1 (xl X) (xw X) hst9 hw hc ha0 c1) mp_X9_except wm_806 ha0 rfl rfl (Nat.le_of_ble_eq_true rfl) rfl rfl (Nat.le_of_ble_eq_true rfl) dL_except_7 ⟨by decide, by decide⟩ ⟨Nat.le_of_ble_eq_true rfl, Nat.le_of_ble_eq_true rfl⟩ rfl rfl (fun E9 σ9 hE9 => ?_) (fun _ _ h => (h : False).elim)
    rw [hE9.1, hE9.2]
    refine ⟨22, ⟨[], (⟨0, 19, 22, 24⟩ : ExceptionTableEntry), [], "java/lang/IndexOutOfBoundsException", htab, (fun _ z => nomatch z), by decide, by decide, wm_556, by decide +kernel, rfl⟩, fun q9 => ?_⟩
    refine j_astore (pc := 22) C [(5, .ref q9), (0, .ref a0), (1, .int x), (2, .int c), (3, .int (bI b)), (4, .ref o)] dL_except_22 (by decide) rfl ?_
    refine j_iconst (pc := 24) C (nI 1) dL_except_24 (by decide) ?_
    exact j_ireturn (pc := 25) C Q dL_except_25 (Nat.le_of_ble_eq_true rfl) (Nat.le_of_ble_eq_true rfl) (by rw [hs]; exact ⟨rfl, show (1 : Nat) < 4 by decide, ⟨false, rfl, fun z => absurd z (show ¬ (1 : Nat) = 0 by decide)⟩, hw, hc, Fr.rf⟩)
  · obtain ⟨b1, b2⟩ := and2 c1
    obtain ⟨n1, n2, n3⟩ := isLex_t b1
    obtain ⟨m1, m2⟩ := inI_t b2
    refine j_eq rfl (lv' := [(0, .ref a0), (1, .int (nI (xN x))), (2, .int c), (3, .int (bI b)), (4, .ref o)]) (by rw [← n3]) rfl ?_
    refine j_eq rfl (lv' := [(0, .ref a0), (1, .int (nI (xN x))), (2, .int (nI (xN c))), (3, .int (bI b)), (4, .ref o)]) (by rw [← m2]) rfl ?_
    cases b with
    | false =>
      show J X 0 0 σ [(0, .ref a0), (1, .int (nI (xN x))), (2, .int (nI (xN c))), (3, .int (bI false)), (4, .ref o)] [] 0
      have hs : s_except S x c false = (0, bI (xc9 S (xN x) (xN c)).isSome, zR S 768 412 (8 * xN x + xN c) none) := if_neg c1
      refine j_aload (pc := 0) C dL_except_0 4 rfl ?_
      refine j_iconst (pc := 2) C (nI 0) dL_except_2 (by decide) ?_
      refine j_aload_n (pc := 3) C dL_except_3 rfl 0 rfl ?_
      refine j_iload_n (pc := 4) C dL_except_4 rfl 1 rfl ?_
      refine j_iload_n (pc := 5) C dL_except_5 rfl 2 rfl ?_
      refine j_iload_n (pc := 6) C dL_except_6 rfl 3 rfl ?_
      refine j_callV (pc := 7) C [.int (nI (xN x)), .int (nI (xN c)), .int (bI false)] [.int (nI 0), .ref o] (rm0 := ({ frames := 8, cells := 1, slots := 6, locals := 133 } : Room)) (k' := 0) (n' := 0) Q.1 (c_X9_except_f (xl X) (xw X) hw hc ha0 n1 n2 m1) mp_X9_except wm_806 ha0 rfl rfl (by decide) rfl rfl (Nat.le_of_ble_eq_true rfl) dL_except_7 ⟨by decide, by decide⟩ ⟨Nat.le_of_ble_eq_true rfl, Nat.le_of_ble_eq_true rfl⟩ rfl rfl (fun v9 σ1 hp9 => ?_)
      obtain ⟨rfl, hc1, hF1⟩ := hp9
      show J X 0 0 σ1 [(0, .ref a0), (1, .int (nI (xN x))), (2, .int (nI (xN c))), (3, .int (bI false)), (4, .ref o)] [.int (bI ((xc9 S (xN x) (xN c)).isSome)), .int (nI 0), .ref o] 10
      refine jb_if_eq (pc := 10) C 17 (b := (xc9 S (xN x) (xN c)).isSome) dL_except_10 (by decide) (fun k1 => ?_) (fun k1 => ?_)
      · refine j_lconst (pc := 17) C (lN 0) dL_except_17 (by decide) ?_
        refine j_last (pc := 18) C (p := 0) (M := 1) (hF1.at ho) rfl ((hF1.len ho.1).trans hN) (by decide) (by decide) dL_except_18 ?_
        refine j_goto (pc := 19) C 26 dL_except_19 (by decide) ?_
        refine j_iconst (pc := 26) C (nI 0) dL_except_26 (by decide) ?_
        exact j_ireturn (pc := 27) C Q dL_except_27 (Nat.le_of_ble_eq_true rfl) (Nat.le_of_ble_eq_true rfl) (by rw [hs]; exact ⟨rfl, show (0 : Nat) < 4 by decide, ⟨(xc9 S (xN x) (xN c)).isSome, rfl, fun _ => by rw [k1]; exact sL_eq⟩, (hw.exc (fun r e => by cases e) n1 m1), CI.out hc1 (hw.exc (fun r e => by cases e) n1 m1), out_fr hF1⟩)
      · refine j_lconst (pc := 13) C (lN 1) dL_except_13 (by decide) ?_
        refine j_goto (pc := 14) C 18 dL_except_14 (by decide) ?_
        refine j_last (pc := 18) C (p := 0) (M := 1) (hF1.at ho) rfl ((hF1.len ho.1).trans hN) (by decide) (by decide) dL_except_18 ?_
        refine j_goto (pc := 19) C 26 dL_except_19 (by decide) ?_
        refine j_iconst (pc := 26) C (nI 0) dL_except_26 (by decide) ?_
        exact j_ireturn (pc := 27) C Q dL_except_27 (Nat.le_of_ble_eq_true rfl) (Nat.le_of_ble_eq_true rfl) (by rw [hs]; exact ⟨rfl, show (0 : Nat) < 4 by decide, ⟨(xc9 S (xN x) (xN c)).isSome, rfl, fun _ => by rw [k1]; exact sL_eq⟩, (hw.exc (fun r e => by cases e) n1 m1), CI.out hc1 (hw.exc (fun r e => by cases e) n1 m1), out_fr hF1⟩)
    | true =>
      show J X 0 0 σ [(0, .ref a0), (1, .int (nI (xN x))), (2, .int (nI (xN c))), (3, .int (bI true)), (4, .ref o)] [] 0
      have hs : s_except S x c true = (0, bI (xc9 S (xN x) (xN c)).isSome, zR (noDraft S) 768 412 (8 * xN x + xN c) (some (dr S))) := if_neg c1
      refine j_aload (pc := 0) C dL_except_0 4 rfl ?_
      refine j_iconst (pc := 2) C (nI 0) dL_except_2 (by decide) ?_
      refine j_aload_n (pc := 3) C dL_except_3 rfl 0 rfl ?_
      refine j_iload_n (pc := 4) C dL_except_4 rfl 1 rfl ?_
      refine j_iload_n (pc := 5) C dL_except_5 rfl 2 rfl ?_
      refine j_iload_n (pc := 6) C dL_except_6 rfl 3 rfl ?_
      refine j_callV (pc := 7) C [.int (nI (xN x)), .int (nI (xN c)), .int (bI true)] [.int (nI 0), .ref o] (rm0 := ({ frames := 8, cells := 1, slots := 6, locals := 133 } : Room)) (k' := 0) (n' := 0) Q.1 (c_X9_except_t (xl X) (xw X) hw hc ha0 n1 n2 m1) mp_X9_except wm_806 ha0 rfl rfl (by decide) rfl rfl (Nat.le_of_ble_eq_true rfl) dL_except_7 ⟨by decide, by decide⟩ ⟨Nat.le_of_ble_eq_true rfl, Nat.le_of_ble_eq_true rfl⟩ rfl rfl (fun v9 σ1 hp9 => ?_)
      obtain ⟨rfl, hc1, hF1⟩ := hp9
      show J X 0 0 σ1 [(0, .ref a0), (1, .int (nI (xN x))), (2, .int (nI (xN c))), (3, .int (bI true)), (4, .ref o)] [.int (bI ((xc9 S (xN x) (xN c)).isSome)), .int (nI 0), .ref o] 10
      refine jb_if_eq (pc := 10) C 17 (b := (xc9 S (xN x) (xN c)).isSome) dL_except_10 (by decide) (fun k1 => ?_) (fun k1 => ?_)
      · refine j_lconst (pc := 17) C (lN 0) dL_except_17 (by decide) ?_
        refine j_last (pc := 18) C (p := 0) (M := 1) (hF1.at ho) rfl ((hF1.len ho.1).trans hN) (by decide) (by decide) dL_except_18 ?_
        refine j_goto (pc := 19) C 26 dL_except_19 (by decide) ?_
        refine j_iconst (pc := 26) C (nI 0) dL_except_26 (by decide) ?_
        exact j_ireturn (pc := 27) C Q dL_except_27 (Nat.le_of_ble_eq_true rfl) (Nat.le_of_ble_eq_true rfl) (by rw [hs]; exact ⟨rfl, show (0 : Nat) < 4 by decide, ⟨(xc9 S (xN x) (xN c)).isSome, rfl, fun _ => by rw [k1]; exact sL_eq⟩, (hw.noDraft.exc (fun r e => by cases e; exact WF_dr hw) n1 m1), CI.out hc1 (hw.noDraft.exc (fun r e => by cases e; exact WF_dr hw) n1 m1), out_fr hF1⟩)
      · refine j_lconst (pc := 13) C (lN 1) dL_except_13 (by decide) ?_
        refine j_goto (pc := 14) C 18 dL_except_14 (by decide) ?_
        refine j_last (pc := 18) C (p := 0) (M := 1) (hF1.at ho) rfl ((hF1.len ho.1).trans hN) (by decide) (by decide) dL_except_18 ?_
        refine j_goto (pc := 19) C 26 dL_except_19 (by decide) ?_
        refine j_iconst (pc := 26) C (nI 0) dL_except_26 (by decide) ?_
        exact j_ireturn (pc := 27) C Q dL_except_27 (Nat.le_of_ble_eq_true rfl) (Nat.le_of_ble_eq_true rfl) (by rw [hs]; exact ⟨rfl, show (0 : Nat) < 4 by decide, ⟨(xc9 S (xN x) (xN c)).isSome, rfl, fun _ => by rw [k1]; exact sL_eq⟩, (hw.noDraft.exc (fun r e => by cases e; exact WF_dr hw) n1 m1), CI.out hc1 (hw.noDraft.exc (fun r e => by cases e; exact WF_dr hw) n1 m1), out_fr hF1⟩)
set_option maxHeartbeats 4000000 in
set_option maxRecDepth 100000 in
theorem w_merge (L9 : Launch) (w9 : Wd) (hst9 : L9.stackTraces = false) {σ : HS} {S : SP} (hw : WF S) (hc : CI S σ) {a0 : Nat} (ha0 : At σ (9, 0) a0) {o : Nat} (ho : At σ (12, 300) o) (hN : hN σ 12 300 = 1) (x : Int32) (y : Int32) : MW L9 w9 yL_merge cL_merge 5 (some .int) [(0, 10, 13, 24), (0, 10, 17, 13)] ({ frames := 10, cells := 4, slots := 64, locals := 262 } : Room) [.ref a0, .int x, .int y, .ref o] σ (fun a9 σ' => a9 = some (.int (nI (s_merge S x y).1)) ∧ (s_merge S x y).1 < 4 ∧ ((s_merge S x y).1 = 0 → hL σ' 768 300 0 = (s_merge S x y).2.1.toInt64) ∧ WF (s_merge S x y).2.2 ∧ CI (s_merge S x y).2.2 σ' ∧ Fr tgV σ σ') := by
  refine MW.of (by decide +kernel) (Nat.le_of_ble_eq_true rfl) (fun X hX1 hX2 C Q htab => ?_)
  subst hX1; subst hX2
  show J X 0 0 σ [(0, .ref a0), (1, .int x), (2, .int y), (3, .ref o)] [] 0
  obtain ⟨hp, he, hx, hf9, hd⟩ := id hc
  obtain ⟨z1, z2, z3, z4⟩ := id hf9
  obtain ⟨ef, e1, e2⟩ := id he
  have gS := hw.1.1
  have gC := hw.1.2.2.2.1
  have gR := hw.2.1.1
  have gL := hw.2.2.1.1
  have gW := hw.2.2.2.1.1
  have gD := hw.2.2.2.2.1
  by_cases c1 : (isLex S x && isLex S y) = false
  · have hs : s_merge S x y = (1, 0, S) := if_pos c1
    refine j_aload_n (pc := 0) C dL_merge_0 rfl 3 rfl ?_
    refine j_iconst (pc := 1) C (nI 0) dL_merge_1 (by decide) ?_
    refine j_aload_n (pc := 2) C dL_merge_2 rfl 0 rfl ?_
    refine j_iload_n (pc := 3) C dL_merge_3 rfl 1 rfl ?_
    refine j_iload_n (pc := 4) C dL_merge_4 rfl 2 rfl ?_
    refine j_callVC (pc := 5) C [.int x, .int y] [.int (nI 0), .ref o] (rm0 := ({ frames := 10, cells := 4, slots := 64, locals := 262 } : Room)) (k' := 1) (n' := 6) Q.1 (c_X9_merge_1 (xl X) (xw X) hst9 hw hc ha0 c1) mp_X9_merge wm_817 ha0 rfl rfl (Nat.le_of_ble_eq_true rfl) rfl rfl (Nat.le_of_ble_eq_true rfl) dL_merge_5 ⟨by decide, by decide⟩ ⟨Nat.le_of_ble_eq_true rfl, Nat.le_of_ble_eq_true rfl⟩ rfl rfl (fun E9 σ9 hE9 => ?_) (fun _ _ h => (h : False).elim)
    rw [hE9.1, hE9.2]
    refine ⟨13, ⟨[], (⟨0, 10, 13, 24⟩ : ExceptionTableEntry), [(⟨0, 10, 17, 13⟩ : ExceptionTableEntry)], "java/lang/IndexOutOfBoundsException", htab, (fun _ z => nomatch z), by decide, by decide, wm_556, by decide +kernel, rfl⟩, fun q9 => ?_⟩
    refine j_astore (pc := 13) C [(4, .ref q9), (0, .ref a0), (1, .int x), (2, .int y), (3, .ref o)] dL_merge_13 (by decide) rfl ?_
    refine j_iconst (pc := 15) C (nI 1) dL_merge_15 (by decide) ?_
    exact j_ireturn (pc := 16) C Q dL_merge_16 (Nat.le_of_ble_eq_true rfl) (Nat.le_of_ble_eq_true rfl) (by rw [hs]; exact ⟨rfl, show (1 : Nat) < 4 by decide, fun z => absurd z (show ¬ (1 : Nat) = 0 by decide), hw, hc, Fr.rf⟩)
  · obtain ⟨b1, b2⟩ := and2 c1
    obtain ⟨n1, n2, n3⟩ := isLex_t b1
    obtain ⟨m1, m2, m3⟩ := isLex_t b2
    refine j_eq rfl (lv' := [(0, .ref a0), (1, .int (nI (xN x))), (2, .int y), (3, .ref o)]) (by rw [← n3]) rfl ?_
    refine j_eq rfl (lv' := [(0, .ref a0), (1, .int (nI (xN x))), (2, .int (nI (xN y))), (3, .ref o)]) (by rw [← m3]) rfl ?_
    by_cases c2 : xN x = xN y
    · have hs : s_merge S x y = (2, 0, S) := (if_neg c1).trans (if_pos c2)
      refine j_aload_n (pc := 0) C dL_merge_0 rfl 3 rfl ?_
      refine j_iconst (pc := 1) C (nI 0) dL_merge_1 (by decide) ?_
      refine j_aload_n (pc := 2) C dL_merge_2 rfl 0 rfl ?_
      refine j_iload_n (pc := 3) C dL_merge_3 rfl 1 rfl ?_
      refine j_iload_n (pc := 4) C dL_merge_4 rfl 2 rfl ?_
      refine j_callVC (pc := 5) C [.int (nI (xN x)), .int (nI (xN y))] [.int (nI 0), .ref o] (rm0 := ({ frames := 10, cells := 4, slots := 64, locals := 262 } : Room)) (k' := 1) (n' := 6) Q.1 (c_X9_merge_2y (xl X) (xw X) hst9 hw hc ha0 n1 n2 c2) mp_X9_merge wm_817 ha0 rfl rfl (Nat.le_of_ble_eq_true rfl) rfl rfl (Nat.le_of_ble_eq_true rfl) dL_merge_5 ⟨by decide, by decide⟩ ⟨Nat.le_of_ble_eq_true rfl, Nat.le_of_ble_eq_true rfl⟩ rfl rfl (fun E9 σ9 hE9 => ?_) (fun _ _ h => (h : False).elim)
      rw [hE9.1, hE9.2]
      refine ⟨17, ⟨[(⟨0, 10, 13, 24⟩ : ExceptionTableEntry)], (⟨0, 10, 17, 13⟩ : ExceptionTableEntry), [], "java/lang/IllegalArgumentException", htab, (List.forall_mem_cons.mpr ⟨Or.inr ⟨by decide, "java/lang/IndexOutOfBoundsException", wm_556, by decide +kernel⟩, (fun _ z => nomatch z)⟩), by decide, by decide, wm_371, by decide +kernel, rfl⟩, fun q9 => ?_⟩
      refine j_astore (pc := 17) C [(4, .ref q9), (0, .ref a0), (1, .int (nI (xN x))), (2, .int (nI (xN y))), (3, .ref o)] dL_merge_17 (by decide) rfl ?_
      refine j_iconst (pc := 19) C (nI 2) dL_merge_19 (by decide) ?_
      exact j_ireturn (pc := 20) C Q dL_merge_20 (Nat.le_of_ble_eq_true rfl) (Nat.le_of_ble_eq_true rfl) (by rw [hs]; exact ⟨rfl, show (2 : Nat) < 4 by decide, fun z => absurd z (show ¬ (2 : Nat) = 0 by decide), hw, hc, Fr.rf⟩)
    · have hs : s_merge S x y = (0, nI (moveN S (xN x) 255 (nW S)), S_merge S (xN x) (xN y)) := (if_neg c1).trans (if_neg c2)
      refine j_aload_n (pc := 0) C dL_merge_0 rfl 3 rfl ?_
      refine j_iconst (pc := 1) C (nI 0) dL_merge_1 (by decide) ?_
      refine j_aload_n (pc := 2) C dL_merge_2 rfl 0 rfl ?_
      refine j_iload_n (pc := 3) C dL_merge_3 rfl 1 rfl ?_
      refine j_iload_n (pc := 4) C dL_merge_4 rfl 2 rfl ?_
      refine j_callV (pc := 5) C [.int (nI (xN x)), .int (nI (xN y))] [.int (nI 0), .ref o] (rm0 := ({ frames := 10, cells := 4, slots := 64, locals := 262 } : Room)) (k' := 4) (n' := 64) Q.1 (c_X9_merge_0 (xl X) (xw X) hw hc ha0 n1 n2 m1 m2 c2) mp_X9_merge wm_817 ha0 rfl rfl (by decide) rfl rfl (Nat.le_of_ble_eq_true rfl) dL_merge_5 ⟨by decide, by decide⟩ ⟨Nat.le_of_ble_eq_true rfl, Nat.le_of_ble_eq_true rfl⟩ rfl rfl (fun v9 σ1 hp9 => ?_)
      obtain ⟨rfl, hc1, hF1⟩ := hp9
      show J X 4 64 σ1 [(0, .ref a0), (1, .int (nI (xN x))), (2, .int (nI (xN y))), (3, .ref o)] [.int (nI (moveN S (xN x) 255 (nW S))), .int (nI 0), .ref o] 8
      refine j_i2l (pc := 8) C dL_merge_8 ?_
      refine j_last (pc := 9) C (p := 0) (M := 1) (hF1.at ho) rfl ((hF1.len ho.1).trans hN) (by decide) (by decide) dL_merge_9 ?_
      refine j_goto (pc := 10) C 21 dL_merge_10 (by decide) ?_
      refine j_iconst (pc := 21) C (nI 0) dL_merge_21 (by decide) ?_
      exact j_ireturn (pc := 22) C Q dL_merge_22 (Nat.le_of_ble_eq_true rfl) (Nat.le_of_ble_eq_true rfl) (by rw [hs]; exact ⟨rfl, show (0 : Nat) < 4 by decide, fun _ => sL_eq, (hw.merge n1 m1 c2 n2 m2), CI.out hc1 (hw.merge n1 m1 c2 n2 m2), out_fr hF1⟩)
set_option maxHeartbeats 4000000 in
set_option maxRecDepth 100000 in
theorem w_split (L9 : Launch) (w9 : Wd) (hst9 : L9.stackTraces = false) {σ : HS} {S : SP} (hw : WF S) (hc : CI S σ) {a0 : Nat} (ha0 : At σ (9, 0) a0) {o : Nat} (ho : At σ (12, 300) o) (hN : hN σ 12 300 = 1) (x : Int32) (y : Int32) : MW L9 w9 yL_split cL_split 5 (some .int) [(0, 10, 13, 24), (0, 10, 17, 13), (0, 10, 21, 15)] ({ frames := 10, cells := 8, slots := 127, locals := 262 } : Room) [.ref a0, .int x, .int y, .ref o] σ (fun a9 σ' => a9 = some (.int (nI (s_split S x y).1)) ∧ (s_split S x y).1 < 4 ∧ ((s_split S x y).1 = 0 → hL σ' 768 300 0 = (s_split S x y).2.1.toInt64) ∧ WF (s_split S x y).2.2 ∧ CI (s_split S x y).2.2 σ' ∧ Fr tgV σ σ') := by
  refine MW.of (by decide +kernel) (Nat.le_of_ble_eq_true rfl) (fun X hX1 hX2 C Q htab => ?_)
  subst hX1; subst hX2
  show J X 0 0 σ [(0, .ref a0), (1, .int x), (2, .int y), (3, .ref o)] [] 0
  obtain ⟨hp, he, hx, hf9, hd⟩ := id hc
  obtain ⟨z1, z2, z3, z4⟩ := id hf9
  obtain ⟨ef, e1, e2⟩ := id he
  have gS := hw.1.1
  have gC := hw.1.2.2.2.1
  have gR := hw.2.1.1
  have gL := hw.2.2.1.1
  have gW := hw.2.2.2.1.1
  have gD := hw.2.2.2.2.1
  by_cases c1 : isLex S x = false
  · have hs : s_split S x y = (1, 0, S) := if_pos c1
    refine j_aload_n (pc := 0) C dL_split_0 rfl 3 rfl ?_
    refine j_iconst (pc := 1) C (nI 0) dL_split_1 (by decide) ?_
    refine j_aload_n (pc := 2) C dL_split_2 rfl 0 rfl ?_
    refine j_iload_n (pc := 3) C dL_split_3 rfl 1 rfl ?_
    refine j_iload_n (pc := 4) C dL_split_4 rfl 2 rfl ?_
    refine j_callVC (pc := 5) C [.int x, .int y] [.int (nI 0), .ref o] (rm0 := ({ frames := 10, cells := 8, slots := 127, locals := 262 } : Room)) (k' := 1) (n' := 6) Q.1 (c_X9_split_1 (xl X) (xw X) hst9 hw hc ha0 c1) mp_X9_split wm_880 ha0 rfl rfl (Nat.le_of_ble_eq_true rfl) rfl rfl (Nat.le_of_ble_eq_true rfl) dL_split_5 ⟨by decide, by decide⟩ ⟨Nat.le_of_ble_eq_true rfl, Nat.le_of_ble_eq_true rfl⟩ rfl rfl (fun E9 σ9 hE9 => ?_) (fun _ _ h => (h : False).elim)
    rw [hE9.1, hE9.2]
    refine ⟨13, ⟨[], (⟨0, 10, 13, 24⟩ : ExceptionTableEntry), [(⟨0, 10, 17, 13⟩ : ExceptionTableEntry), (⟨0, 10, 21, 15⟩ : ExceptionTableEntry)], "java/lang/IndexOutOfBoundsException", htab, (fun _ z => nomatch z), by decide, by decide, wm_556, by decide +kernel, rfl⟩, fun q9 => ?_⟩
    refine j_astore (pc := 13) C [(4, .ref q9), (0, .ref a0), (1, .int x), (2, .int y), (3, .ref o)] dL_split_13 (by decide) rfl ?_
    refine j_iconst (pc := 15) C (nI 1) dL_split_15 (by decide) ?_
    exact j_ireturn (pc := 16) C Q dL_split_16 (Nat.le_of_ble_eq_true rfl) (Nat.le_of_ble_eq_true rfl) (by rw [hs]; exact ⟨rfl, show (1 : Nat) < 4 by decide, fun z => absurd z (show ¬ (1 : Nat) = 0 by decide), hw, hc, Fr.rf⟩)
  · obtain ⟨n1, n2, n3⟩ := isLex_t (ts_nf c1)
    refine j_eq rfl (lv' := [(0, .ref a0), (1, .int (nI (xN x))), (2, .int y), (3, .ref o)]) (by rw [← n3]) rfl ?_
    by_cases c2 : (inI y 256 && decide (xN y ≠ 0)) = false
    · have hs : s_split S x y = (2, 0, S) := (if_neg c1).trans (if_pos c2)
      refine j_aload_n (pc := 0) C dL_split_0 rfl 3 rfl ?_
      refine j_iconst (pc := 1) C (nI 0) dL_split_1 (by decide) ?_
      refine j_aload_n (pc := 2) C dL_split_2 rfl 0 rfl ?_
      refine j_iload_n (pc := 3) C dL_split_3 rfl 1 rfl ?_
      refine j_iload_n (pc := 4) C dL_split_4 rfl 2 rfl ?_
      refine j_callVC (pc := 5) C [.int (nI (xN x)), .int y] [.int (nI 0), .ref o] (rm0 := ({ frames := 10, cells := 8, slots := 127, locals := 262 } : Room)) (k' := 1) (n' := 6) Q.1 (c_X9_split_2 (xl X) (xw X) hst9 hw hc ha0 n1 n2 c2) mp_X9_split wm_880 ha0 rfl rfl (Nat.le_of_ble_eq_true rfl) rfl rfl (Nat.le_of_ble_eq_true rfl) dL_split_5 ⟨by decide, by decide⟩ ⟨Nat.le_of_ble_eq_true rfl, Nat.le_of_ble_eq_true rfl⟩ rfl rfl (fun E9 σ9 hE9 => ?_) (fun _ _ h => (h : False).elim)
      rw [hE9.1, hE9.2]
      refine ⟨17, ⟨[(⟨0, 10, 13, 24⟩ : ExceptionTableEntry)], (⟨0, 10, 17, 13⟩ : ExceptionTableEntry), [(⟨0, 10, 21, 15⟩ : ExceptionTableEntry)], "java/lang/IllegalArgumentException", htab, (List.forall_mem_cons.mpr ⟨Or.inr ⟨by decide, "java/lang/IndexOutOfBoundsException", wm_556, by decide +kernel⟩, (fun _ z => nomatch z)⟩), by decide, by decide, wm_371, by decide +kernel, rfl⟩, fun q9 => ?_⟩
      refine j_astore (pc := 17) C [(4, .ref q9), (0, .ref a0), (1, .int (nI (xN x))), (2, .int y), (3, .ref o)] dL_split_17 (by decide) rfl ?_
      refine j_iconst (pc := 19) C (nI 2) dL_split_19 (by decide) ?_
      exact j_ireturn (pc := 20) C Q dL_split_20 (Nat.le_of_ble_eq_true rfl) (Nat.le_of_ble_eq_true rfl) (by rw [hs]; exact ⟨rfl, show (2 : Nat) < 4 by decide, fun z => absurd z (show ¬ (2 : Nat) = 0 by decide), hw, hc, Fr.rf⟩)
    · obtain ⟨b1, b2⟩ := and2 c2
      obtain ⟨m1, m2⟩ := inI_t b1
      have m3 : 1 ≤ xN y := Nat.one_le_iff_ne_zero.mpr (of_decide_eq_true b2)
      refine j_eq rfl (lv' := [(0, .ref a0), (1, .int (nI (xN x))), (2, .int (nI (xN y))), (3, .ref o)]) (by rw [← m2]) rfl ?_
      by_cases c3 : nL S = 16
      · have hs : s_split S x y = (3, 0, S) := (if_neg c1).trans ((if_neg c2).trans (if_pos c3))
        refine j_aload_n (pc := 0) C dL_split_0 rfl 3 rfl ?_
        refine j_iconst (pc := 1) C (nI 0) dL_split_1 (by decide) ?_
        refine j_aload_n (pc := 2) C dL_split_2 rfl 0 rfl ?_
        refine j_iload_n (pc := 3) C dL_split_3 rfl 1 rfl ?_
        refine j_iload_n (pc := 4) C dL_split_4 rfl 2 rfl ?_
        refine j_callVC (pc := 5) C [.int (nI (xN x)), .int (nI (xN y))] [.int (nI 0), .ref o] (rm0 := ({ frames := 10, cells := 8, slots := 127, locals := 262 } : Room)) (k' := 1) (n' := 6) Q.1 (c_X9_split_3 (xl X) (xw X) hst9 hw hc ha0 n1 n2 m3 m1 c3) mp_X9_split wm_880 ha0 rfl rfl (Nat.le_of_ble_eq_true rfl) rfl rfl (Nat.le_of_ble_eq_true rfl) dL_split_5 ⟨by decide, by decide⟩ ⟨Nat.le_of_ble_eq_true rfl, Nat.le_of_ble_eq_true rfl⟩ rfl rfl (fun E9 σ9 hE9 => ?_) (fun _ _ h => (h : False).elim)
        rw [hE9.1, hE9.2]
        refine ⟨21, ⟨[(⟨0, 10, 13, 24⟩ : ExceptionTableEntry), (⟨0, 10, 17, 13⟩ : ExceptionTableEntry)], (⟨0, 10, 21, 15⟩ : ExceptionTableEntry), [], "java/lang/IllegalStateException", htab, (List.forall_mem_cons.mpr ⟨Or.inr ⟨by decide, "java/lang/IndexOutOfBoundsException", wm_556, by decide +kernel⟩, (List.forall_mem_cons.mpr ⟨Or.inr ⟨by decide, "java/lang/IllegalArgumentException", wm_371, by decide +kernel⟩, (fun _ z => nomatch z)⟩)⟩), by decide, by decide, wm_372, by decide +kernel, rfl⟩, fun q9 => ?_⟩
        refine j_astore (pc := 21) C [(4, .ref q9), (0, .ref a0), (1, .int (nI (xN x))), (2, .int (nI (xN y))), (3, .ref o)] dL_split_21 (by decide) rfl ?_
        refine j_iconst (pc := 23) C (nI 3) dL_split_23 (by decide) ?_
        exact j_ireturn (pc := 24) C Q dL_split_24 (Nat.le_of_ble_eq_true rfl) (Nat.le_of_ble_eq_true rfl) (by rw [hs]; exact ⟨rfl, show (3 : Nat) < 4 by decide, fun z => absurd z (show ¬ (3 : Nat) = 0 by decide), hw, hc, Fr.rf⟩)
      · have hs : s_split S x y = (0, nI (nL S), S_spl (makes9 S (fo S (xN x))) (xN x) (nL S) (xN y)) := (if_neg c1).trans ((if_neg c2).trans (if_neg c3))
        refine j_aload_n (pc := 0) C dL_split_0 rfl 3 rfl ?_
        refine j_iconst (pc := 1) C (nI 0) dL_split_1 (by decide) ?_
        refine j_aload_n (pc := 2) C dL_split_2 rfl 0 rfl ?_
        refine j_iload_n (pc := 3) C dL_split_3 rfl 1 rfl ?_
        refine j_iload_n (pc := 4) C dL_split_4 rfl 2 rfl ?_
        refine j_callV (pc := 5) C [.int (nI (xN x)), .int (nI (xN y))] [.int (nI 0), .ref o] (rm0 := ({ frames := 10, cells := 8, slots := 127, locals := 262 } : Room)) (k' := 8) (n' := 127) Q.1 (c_X9_split_0 (xl X) (xw X) hw hc ha0 n1 n2 m3 m1 c3) mp_X9_split wm_880 ha0 rfl rfl (by decide) rfl rfl (Nat.le_of_ble_eq_true rfl) dL_split_5 ⟨by decide, by decide⟩ ⟨Nat.le_of_ble_eq_true rfl, Nat.le_of_ble_eq_true rfl⟩ rfl rfl (fun v9 σ1 hp9 => ?_)
        obtain ⟨rfl, hc1, hF1⟩ := hp9
        show J X 8 127 σ1 [(0, .ref a0), (1, .int (nI (xN x))), (2, .int (nI (xN y))), (3, .ref o)] [.int (nI (nL S)), .int (nI 0), .ref o] 8
        refine j_i2l (pc := 8) C dL_split_8 ?_
        refine j_last (pc := 9) C (p := 0) (M := 1) (hF1.at ho) rfl ((hF1.len ho.1).trans hN) (by decide) (by decide) dL_split_9 ?_
        refine j_goto (pc := 10) C 25 dL_split_10 (by decide) ?_
        refine j_iconst (pc := 25) C (nI 0) dL_split_25 (by decide) ?_
        exact j_ireturn (pc := 26) C Q dL_split_26 (Nat.le_of_ble_eq_true rfl) (Nat.le_of_ble_eq_true rfl) (by rw [hs]; exact ⟨rfl, show (0 : Nat) < 4 by decide, fun _ => sL_eq, (hw.split n1 n2 (by omega)), CI.out hc1 (hw.split n1 n2 (by omega)), out_fr hF1⟩)
set_option maxHeartbeats 4000000 in
set_option maxRecDepth 100000 in
theorem w_undo (L9 : Launch) (w9 : Wd) (hst9 : L9.stackTraces = false) {σ : HS} {S : SP} (hw : WF S) (hc : CI S σ) {a0 : Nat} (ha0 : At σ (9, 0) a0) {o : Nat} (ho : At σ (12, 300) o) (hN : hN σ 12 300 = 1)  : MW L9 w9 yL_undo cL_undo 3 (some .int) [(0, 8, 11, 15)] ({ frames := 7, cells := 1, slots := 6, locals := 111 } : Room) [.ref a0, .ref o] σ (fun a9 σ' => a9 = some (.int (nI (s_undo S).1)) ∧ (s_undo S).1 < 4 ∧ ((s_undo S).1 = 0 → hL σ' 768 300 0 = (s_undo S).2.1.toInt64) ∧ WF (s_undo S).2.2 ∧ CI (s_undo S).2.2 σ' ∧ Fr tgV σ σ') := by
  refine MW.of (by decide +kernel) (Nat.le_of_ble_eq_true rfl) (fun X hX1 hX2 C Q htab => ?_)
  subst hX1; subst hX2
  show J X 0 0 σ [(0, .ref a0), (1, .ref o)] [] 0
  obtain ⟨hp, he, hx, hf9, hd⟩ := id hc
  obtain ⟨z1, z2, z3, z4⟩ := id hf9
  obtain ⟨ef, e1, e2⟩ := id he
  have gS := hw.1.1
  have gC := hw.1.2.2.2.1
  have gR := hw.2.1.1
  have gL := hw.2.2.1.1
  have gW := hw.2.2.2.1.1
  have gD := hw.2.2.2.2.1
  by_cases c1 : nD S = 0
  · have hs : s_undo S = (1, 0, S) := if_pos c1
    refine j_aload_n (pc := 0) C dL_undo_0 rfl 1 rfl ?_
    refine j_iconst (pc := 1) C (nI 0) dL_undo_1 (by decide) ?_
    refine j_aload_n (pc := 2) C dL_undo_2 rfl 0 rfl ?_
    refine j_callVC (pc := 3) C [] [.int (nI 0), .ref o] (rm0 := ({ frames := 7, cells := 1, slots := 6, locals := 111 } : Room)) (k' := 1) (n' := 6) Q.1 (c_X9_undo_1 (xl X) (xw X) hst9 hw hc ha0 c1) mp_X9_undo wm_897 ha0 rfl rfl (Nat.le_of_ble_eq_true rfl) rfl rfl (Nat.le_of_ble_eq_true rfl) dL_undo_3 ⟨by decide, by decide⟩ ⟨Nat.le_of_ble_eq_true rfl, Nat.le_of_ble_eq_true rfl⟩ rfl rfl (fun E9 σ9 hE9 => ?_) (fun _ _ h => (h : False).elim)
    rw [hE9.1, hE9.2]
    refine ⟨11, ⟨[], (⟨0, 8, 11, 15⟩ : ExceptionTableEntry), [], "java/lang/IllegalStateException", htab, (fun _ z => nomatch z), by decide, by decide, wm_372, by decide +kernel, rfl⟩, fun q9 => ?_⟩
    refine j_astore_n (pc := 11) C [(2, .ref q9), (0, .ref a0), (1, .ref o)] dL_undo_11 rfl (by decide) rfl ?_
    refine j_iconst (pc := 12) C (nI 1) dL_undo_12 (by decide) ?_
    exact j_ireturn (pc := 13) C Q dL_undo_13 (Nat.le_of_ble_eq_true rfl) (Nat.le_of_ble_eq_true rfl) (by rw [hs]; exact ⟨rfl, show (1 : Nat) < 4 by decide, fun z => absurd z (show ¬ (1 : Nat) = 0 by decide), hw, hc, Fr.rf⟩)
  · have hs : s_undo S = (0, nI (nD S - 1), S_undo S) := if_neg c1
    refine j_aload_n (pc := 0) C dL_undo_0 rfl 1 rfl ?_
    refine j_iconst (pc := 1) C (nI 0) dL_undo_1 (by decide) ?_
    refine j_aload_n (pc := 2) C dL_undo_2 rfl 0 rfl ?_
    refine j_callV (pc := 3) C [] [.int (nI 0), .ref o] (rm0 := ({ frames := 7, cells := 1, slots := 6, locals := 111 } : Room)) (k' := 0) (n' := 0) Q.1 (c_X9_undo_0 (xl X) (xw X) hw hc ha0 c1) mp_X9_undo wm_897 ha0 rfl rfl (by decide) rfl rfl (Nat.le_of_ble_eq_true rfl) dL_undo_3 ⟨by decide, by decide⟩ ⟨Nat.le_of_ble_eq_true rfl, Nat.le_of_ble_eq_true rfl⟩ rfl rfl (fun v9 σ1 hp9 => ?_)
    obtain ⟨rfl, hc1, hF1⟩ := hp9
    show J X 0 0 σ1 [(0, .ref a0), (1, .ref o)] [.int (nI (nD S - 1)), .int (nI 0), .ref o] 6
    refine j_i2l (pc := 6) C dL_undo_6 ?_
    refine j_last (pc := 7) C (p := 0) (M := 1) (hF1.at ho) rfl ((hF1.len ho.1).trans hN) (by decide) (by decide) dL_undo_7 ?_
    refine j_goto (pc := 8) C 14 dL_undo_8 (by decide) ?_
    refine j_iconst (pc := 14) C (nI 0) dL_undo_14 (by decide) ?_
    exact j_ireturn (pc := 15) C Q dL_undo_15 (Nat.le_of_ble_eq_true rfl) (Nat.le_of_ble_eq_true rfl) (by rw [hs]; exact ⟨rfl, show (0 : Nat) < 4 by decide, fun _ => sL_eq, (hw.undo c1), CI.out hc1 (hw.undo c1), out_fr hF1⟩)
