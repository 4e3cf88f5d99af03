set_option maxHeartbeats 4000000 in
set_option maxRecDepth 100000 in
theorem w_length (L9 : Launch) (w9 : Wd) (hst9 : L9.stackTraces = false) {σ : HS} {S : SP} (hw : WF S) (hc : CI S σ) {a0 : Nat} (ha0 : At σ (9, 0) a0) {o : Nat} (ho : At σ (12, 300) o) (hN : hN σ 12 300 = 1) (x : Int32) (c : Int32) : MW L9 w9 yL_length cL_length 5 (some .int) [(0, 10, 13, 24)] ({ frames := 8, cells := 1, slots := 6, locals := 137 } : Room) [.ref a0, .int x, .int c, .ref o] σ (fun a9 σ' => a9 = some (.int (nI (s_length S x c).1)) ∧ (s_length S x c).1 < 4 ∧ ((s_length S x c).1 = 0 → hL σ' 768 300 0 = (s_length S x c).2.1.toInt64) ∧ WF (s_length S x c).2.2 ∧ CI (s_length S x c).2.2 σ' ∧ Fr tgV σ σ') := by
  refine MW.of (by decide +kernel) (Nat.le_of_ble_eq_true rfl) (fun X hX1 hX2 C Q htab => ?_)
  subst hX1; subst hX2
  show J X 0 0 σ [(0, .ref a0), (1, .int x), (2, .int c), (3, .ref o)] [] 0
  obtain ⟨hp, he, hx, hf9, hd⟩ := id hc
  obtain ⟨z1, z2, z3, z4⟩ := id hf9
  obtain ⟨ef, e1, e2⟩ := id he
  have gS := hw.1.1
  have gC := hw.1.2.2.2.1
  have gR := hw.2.1.1
  have gL := hw.2.2.1.1
  have gW := hw.2.2.2.1.1
  have gD := hw.2.2.2.2.1
  by_cases c1 : (isLex S x && inI c 8) = false
  · have hs : s_length S x c = (1, 0, S) := if_pos c1
    refine j_aload_n (pc := 0) C dL_length_0 rfl 3 rfl ?_
    refine j_iconst (pc := 1) C (nI 0) dL_length_1 (by decide) ?_
    refine j_aload_n (pc := 2) C dL_length_2 rfl 0 rfl ?_
    refine j_iload_n (pc := 3) C dL_length_3 rfl 1 rfl ?_
    refine j_iload_n (pc := 4) C dL_length_4 rfl 2 rfl ?_
    refine j_callVC (pc := 5) C [.int x, .int c] [.int (nI 0), .ref o] (rm0 := ({ frames := 8, cells := 1, slots := 6, locals := 137 } : Room)) (k' := 1) (n' := 6) Q.1 (c_X9_length_1 (xl X) (xw X) hst9 hw hc ha0 c1) mp_X9_length wm_921 ha0 rfl rfl (Nat.le_of_ble_eq_true rfl) rfl rfl (Nat.le_of_ble_eq_true rfl) dL_length_5 ⟨by decide, by decide⟩ ⟨Nat.le_of_ble_eq_true rfl, Nat.le_of_ble_eq_true rfl⟩ rfl rfl (fun E9 σ9 hE9 => ?_) (fun _ _ h => (h : False).elim)
    rw [hE9.1, hE9.2]
    refine ⟨13, ⟨[], (⟨0, 10, 13, 24⟩ : ExceptionTableEntry), [], "java/lang/IndexOutOfBoundsException", htab, (fun _ z => nomatch z), by decide, by decide, wm_556, by decide +kernel, rfl⟩, fun q9 => ?_⟩
    refine j_astore (pc := 13) C [(4, .ref q9), (0, .ref a0), (1, .int x), (2, .int c), (3, .ref o)] dL_length_13 (by decide) rfl ?_
    refine j_iconst (pc := 15) C (nI 1) dL_length_15 (by decide) ?_
    exact j_ireturn (pc := 16) C Q dL_length_16 (Nat.le_of_ble_eq_true rfl) (Nat.le_of_ble_eq_true rfl) (by rw [hs]; exact ⟨rfl, show (1 : Nat) < 4 by decide, fun z => absurd z (show ¬ (1 : Nat) = 0 by decide), hw, hc, Fr.rf⟩)
  · obtain ⟨b1, b2⟩ := and2 c1
    obtain ⟨n1, n2, n3⟩ := isLex_t b1
    obtain ⟨m1, m2⟩ := inI_t b2
    refine j_eq rfl (lv' := [(0, .ref a0), (1, .int (nI (xN x))), (2, .int c), (3, .ref o)]) (by rw [← n3]) rfl ?_
    refine j_eq rfl (lv' := [(0, .ref a0), (1, .int (nI (xN x))), (2, .int (nI (xN c))), (3, .ref o)]) (by rw [← m2]) rfl ?_
    have hs : s_length S x c = (0, nI (word9 S (xN x) (xN c)).length, S) := if_neg c1
    refine j_aload_n (pc := 0) C dL_length_0 rfl 3 rfl ?_
    refine j_iconst (pc := 1) C (nI 0) dL_length_1 (by decide) ?_
    refine j_aload_n (pc := 2) C dL_length_2 rfl 0 rfl ?_
    refine j_iload_n (pc := 3) C dL_length_3 rfl 1 rfl ?_
    refine j_iload_n (pc := 4) C dL_length_4 rfl 2 rfl ?_
    refine j_callV (pc := 5) C [.int (nI (xN x)), .int (nI (xN c))] [.int (nI 0), .ref o] (rm0 := ({ frames := 8, cells := 1, slots := 6, locals := 137 } : Room)) (k' := 0) (n' := 0) Q.1 (c_X9_length_0 (xl X) (xw X) hw hc ha0 n1 n2 m1) mp_X9_length wm_921 ha0 rfl rfl (by decide) rfl rfl (Nat.le_of_ble_eq_true rfl) dL_length_5 ⟨by decide, by decide⟩ ⟨Nat.le_of_ble_eq_true rfl, Nat.le_of_ble_eq_true rfl⟩ rfl rfl (det1 ?_)
    have hc1 := hc
    have hF1 : Fr tgU σ σ := Fr.rf
    refine j_i2l (pc := 8) C dL_length_8 ?_
    refine j_last (pc := 9) C (p := 0) (M := 1) ho rfl hN (by decide) (by decide) dL_length_9 ?_
    refine j_goto (pc := 10) C 17 dL_length_10 (by decide) ?_
    refine j_iconst (pc := 17) C (nI 0) dL_length_17 (by decide) ?_
    exact j_ireturn (pc := 18) C Q dL_length_18 (Nat.le_of_ble_eq_true rfl) (Nat.le_of_ble_eq_true rfl) (by rw [hs]; exact ⟨rfl, show (0 : Nat) < 4 by decide, fun _ => sL_eq, hw, CI.out hc1 hw, out_fr hF1⟩)
set_option maxHeartbeats 4000000 in
set_option maxRecDepth 100000 in
theorem w_at (L9 : Launch) (w9 : Wd) (hst9 : L9.stackTraces = false) {σ : HS} {S : SP} (hw : WF S) (hc : CI S σ) {a0 : Nat} (ha0 : At σ (9, 0) a0) {o : Nat} (ho : At σ (12, 300) o) (hN : hN σ 12 300 = 1) (x : Int32) (c : Int32) (p : Int32) : MW L9 w9 yL_at cL_at 6 (some .int) [(0, 12, 15, 24)] ({ frames := 8, cells := 1, slots := 6, locals := 138 } : Room) [.ref a0, .int x, .int c, .int p, .ref o] σ (fun a9 σ' => a9 = some (.int (nI (s_at S x c p).1)) ∧ (s_at S x c p).1 < 4 ∧ ((s_at S x c p).1 = 0 → hL σ' 768 300 0 = (s_at S x c p).2.1.toInt64) ∧ WF (s_at S x c p).2.2 ∧ CI (s_at S x c p).2.2 σ' ∧ Fr tgV σ σ') := by
  refine MW.of (by decide +kernel) (Nat.le_of_ble_eq_true rfl) (fun X hX1 hX2 C Q htab => ?_)
  subst hX1; subst hX2
  show J X 0 0 σ [(0, .ref a0), (1, .int x), (2, .int c), (3, .int p), (4, .ref o)] [] 0
  obtain ⟨hp, he, hx, hf9, hd⟩ := id hc
  obtain ⟨z1, z2, z3, z4⟩ := id hf9
  obtain ⟨ef, e1, e2⟩ := id he
  have gS := hw.1.1
  have gC := hw.1.2.2.2.1
  have gR := hw.2.1.1
  have gL := hw.2.2.1.1
  have gW := hw.2.2.2.1.1
  have gD := hw.2.2.2.2.1
  by_cases c1 : (isLex S x && inI c 8 && decide (0 ≤ p.toInt)) = false
  · have hs : s_at S x c p = (1, 0, S) := if_pos c1
    refine j_aload (pc := 0) C dL_at_0 4 rfl ?_
    refine j_iconst (pc := 2) C (nI 0) dL_at_2 (by decide) ?_
    refine j_aload_n (pc := 3) C dL_at_3 rfl 0 rfl ?_
    refine j_iload_n (pc := 4) C dL_at_4 rfl 1 rfl ?_
    refine j_iload_n (pc := 5) C dL_at_5 rfl 2 rfl ?_
    refine j_iload_n (pc := 6) C dL_at_6 rfl 3 rfl ?_
    refine j_callVC (pc := 7) C [.int x, .int c, .int p] [.int (nI 0), .ref o] (rm0 := ({ frames := 8, cells := 1, slots := 6, locals := 138 } : Room)) (k' := 1) (n' := 6) Q.1 (c_X9_at_1 (xl X) (xw X) hst9 hw hc ha0 c1) mp_X9_at wm_940 ha0 rfl rfl (Nat.le_of_ble_eq_true rfl) rfl rfl (Nat.le_of_ble_eq_true rfl) dL_at_7 ⟨by decide, by decide⟩ ⟨Nat.le_of_ble_eq_true rfl, Nat.le_of_ble_eq_true rfl⟩ rfl rfl (fun E9 σ9 hE9 => ?_) (fun _ _ h => (h : False).elim)
    rw [hE9.1, hE9.2]
    refine ⟨15, ⟨[], (⟨0, 12, 15, 24⟩ : ExceptionTableEntry), [], "java/lang/IndexOutOfBoundsException", htab, (fun _ z => nomatch z), by decide, by decide, wm_556, by decide +kernel, rfl⟩, fun q9 => ?_⟩
    refine j_astore (pc := 15) C [(5, .ref q9), (0, .ref a0), (1, .int x), (2, .int c), (3, .int p), (4, .ref o)] dL_at_15 (by decide) rfl ?_
    refine j_iconst (pc := 17) C (nI 1) dL_at_17 (by decide) ?_
    exact j_ireturn (pc := 18) C Q dL_at_18 (Nat.le_of_ble_eq_true rfl) (Nat.le_of_ble_eq_true rfl) (by rw [hs]; exact ⟨rfl, show (1 : Nat) < 4 by decide, fun z => absurd z (show ¬ (1 : Nat) = 0 by decide), hw, hc, Fr.rf⟩)
  · obtain ⟨b1, b2, b3⟩ := and3 c1
    obtain ⟨n1, n2, n3⟩ := isLex_t b1
    obtain ⟨m1, m2⟩ := inI_t b2
    obtain ⟨r1, r2⟩ := nn_t (of_decide_eq_true b3)
    refine j_eq rfl (lv' := [(0, .ref a0), (1, .int (nI (xN x))), (2, .int c), (3, .int p), (4, .ref o)]) (by rw [← n3]) rfl ?_
    refine j_eq rfl (lv' := [(0, .ref a0), (1, .int (nI (xN x))), (2, .int (nI (xN c))), (3, .int p), (4, .ref o)]) (by rw [← m2]) rfl ?_
    refine j_eq rfl (lv' := [(0, .ref a0), (1, .int (nI (xN x))), (2, .int (nI (xN c))), (3, .int (nI (xN p))), (4, .ref o)]) (by rw [← r2]) rfl ?_
    have hs : s_at S x c p = (0, nI (cd (word9 S (xN x) (xN c)) (xN p)) - 1, S) := if_neg c1
    refine j_aload (pc := 0) C dL_at_0 4 rfl ?_
    refine j_iconst (pc := 2) C (nI 0) dL_at_2 (by decide) ?_
    refine j_aload_n (pc := 3) C dL_at_3 rfl 0 rfl ?_
    refine j_iload_n (pc := 4) C dL_at_4 rfl 1 rfl ?_
    refine j_iload_n (pc := 5) C dL_at_5 rfl 2 rfl ?_
    refine j_iload_n (pc := 6) C dL_at_6 rfl 3 rfl ?_
    refine j_callV (pc := 7) C [.int (nI (xN x)), .int (nI (xN c)), .int (nI (xN p))] [.int (nI 0), .ref o] (rm0 := ({ frames := 8, cells := 1, slots := 6, locals := 138 } : Room)) (k' := 0) (n' := 0) Q.1 (c_X9_at_0 (xl X) (xw X) hw hc ha0 n1 n2 m1 r1) mp_X9_at wm_940 ha0 rfl rfl (by decide) rfl rfl (Nat.le_of_ble_eq_true rfl) dL_at_7 ⟨by decide, by decide⟩ ⟨Nat.le_of_ble_eq_true rfl, Nat.le_of_ble_eq_true rfl⟩ rfl rfl (det1 ?_)
    have hc1 := hc
    have hF1 : Fr tgU σ σ := Fr.rf
    refine j_i2l (pc := 10) C dL_at_10 ?_
    refine j_last (pc := 11) C (p := 0) (M := 1) ho rfl hN (by decide) (by decide) dL_at_11 ?_
    refine j_goto (pc := 12) C 19 dL_at_12 (by decide) ?_
    refine j_iconst (pc := 19) C (nI 0) dL_at_19 (by decide) ?_
    exact j_ireturn (pc := 20) C Q dL_at_20 (Nat.le_of_ble_eq_true rfl) (Nat.le_of_ble_eq_true rfl) (by rw [hs]; exact ⟨rfl, show (0 : Nat) < 4 by decide, fun _ => sL_eq, hw, CI.out hc1 hw, out_fr hF1⟩)
set_option maxHeartbeats 4000000 in
set_option maxRecDepth 100000 in
theorem w_step (L9 : Launch) (w9 : Wd) (hst9 : L9.stackTraces = false) {σ : HS} {S : SP} (hw : WF S) (hc : CI S σ) {a0 : Nat} (ha0 : At σ (9, 0) a0) {o : Nat} (ho : At σ (12, 300) o) (hN : hN σ 12 300 = 1) (x : Int32) (c : Int32) (r : Int32) : MW L9 w9 yL_step cL_step 6 (some .int) [(0, 12, 15, 24)] ({ frames := 8, cells := 1, slots := 6, locals := 132 } : Room) [.ref a0, .int x, .int c, .int r, .ref o] σ (fun a9 σ' => a9 = some (.int (nI (s_step S x c r).1)) ∧ (s_step S x c r).1 < 4 ∧ ((s_step S x c r).1 = 0 → hL σ' 768 300 0 = (s_step S x c r).2.1.toInt64) ∧ WF (s_step S x c r).2.2 ∧ CI (s_step S x c r).2.2 σ' ∧ Fr tgV σ σ') := by
  refine MW.of (by decide +kernel) (Nat.le_of_ble_eq_true rfl) (fun X hX1 hX2 C Q htab => ?_)
  subst hX1; subst hX2
  show J X 0 0 σ [(0, .ref a0), (1, .int x), (2, .int c), (3, .int r), (4, .ref o)] [] 0
  obtain ⟨hp, he, hx, hf9, hd⟩ := id hc
  obtain ⟨z1, z2, z3, z4⟩ := id hf9
  obtain ⟨ef, e1, e2⟩ := id he
  have gS := hw.1.1
  have gC := hw.1.2.2.2.1
  have gR := hw.2.1.1
  have gL := hw.2.2.1.1
  have gW := hw.2.2.2.1.1
  have gD := hw.2.2.2.2.1
  by_cases c1 : (isLex S x && inI c 8 && inI r (nR S)) = false
  · have hs : s_step S x c r = (1, 0, S) := if_pos c1
    refine j_aload (pc := 0) C dL_step_0 4 rfl ?_
    refine j_iconst (pc := 2) C (nI 0) dL_step_2 (by decide) ?_
    refine j_aload_n (pc := 3) C dL_step_3 rfl 0 rfl ?_
    refine j_iload_n (pc := 4) C dL_step_4 rfl 1 rfl ?_
    refine j_iload_n (pc := 5) C dL_step_5 rfl 2 rfl ?_
    refine j_iload_n (pc := 6) C dL_step_6 rfl 3 rfl ?_
    refine j_callVC (pc := 7) C [.int x, .int c, .int r] [.int (nI 0), .ref o] (rm0 := ({ frames := 8, cells := 1, slots := 6, locals := 132 } : Room)) (k' := 1) (n' := 6) Q.1 (c_X9_step_1 (xl X) (xw X) hst9 hw hc ha0 c1) mp_X9_step wm_954 ha0 rfl rfl (Nat.le_of_ble_eq_true rfl) rfl rfl (Nat.le_of_ble_eq_true rfl) dL_step_7 ⟨by decide, by decide⟩ ⟨Nat.le_of_ble_eq_true rfl, Nat.le_of_ble_eq_true rfl⟩ rfl rfl (fun E9 σ9 hE9 => ?_) (fun _ _ h => (h : False).elim)
    rw [hE9.1, hE9.2]
    refine ⟨15, ⟨[], (⟨0, 12, 15, 24⟩ : ExceptionTableEntry), [], "java/lang/IndexOutOfBoundsException", htab, (fun _ z => nomatch z), by decide, by decide, wm_556, by decide +kernel, rfl⟩, fun q9 => ?_⟩
    refine j_astore (pc := 15) C [(5, .ref q9), (0, .ref a0), (1, .int x), (2, .int c), (3, .int r), (4, .ref o)] dL_step_15 (by decide) rfl ?_
    refine j_iconst (pc := 17) C (nI 1) dL_step_17 (by decide) ?_
    exact j_ireturn (pc := 18) C Q dL_step_18 (Nat.le_of_ble_eq_true rfl) (Nat.le_of_ble_eq_true rfl) (by rw [hs]; exact ⟨rfl, show (1 : Nat) < 4 by decide, fun z => absurd z (show ¬ (1 : Nat) = 0 by decide), hw, hc, Fr.rf⟩)
  · obtain ⟨b1, b2, b3⟩ := and3 c1
    obtain ⟨n1, n2, n3⟩ := isLex_t b1
    obtain ⟨m1, m2⟩ := inI_t b2
    obtain ⟨r1, r2⟩ := inI_t b3
    refine j_eq rfl (lv' := [(0, .ref a0), (1, .int (nI (xN x))), (2, .int c), (3, .int r), (4, .ref o)]) (by rw [← n3]) rfl ?_
    refine j_eq rfl (lv' := [(0, .ref a0), (1, .int (nI (xN x))), (2, .int (nI (xN c))), (3, .int r), (4, .ref o)]) (by rw [← m2]) rfl ?_
    refine j_eq rfl (lv' := [(0, .ref a0), (1, .int (nI (xN x))), (2, .int (nI (xN c))), (3, .int (nI (xN r))), (4, .ref o)]) (by rw [← r2]) rfl ?_
    have hs : s_step S x c r = (0, nI (steps9 S (xN x) (xN c) (xN r)), S) := if_neg c1
    refine j_aload (pc := 0) C dL_step_0 4 rfl ?_
    refine j_iconst (pc := 2) C (nI 0) dL_step_2 (by decide) ?_
    refine j_aload_n (pc := 3) C dL_step_3 rfl 0 rfl ?_
    refine j_iload_n (pc := 4) C dL_step_4 rfl 1 rfl ?_
    refine j_iload_n (pc := 5) C dL_step_5 rfl 2 rfl ?_
    refine j_iload_n (pc := 6) C dL_step_6 rfl 3 rfl ?_
    refine j_callV (pc := 7) C [.int (nI (xN x)), .int (nI (xN c)), .int (nI (xN r))] [.int (nI 0), .ref o] (rm0 := ({ frames := 8, cells := 1, slots := 6, locals := 132 } : Room)) (k' := 0) (n' := 0) Q.1 (c_X9_step_0 (xl X) (xw X) hw hc ha0 n1 n2 m1 r1) mp_X9_step wm_954 ha0 rfl rfl (by decide) rfl rfl (Nat.le_of_ble_eq_true rfl) dL_step_7 ⟨by decide, by decide⟩ ⟨Nat.le_of_ble_eq_true rfl, Nat.le_of_ble_eq_true rfl⟩ rfl rfl (det1 ?_)
    have hc1 := hc
    have hF1 : Fr tgU σ σ := Fr.rf
    refine j_i2l (pc := 10) C dL_step_10 ?_
    refine j_last (pc := 11) C (p := 0) (M := 1) ho rfl hN (by decide) (by decide) dL_step_11 ?_
    refine j_goto (pc := 12) C 19 dL_step_12 (by decide) ?_
    refine j_iconst (pc := 19) C (nI 0) dL_step_19 (by decide) ?_
    exact j_ireturn (pc := 20) C Q dL_step_20 (Nat.le_of_ble_eq_true rfl) (Nat.le_of_ble_eq_true rfl) (by rw [hs]; exact ⟨rfl, show (0 : Nat) < 4 by decide, fun _ => sL_eq, hw, CI.out hc1 hw, out_fr hF1⟩)
set_option maxHeartbeats 4000000 in
set_option maxRecDepth 100000 in
theorem w_ofWord (L9 : Launch) (w9 : Wd) (hst9 : L9.stackTraces = false) {σ : HS} {S : SP} (hw : WF S) (hc : CI S σ) {a0 : Nat} (ha0 : At σ (9, 0) a0) {o : Nat} (ho : At σ (12, 300) o) (hN : hN σ 12 300 = 1) (x : Int32) (y : Int32) : MW L9 w9 yL_ofWord cL_ofWord 5 (some .int) [(0, 10, 13, 24), (0, 10, 17, 13)] ({ frames := 8, cells := 1, slots := 6, locals := 159 } : Room) [.ref a0, .int x, .int y, .ref o] σ (fun a9 σ' => a9 = some (.int (nI (s_ofWord S x y).1)) ∧ (s_ofWord S x y).1 < 4 ∧ ((s_ofWord S x y).1 = 0 → hL σ' 768 300 0 = (s_ofWord S x y).2.1.toInt64) ∧ WF (s_ofWord S x y).2.2 ∧ CI (s_ofWord S x y).2.2 σ' ∧ Fr tgV σ σ') := by
  refine MW.of (by decide +kernel) (Nat.le_of_ble_eq_true rfl) (fun X hX1 hX2 C Q htab => ?_)
  subst hX1; subst hX2
  show J X 0 0 σ [(0, .ref a0), (1, .int x), (2, .int y), (3, .ref o)] [] 0
  obtain ⟨hp, he, hx, hf9, hd⟩ := id hc
  obtain ⟨z1, z2, z3, z4⟩ := id hf9
  obtain ⟨ef, e1, e2⟩ := id he
  have gS := hw.1.1
  have gC := hw.1.2.2.2.1
  have gR := hw.2.1.1
  have gL := hw.2.2.1.1
  have gW := hw.2.2.2.1.1
  have gD := hw.2.2.2.2.1
  by_cases c1 : isWrd S x = false
  · have hs : s_ofWord S x y = (1, 0, S) := if_pos c1
    refine j_aload_n (pc := 0) C dL_ofWord_0 rfl 3 rfl ?_
    refine j_iconst (pc := 1) C (nI 0) dL_ofWord_1 (by decide) ?_
    refine j_aload_n (pc := 2) C dL_ofWord_2 rfl 0 rfl ?_
    refine j_iload_n (pc := 3) C dL_ofWord_3 rfl 1 rfl ?_
    refine j_iload_n (pc := 4) C dL_ofWord_4 rfl 2 rfl ?_
    refine j_callVC (pc := 5) C [.int x, .int y] [.int (nI 0), .ref o] (rm0 := ({ frames := 8, cells := 1, slots := 6, locals := 159 } : Room)) (k' := 1) (n' := 6) Q.1 (c_X9_ofWord_x1 (xl X) (xw X) hst9 hw hc ha0 c1) mp_X9_ofWord wm_968 ha0 rfl rfl (Nat.le_of_ble_eq_true rfl) rfl rfl (Nat.le_of_ble_eq_true rfl) dL_ofWord_5 ⟨by decide, by decide⟩ ⟨Nat.le_of_ble_eq_true rfl, Nat.le_of_ble_eq_true rfl⟩ rfl rfl (fun E9 σ9 hE9 => ?_) (fun _ _ h => (h : False).elim)
    rw [hE9.1, hE9.2]
    refine ⟨13, ⟨[], (⟨0, 10, 13, 24⟩ : ExceptionTableEntry), [(⟨0, 10, 17, 13⟩ : ExceptionTableEntry)], "java/lang/IndexOutOfBoundsException", htab, (fun _ z => nomatch z), by decide, by decide, wm_556, by decide +kernel, rfl⟩, fun q9 => ?_⟩
    refine j_astore (pc := 13) C [(4, .ref q9), (0, .ref a0), (1, .int x), (2, .int y), (3, .ref o)] dL_ofWord_13 (by decide) rfl ?_
    refine j_iconst (pc := 15) C (nI 1) dL_ofWord_15 (by decide) ?_
    exact j_ireturn (pc := 16) C Q dL_ofWord_16 (Nat.le_of_ble_eq_true rfl) (Nat.le_of_ble_eq_true rfl) (by rw [hs]; exact ⟨rfl, show (1 : Nat) < 4 by decide, fun z => absurd z (show ¬ (1 : Nat) = 0 by decide), hw, hc, Fr.rf⟩)
  · obtain ⟨n1, n2, n3⟩ := isWrd_t (ts_nf c1)
    refine j_eq rfl (lv' := [(0, .ref a0), (1, .int (nI (xN x))), (2, .int y), (3, .ref o)]) (by rw [← n3]) rfl ?_
    by_cases c2 : inI y 5 = false
    · have hs : s_ofWord S x y = (2, 0, S) := (if_neg c1).trans (if_pos c2)
      refine j_aload_n (pc := 0) C dL_ofWord_0 rfl 3 rfl ?_
      refine j_iconst (pc := 1) C (nI 0) dL_ofWord_1 (by decide) ?_
      refine j_aload_n (pc := 2) C dL_ofWord_2 rfl 0 rfl ?_
      refine j_iload_n (pc := 3) C dL_ofWord_3 rfl 1 rfl ?_
      refine j_iload_n (pc := 4) C dL_ofWord_4 rfl 2 rfl ?_
      refine j_callVC (pc := 5) C [.int (nI (xN x)), .int y] [.int (nI 0), .ref o] (rm0 := ({ frames := 8, cells := 1, slots := 6, locals := 159 } : Room)) (k' := 1) (n' := 6) Q.1 (c_X9_ofWord_x2 (xl X) (xw X) hst9 hw hc ha0 n1 n2 c2) mp_X9_ofWord wm_968 ha0 rfl rfl (Nat.le_of_ble_eq_true rfl) rfl rfl (Nat.le_of_ble_eq_true rfl) dL_ofWord_5 ⟨by decide, by decide⟩ ⟨Nat.le_of_ble_eq_true rfl, Nat.le_of_ble_eq_true rfl⟩ rfl rfl (fun E9 σ9 hE9 => ?_) (fun _ _ h => (h : False).elim)
      rw [hE9.1, hE9.2]
      refine ⟨17, ⟨[(⟨0, 10, 13, 24⟩ : ExceptionTableEntry)], (⟨0, 10, 17, 13⟩ : ExceptionTableEntry), [], "java/lang/IllegalArgumentException", htab, (List.forall_mem_cons.mpr ⟨Or.inr ⟨by decide, "java/lang/IndexOutOfBoundsException", wm_556, by decide +kernel⟩, (fun _ z => nomatch z)⟩), by decide, by decide, wm_371, by decide +kernel, rfl⟩, fun q9 => ?_⟩
      refine j_astore (pc := 17) C [(4, .ref q9), (0, .ref a0), (1, .int (nI (xN x))), (2, .int y), (3, .ref o)] dL_ofWord_17 (by decide) rfl ?_
      refine j_iconst (pc := 19) C (nI 2) dL_ofWord_19 (by decide) ?_
      exact j_ireturn (pc := 20) C Q dL_ofWord_20 (Nat.le_of_ble_eq_true rfl) (Nat.le_of_ble_eq_true rfl) (by rw [hs]; exact ⟨rfl, show (2 : Nat) < 4 by decide, fun z => absurd z (show ¬ (2 : Nat) = 0 by decide), hw, hc, Fr.rf⟩)
    · obtain ⟨m1, m2⟩ := inI_t (ts_nf c2)
      refine j_eq rfl (lv' := [(0, .ref a0), (1, .int (nI (xN x))), (2, .int (nI (xN y))), (3, .ref o)]) (by rw [← m2]) rfl ?_
      have h5 : xN y = 0 ∨ xN y = 1 ∨ xN y = 2 ∨ xN y = 3 ∨ xN y = 4 := by omega
      rcases h5 with h5 | h5 | h5 | h5 | h5
      · refine j_eq rfl (lv' := [(0, .ref a0), (1, .int (nI (xN x))), (2, .int (nI 0)), (3, .ref o)]) (by rw [h5]) rfl ?_
        have hs : s_ofWord S x y = (0, nI (ol S (xN x)), S) := (if_neg c1).trans ((if_neg c2).trans (by rw [h5]; rfl))
        refine j_aload_n (pc := 0) C dL_ofWord_0 rfl 3 rfl ?_
        refine j_iconst (pc := 1) C (nI 0) dL_ofWord_1 (by decide) ?_
        refine j_aload_n (pc := 2) C dL_ofWord_2 rfl 0 rfl ?_
        refine j_iload_n (pc := 3) C dL_ofWord_3 rfl 1 rfl ?_
        refine j_iload_n (pc := 4) C dL_ofWord_4 rfl 2 rfl ?_
        refine j_callV (pc := 5) C [.int (nI (xN x)), .int (nI 0)] [.int (nI 0), .ref o] (rm0 := ({ frames := 8, cells := 1, slots := 6, locals := 159 } : Room)) (k' := 0) (n' := 0) Q.1 (c_X9_ofWord_0 (xl X) (xw X) hw hc ha0 n1 n2) mp_X9_ofWord wm_968 ha0 rfl rfl (by decide) rfl rfl (Nat.le_of_ble_eq_true rfl) dL_ofWord_5 ⟨by decide, by decide⟩ ⟨Nat.le_of_ble_eq_true rfl, Nat.le_of_ble_eq_true rfl⟩ rfl rfl (det1 ?_)
        have hc1 := hc
        have hF1 : Fr tgU σ σ := Fr.rf
        refine j_i2l (pc := 8) C dL_ofWord_8 ?_
        refine j_last (pc := 9) C (p := 0) (M := 1) ho rfl hN (by decide) (by decide) dL_ofWord_9 ?_
        refine j_goto (pc := 10) C 21 dL_ofWord_10 (by decide) ?_
        refine j_iconst (pc := 21) C (nI 0) dL_ofWord_21 (by decide) ?_
        exact j_ireturn (pc := 22) C Q dL_ofWord_22 (Nat.le_of_ble_eq_true rfl) (Nat.le_of_ble_eq_true rfl) (by rw [hs]; exact ⟨rfl, show (0 : Nat) < 4 by decide, fun _ => sL_eq, hw, CI.out hc1 hw, out_fr hF1⟩)
      · refine j_eq rfl (lv' := [(0, .ref a0), (1, .int (nI (xN x))), (2, .int (nI 1)), (3, .ref o)]) (by rw [h5]) rfl ?_
        have hs : s_ofWord S x y = (0, nI (cw S (xN x)), S) := (if_neg c1).trans ((if_neg c2).trans (by rw [h5]; rfl))
        refine j_aload_n (pc := 0) C dL_ofWord_0 rfl 3 rfl ?_
        refine j_iconst (pc := 1) C (nI 0) dL_ofWord_1 (by decide) ?_
        refine j_aload_n (pc := 2) C dL_ofWord_2 rfl 0 rfl ?_
        refine j_iload_n (pc := 3) C dL_ofWord_3 rfl 1 rfl ?_
        refine j_iload_n (pc := 4) C dL_ofWord_4 rfl 2 rfl ?_
        refine j_callV (pc := 5) C [.int (nI (xN x)), .int (nI 1)] [.int (nI 0), .ref o] (rm0 := ({ frames := 8, cells := 1, slots := 6, locals := 159 } : Room)) (k' := 0) (n' := 0) Q.1 (c_X9_ofWord_1 (xl X) (xw X) hw hc ha0 n1 n2) mp_X9_ofWord wm_968 ha0 rfl rfl (by decide) rfl rfl (Nat.le_of_ble_eq_true rfl) dL_ofWord_5 ⟨by decide, by decide⟩ ⟨Nat.le_of_ble_eq_true rfl, Nat.le_of_ble_eq_true rfl⟩ rfl rfl (det1 ?_)
        have hc1 := hc
        have hF1 : Fr tgU σ σ := Fr.rf
        refine j_i2l (pc := 8) C dL_ofWord_8 ?_
        refine j_last (pc := 9) C (p := 0) (M := 1) ho rfl hN (by decide) (by decide) dL_ofWord_9 ?_
        refine j_goto (pc := 10) C 21 dL_ofWord_10 (by decide) ?_
        refine j_iconst (pc := 21) C (nI 0) dL_ofWord_21 (by decide) ?_
        exact j_ireturn (pc := 22) C Q dL_ofWord_22 (Nat.le_of_ble_eq_true rfl) (Nat.le_of_ble_eq_true rfl) (by rw [hs]; exact ⟨rfl, show (0 : Nat) < 4 by decide, fun _ => sL_eq, hw, CI.out hc1 hw, out_fr hF1⟩)
      · refine j_eq rfl (lv' := [(0, .ref a0), (1, .int (nI (xN x))), (2, .int (nI 2)), (3, .ref o)]) (by rw [h5]) rfl ?_
        have hs : s_ofWord S x y = (0, nI (sw S (xN x)), S) := (if_neg c1).trans ((if_neg c2).trans (by rw [h5]; rfl))
        refine j_aload_n (pc := 0) C dL_ofWord_0 rfl 3 rfl ?_
        refine j_iconst (pc := 1) C (nI 0) dL_ofWord_1 (by decide) ?_
        refine j_aload_n (pc := 2) C dL_ofWord_2 rfl 0 rfl ?_
        refine j_iload_n (pc := 3) C dL_ofWord_3 rfl 1 rfl ?_
        refine j_iload_n (pc := 4) C dL_ofWord_4 rfl 2 rfl ?_
        refine j_callV (pc := 5) C [.int (nI (xN x)), .int (nI 2)] [.int (nI 0), .ref o] (rm0 := ({ frames := 8, cells := 1, slots := 6, locals := 159 } : Room)) (k' := 0) (n' := 0) Q.1 (c_X9_ofWord_2 (xl X) (xw X) hw hc ha0 n1 n2) mp_X9_ofWord wm_968 ha0 rfl rfl (by decide) rfl rfl (Nat.le_of_ble_eq_true rfl) dL_ofWord_5 ⟨by decide, by decide⟩ ⟨Nat.le_of_ble_eq_true rfl, Nat.le_of_ble_eq_true rfl⟩ rfl rfl (det1 ?_)
        have hc1 := hc
        have hF1 : Fr tgU σ σ := Fr.rf
        refine j_i2l (pc := 8) C dL_ofWord_8 ?_
        refine j_last (pc := 9) C (p := 0) (M := 1) ho rfl hN (by decide) (by decide) dL_ofWord_9 ?_
        refine j_goto (pc := 10) C 21 dL_ofWord_10 (by decide) ?_
        refine j_iconst (pc := 21) C (nI 0) dL_ofWord_21 (by decide) ?_
        exact j_ireturn (pc := 22) C Q dL_ofWord_22 (Nat.le_of_ble_eq_true rfl) (Nat.le_of_ble_eq_true rfl) (by rw [hs]; exact ⟨rfl, show (0 : Nat) < 4 by decide, fun _ => sL_eq, hw, CI.out hc1 hw, out_fr hF1⟩)
      · refine j_eq rfl (lv' := [(0, .ref a0), (1, .int (nI (xN x))), (2, .int (nI 3)), (3, .ref o)]) (by rw [h5]) rfl ?_
        have hs : s_ofWord S x y = (0, nI (hr S (xN x)).length, S) := (if_neg c1).trans ((if_neg c2).trans (by rw [h5]; rfl))
        refine j_aload_n (pc := 0) C dL_ofWord_0 rfl 3 rfl ?_
        refine j_iconst (pc := 1) C (nI 0) dL_ofWord_1 (by decide) ?_
        refine j_aload_n (pc := 2) C dL_ofWord_2 rfl 0 rfl ?_
        refine j_iload_n (pc := 3) C dL_ofWord_3 rfl 1 rfl ?_
        refine j_iload_n (pc := 4) C dL_ofWord_4 rfl 2 rfl ?_
        refine j_callV (pc := 5) C [.int (nI (xN x)), .int (nI 3)] [.int (nI 0), .ref o] (rm0 := ({ frames := 8, cells := 1, slots := 6, locals := 159 } : Room)) (k' := 0) (n' := 0) Q.1 (c_X9_ofWord_3 (xl X) (xw X) hw hc ha0 n1 n2) mp_X9_ofWord wm_968 ha0 rfl rfl (by decide) rfl rfl (Nat.le_of_ble_eq_true rfl) dL_ofWord_5 ⟨by decide, by decide⟩ ⟨Nat.le_of_ble_eq_true rfl, Nat.le_of_ble_eq_true rfl⟩ rfl rfl (det1 ?_)
        have hc1 := hc
        have hF1 : Fr tgU σ σ := Fr.rf
        refine j_i2l (pc := 8) C dL_ofWord_8 ?_
        refine j_last (pc := 9) C (p := 0) (M := 1) ho rfl hN (by decide) (by decide) dL_ofWord_9 ?_
        refine j_goto (pc := 10) C 21 dL_ofWord_10 (by decide) ?_
        refine j_iconst (pc := 21) C (nI 0) dL_ofWord_21 (by decide) ?_
        exact j_ireturn (pc := 22) C Q dL_ofWord_22 (Nat.le_of_ble_eq_true rfl) (Nat.le_of_ble_eq_true rfl) (by rw [hs]; exact ⟨rfl, show (0 : Nat) < 4 by decide, fun _ => sL_eq, hw, CI.out hc1 hw, out_fr hF1⟩)
      · refine j_eq rfl (lv' := [(0, .ref a0), (1, .int (nI (xN x))), (2, .int (nI 4)), (3, .ref o)]) (by rw [h5]) rfl ?_
        have hs : s_ofWord S x y = (0, bI (fits9 S (xN x)), S) := (if_neg c1).trans ((if_neg c2).trans (by rw [h5]; rfl))
        refine j_aload_n (pc := 0) C dL_ofWord_0 rfl 3 rfl ?_
        refine j_iconst (pc := 1) C (nI 0) dL_ofWord_1 (by decide) ?_
        refine j_aload_n (pc := 2) C dL_ofWord_2 rfl 0 rfl ?_
        refine j_iload_n (pc := 3) C dL_ofWord_3 rfl 1 rfl ?_
        refine j_iload_n (pc := 4) C dL_ofWord_4 rfl 2 rfl ?_
        refine j_callV (pc := 5) C [.int (nI (xN x)), .int (nI 4)] [.int (nI 0), .ref o] (rm0 := ({ frames := 8, cells := 1, slots := 6, locals := 159 } : Room)) (k' := 0) (n' := 0) Q.1 (c_X9_ofWord_4 (xl X) (xw X) hw hc ha0 n1 n2) mp_X9_ofWord wm_968 ha0 rfl rfl (by decide) rfl rfl (Nat.le_of_ble_eq_true rfl) dL_ofWord_5 ⟨by decide, by decide⟩ ⟨Nat.le_of_ble_eq_true rfl, Nat.le_of_ble_eq_true rfl⟩ rfl rfl (det1 ?_)
        have hc1 := hc
        have hF1 : Fr tgU σ σ := Fr.rf
        refine j_i2l (pc := 8) C dL_ofWord_8 ?_
        refine j_last (pc := 9) C (p := 0) (M := 1) ho rfl hN (by decide) (by decide) dL_ofWord_9 ?_
        refine j_goto (pc := 10) C 21 dL_ofWord_10 (by decide) ?_
        refine j_iconst (pc := 21) C (nI 0) dL_ofWord_21 (by decide) ?_
        exact j_ireturn (pc := 22) C Q dL_ofWord_22 (Nat.le_of_ble_eq_true rfl) (Nat.le_of_ble_eq_true rfl) (by rw [hs]; exact ⟨rfl, show (0 : Nat) < 4 by decide, fun _ => sL_eq, hw, CI.out hc1 hw, out_fr hF1⟩)
set_option maxHeartbeats 4000000 in
set_option maxRecDepth 100000 in
theorem w_misfit (L9 : Launch) (w9 : Wd) (hst9 : L9.stackTraces = false) {σ : HS} {S : SP} (hw : WF S) (hc : CI S σ) {a0 : Nat} (ha0 : At σ (9, 0) a0) {o : Nat} (ho : At σ (12, 300) o) (hN : hN σ 12 300 = 1) (x : Int32) : MW L9 w9 yL_misfit cL_misfit 4 (some .int) [(0, 9, 12, 24)] ({ frames := 8, cells := 1, slots := 6, locals := 160 } : Room) [.ref a0, .int x, .ref o] σ (fun a9 σ' => a9 = some (.int (nI (s_misfit S x).1)) ∧ (s_misfit S x).1 < 4 ∧ ((s_misfit S x).1 = 0 → hL σ' 768 300 0 = (s_misfit S x).2.1.toInt64) ∧ WF (s_misfit S x).2.2 ∧ CI (s_misfit S x).2.2 σ' ∧ Fr tgV σ σ') := by
  refine MW.of (by decide +kernel) (Nat.le_of_ble_eq_true rfl) (fun X hX1 hX2 C Q htab => ?_)
  subst hX1; subst hX2
  show J X 0 0 σ [(0, .ref a0), (1, .int x), (2, .ref o)] [] 0
  obtain ⟨hp, he, hx, hf9, hd⟩ := id hc
  obtain ⟨z1, z2, z3, z4⟩ := id hf9
  obtain ⟨ef, e1, e2⟩ := id he
  have gS := hw.1.1
  have gC := hw.1.2.2.2.1
  have gR := hw.2.1.1
  have gL := hw.2.2.1.1
  have gW := hw.2.2.2.1.1
  have gD := hw.2.2.2.2.1
  by_cases c1 : decide (0 ≤ x.toInt) = false
  · have hs : s_misfit S x = (1, 0, S) := if_pos c1
    refine j_aload_n (pc := 0) C dL_misfit_0 rfl 2 rfl ?_
    refine j_iconst (pc := 1) C (nI 0) dL_misfit_1 (by decide) ?_
    refine j_aload_n (pc := 2) C dL_misfit_2 rfl 0 rfl ?_
    refine j_iload_n (pc := 3) C dL_misfit_3 rfl 1 rfl ?_
    refine j_callVC (pc := 4) C [.int x] [.int (nI 0), .ref o] (rm0 := ({ frames := 8, cells := 1, slots := 6, locals := 160 } : Room)) (k' := 1) (n' := 6) Q.1 (c_X9_misfit_1 (xl X) (xw X) hst9 hw hc ha0 c1) mp_X9_misfit wm_979 ha0 rfl rfl (Nat.le_of_ble_eq_true rfl) rfl rfl (Nat.le_of_ble_eq_true rfl) dL_misfit_4 ⟨by decide, by decide⟩ ⟨Nat.le_of_ble_eq_true rfl, Nat.le_of_ble_eq_true rfl⟩ rfl rfl (fun E9 σ9 hE9 => ?_) (fun _ _ h => (h : False).elim)
    rw [hE9.1, hE9.2]
    refine ⟨12, ⟨[], (⟨0, 9, 12, 24⟩ : ExceptionTableEntry), [], "java/lang/IndexOutOfBoundsException", htab, (fun _ z => nomatch z), by decide, by decide, wm_556, by decide +kernel, rfl⟩, fun q9 => ?_⟩
    refine j_astore_n (pc := 12) C [(3, .ref q9), (0, .ref a0), (1, .int x), (2, .ref o)] dL_misfit_12 rfl (by decide) rfl ?_
    refine j_iconst (pc := 13) C (nI 1) dL_misfit_13 (by decide) ?_
    exact j_ireturn (pc := 14) C Q dL_misfit_14 (Nat.le_of_ble_eq_true rfl) (Nat.le_of_ble_eq_true rfl) (by rw [hs]; exact ⟨rfl, show (1 : Nat) < 4 by decide, fun z => absurd z (show ¬ (1 : Nat) = 0 by decide), hw, hc, Fr.rf⟩)
  · obtain ⟨n1, n2⟩ := nn_t (of_decide_eq_true (ts_nf c1))
    refine j_eq rfl (lv' := [(0, .ref a0), (1, .int (nI (xN x))), (2, .ref o)]) (by rw [← n2]) rfl ?_
    have hs : s_misfit S x = (0, noneI (misF S (nW S) 0 (xN x)), S) := if_neg c1
    refine j_aload_n (pc := 0) C dL_misfit_0 rfl 2 rfl ?_
    refine j_iconst (pc := 1) C (nI 0) dL_misfit_1 (by decide) ?_
    refine j_aload_n (pc := 2) C dL_misfit_2 rfl 0 rfl ?_
    refine j_iload_n (pc := 3) C dL_misfit_3 rfl 1 rfl ?_
    refine j_callV (pc := 4) C [.int (nI (xN x))] [.int (nI 0), .ref o] (rm0 := ({ frames := 8, cells := 1, slots := 6, locals := 160 } : Room)) (k' := 0) (n' := 0) Q.1 (c_X9_misfit_0 (xl X) (xw X) hw hc ha0 n1) mp_X9_misfit wm_979 ha0 rfl rfl (by decide) rfl rfl (Nat.le_of_ble_eq_true rfl) dL_misfit_4 ⟨by decide, by decide⟩ ⟨Nat.le_of_ble_eq_true rfl, Nat.le_of_ble_eq_true rfl⟩ rfl rfl (det1 ?_)
    have hc1 := hc
    have hF1 : Fr tgU σ σ := Fr.rf
    refine j_i2l (pc := 7) C dL_misfit_7 ?_
    refine j_last (pc := 8) C (p := 0) (M := 1) ho rfl hN (by decide) (by decide) dL_misfit_8 ?_
    refine j_goto (pc := 9) C 15 dL_misfit_9 (by decide) ?_
    refine j_iconst (pc := 15) C (nI 0) dL_misfit_15 (by decide) ?_
    exact j_ireturn (pc := 16) C Q dL_misfit_16 (Nat.le_of_ble_eq_true rfl) (Nat.le_of_ble_eq_true rfl) (by rw [hs]; exact ⟨rfl, show (0 : Nat) < 4 by decide, fun _ => sL_eq, hw, CI.out hc1 hw, out_fr hF1⟩)
set_option maxHeartbeats 4000000 in
set_option maxRecDepth 100000 in
theorem w_claims (L9 : Launch) (w9 : Wd) (hst9 : L9.stackTraces = false) {σ : HS} {S : SP} (hw : WF S) (hc : CI S σ) {a0 : Nat} (ha0 : At σ (9, 0) a0) {o : Nat} (ho : At σ (12, 300) o) (hN : hN σ 12 300 = 1) (x : Int32) (b : Bool) : MW L9 w9 yL_claims cL_claims 5 (some .int) [(0, 10, 13, 24)] ({ frames := 8, cells := 1, slots := 6, locals := 185 } : Room) [.ref a0, .int x, .int (bI b), .ref o] σ (fun a9 σ' => a9 = some (.int (nI (s_claims S x b).1)) ∧ (s_claims S x b).1 < 4 ∧ ((s_claims S x b).1 = 0 → hL σ' 768 300 0 = (s_claims S x b).2.1.toInt64) ∧ WF (s_claims S x b).2.2 ∧ CI (s_claims S x b).2.2 σ' ∧ Fr tgV σ σ') := by
  refine MW.of (by decide +kernel) (Nat.le_of_ble_eq_true rfl) (fun X hX1 hX2 C Q htab => ?_)
  subst hX1; subst hX2
  show J X 0 0 σ [(0, .ref a0), (1, .int x), (2, .int (bI b)), (3, .ref o)] [] 0
  obtain ⟨hp, he, hx, hf9, hd⟩ := id hc
  obtain ⟨z1, z2, z3, z4⟩ := id hf9
  obtain ⟨ef, e1, e2⟩ := id he
  have gS := hw.1.1
  have gC := hw.1.2.2.2.1
  have gR := hw.2.1.1
  have gL := hw.2.2.1.1
  have gW := hw.2.2.2.1.1
  have gD := hw.2.2.2.2.1
  by_cases c1 : inI x (nR S) = false
  · have hs : s_claims S x b = (1, 0, S) := if_pos c1
    refine j_aload_n (pc := 0) C dL_claims_0 rfl 3 rfl ?_
    refine j_iconst (pc := 1) C (nI 0) dL_claims_1 (by decide) ?_
    refine j_aload_n (pc := 2) C dL_claims_2 rfl 0 rfl ?_
    refine j_iload_n (pc := 3) C dL_claims_3 rfl 1 rfl ?_
    refine j_iload_n (pc := 4) C dL_claims_4 rfl 2 rfl ?_
    refine j_callVC (pc := 5) C [.int x, .int (bI b)] [.int (nI 0), .ref o] (rm0 := ({ frames := 8, cells := 1, slots := 6, locals := 185 } : Room)) (k' := 1) (n' := 6) Q.1 (c_X9_claims_1 (xl X) (xw X) hst9 hw hc ha0 c1) mp_X9_claims wm_986 ha0 rfl rfl (Nat.le_of_ble_eq_true rfl) rfl rfl (Nat.le_of_ble_eq_true rfl) dL_claims_5 ⟨by decide, by decide⟩ ⟨Nat.le_of_ble_eq_true rfl, Nat.le_of_ble_eq_true rfl⟩ rfl rfl (fun E9 σ9 hE9 => ?_) (fun _ _ h => (h : False).elim)
    rw [hE9.1, hE9.2]
    refine ⟨13, ⟨[], (⟨0, 10, 13, 24⟩ : ExceptionTableEntry), [], "java/lang/IndexOutOfBoundsException", htab, (fun _ z => nomatch z), by decide, by decide, wm_556, by decide +kernel, rfl⟩, fun q9 => ?_⟩
    refine j_astore (pc := 13) C [(4, .ref q9), (0, .ref a0), (1, .int x), (2, .int (bI b)), (3, .ref o)] dL_claims_13 (by decide) rfl ?_
    refine j_iconst (pc := 15) C (nI 1) dL_claims_15 (by decide) ?_
    exact j_ireturn (pc := 16) C Q dL_claims_16 (Nat.le_of_ble_eq_true rfl) (Nat.le_of_ble_eq_true rfl) (by rw [hs]; exact ⟨rfl, show (1 : Nat) < 4 by decide, fun z => absurd z (show ¬ (1 : Nat) = 0 by decide), hw, hc, Fr.rf⟩)
  · obtain ⟨n1, n2⟩ := inI_t (ts_nf c1)
    refine j_eq rfl (lv' := [(0, .ref a0), (1, .int (nI (xN x))), (2, .int (bI b)), (3, .ref o)]) (by rw [← n2]) rfl ?_
    cases b with
    | false =>
      show J X 0 0 σ [(0, .ref a0), (1, .int (nI (xN x))), (2, .int (bI false)), (3, .ref o)] [] 0
      have hs : s_claims S x false = (0, nI (fb_ct (clm S (xN x) false) (nW S)), S) := (if_neg c1).trans (by rw [clm_all])
      refine j_aload_n (pc := 0) C dL_claims_0 rfl 3 rfl ?_
      refine j_iconst (pc := 1) C (nI 0) dL_claims_1 (by decide) ?_
      refine j_aload_n (pc := 2) C dL_claims_2 rfl 0 rfl ?_
      refine j_iload_n (pc := 3) C dL_claims_3 rfl 1 rfl ?_
      refine j_iload_n (pc := 4) C dL_claims_4 rfl 2 rfl ?_
      refine j_callV (pc := 5) C [.int (nI (xN x)), .int (bI false)] [.int (nI 0), .ref o] (rm0 := ({ frames := 8, cells := 1, slots := 6, locals := 185 } : Room)) (k' := 0) (n' := 0) Q.1 (c_X9_claims_f (xl X) (xw X) hw hc ha0 n1) mp_X9_claims wm_986 ha0 rfl rfl (by decide) rfl rfl (Nat.le_of_ble_eq_true rfl) dL_claims_5 ⟨by decide, by decide⟩ ⟨Nat.le_of_ble_eq_true rfl, Nat.le_of_ble_eq_true rfl⟩ rfl rfl (det1 ?_)
      have hc1 := hc
      have hF1 : Fr tgU σ σ := Fr.rf
      refine j_i2l (pc := 8) C dL_claims_8 ?_
      refine j_last (pc := 9) C (p := 0) (M := 1) ho rfl hN (by decide) (by decide) dL_claims_9 ?_
      refine j_goto (pc := 10) C 17 dL_claims_10 (by decide) ?_
      refine j_iconst (pc := 17) C (nI 0) dL_claims_17 (by decide) ?_
      exact j_ireturn (pc := 18) C Q dL_claims_18 (Nat.le_of_ble_eq_true rfl) (Nat.le_of_ble_eq_true rfl) (by rw [hs]; exact ⟨rfl, show (0 : Nat) < 4 by decide, fun _ => sL_eq, hw, CI.out hc1 hw, out_fr hF1⟩)
    | true =>
      show J X 0 0 σ [(0, .ref a0), (1, .int (nI (xN x))), (2, .int (bI true)), (3, .ref o)] [] 0
      have hs : s_claims S x true = (0, nI (fb_ct (clm S (xN x) true) (nW S)), S) := (if_neg c1).trans (by rw [clm_all])
      refine j_aload_n (pc := 0) C dL_claims_0 rfl 3 rfl ?_
      refine j_iconst (pc := 1) C (nI 0) dL_claims_1 (by decide) ?_
      refine j_aload_n (pc := 2) C dL_claims_2 rfl 0 rfl ?_
      refine j_iload_n (pc := 3) C dL_claims_3 rfl 1 rfl ?_
      refine j_iload_n (pc := 4) C dL_claims_4 rfl 2 rfl ?_
      refine j_callV (pc := 5) C [.int (nI (xN x)), .int (bI true)] [.int (nI 0), .ref o] (rm0 := ({ frames := 8, cells := 1, slots := 6, locals := 185 } : Room)) (k' := 0) (n' := 0) Q.1 (c_X9_claims_t (xl X) (xw X) hw hc ha0 n1) mp_X9_claims wm_986 ha0 rfl rfl (by decide) rfl rfl (Nat.le_of_ble_eq_true rfl) dL_claims_5 ⟨by decide, by decide⟩ ⟨Nat.le_of_ble_eq_true rfl, Nat.le_of_ble_eq_true rfl⟩ rfl rfl (det1 ?_)
      have hc1 := hc
      have hF1 : Fr tgU σ σ := Fr.rf
      refine j_i2l (pc := 8) C dL_claims_8 ?_
      refine j_last (pc := 9) C (p := 0) (M := 1) ho rfl hN (by decide) (by decide) dL_claims_9 ?_
      refine j_goto (pc := 10) C 17 dL_claims_10 (by decide) ?_
      refine j_iconst (pc := 17) C (nI 0) dL_claims_17 (by decide) ?_
      exact j_ireturn (pc := 18) C Q dL_claims_18 (Nat.le_of_ble_eq_true rfl) (Nat.le_of_ble_eq_true rfl) (by rw [hs]; exact ⟨rfl, show (0 : Nat) < 4 by decide, fun _ => sL_eq, hw, CI.out hc1 hw, out_fr hF1⟩)
set_option maxHeartbeats 4000000 in
set_option maxRecDepth 100000 in
theorem w_pairs (L9 : Launch) (w9 : Wd) (hst9 : L9.stackTraces = false) {σ : HS} {S : SP} (hw : WF S) (hc : CI S σ) {a0 : Nat} (ha0 : At σ (9, 0) a0) {o : Nat} (ho : At σ (12, 300) o) (hN : hN σ 12 300 = 1) (x : Int32) (y : Int32) : MW L9 w9 yL_pairs cL_pairs 5 (some .int) [(0, 10, 13, 24), (0, 10, 17, 13)] ({ frames := 8, cells := 1, slots := 6, locals := 128 } : Room) [.ref a0, .int x, .int y, .ref o] σ (fun a9 σ' => a9 = some (.int (nI (s_pairs S x y).1)) ∧ (s_pairs S x y).1 < 4 ∧ ((s_pairs S x y).1 = 0 → hL σ' 768 300 0 = (s_pairs S x y).2.1.toInt64) ∧ WF (s_pairs S x y).2.2 ∧ CI (s_pairs S x y).2.2 σ' ∧ Fr tgV σ σ') := by
  refine MW.of (by decide +kernel) (Nat.le_of_ble_eq_true rfl) (fun X hX1 hX2 C Q htab => ?_)
  subst hX1; subst hX2
  show J X 0 0 σ [(0, .ref a0), (1, .int x), (2, .int y), (3, .ref o)] [] 0
  obtain ⟨hp, he, hx, hf9, hd⟩ := id hc
  obtain ⟨z1, z2, z3, z4⟩ := id hf9
  obtain ⟨ef, e1, e2⟩ := id he
  have gS := hw.1.1
  have gC := hw.1.2.2.2.1
  have gR := hw.2.1.1
  have gL := hw.2.2.1.1
  have gW := hw.2.2.2.1.1
  have gD := hw.2.2.2.2.1
  by_cases c1 : (inI x (nS S) && inI y (nS S)) = false
  · have hs : s_pairs S x y = (1, 0, S) := if_pos c1
    refine j_aload_n (pc := 0) C dL_pairs_0 rfl 3 rfl ?_
    refine j_iconst (pc := 1) C (nI 0) dL_pairs_1 (by decide) ?_
    refine j_aload_n (pc := 2) C dL_pairs_2 rfl 0 rfl ?_
    refine j_iload_n (pc := 3) C dL_pairs_3 rfl 1 rfl ?_
    refine j_iload_n (pc := 4) C dL_pairs_4 rfl 2 rfl ?_
    refine j_callVC (pc := 5) C [.int x, .int y] [.int (nI 0), .ref o] (rm0 := ({ frames := 8, cells := 1, slots := 6, locals := 128 } : Room)) (k' := 1) (n' := 6) Q.1 (c_X9_pairs_1 (xl X) (xw X) hst9 hw hc ha0 c1) mp_X9_pairs wm_1002 ha0 rfl rfl (Nat.le_of_ble_eq_true rfl) rfl rfl (Nat.le_of_ble_eq_true rfl) dL_pairs_5 ⟨by decide, by decide⟩ ⟨Nat.le_of_ble_eq_true rfl, Nat.le_of_ble_eq_true rfl⟩ rfl rfl (fun E9 σ9 hE9 => ?_) (fun _ _ h => (h : False).elim)
    rw [hE9.1, hE9.2]
    refine ⟨13, ⟨[], (⟨0, 10, 13, 24⟩ : ExceptionTableEntry), [(⟨0, 10, 17, 13⟩ : ExceptionTableEntry)], "java/lang/IndexOutOfBoundsException", htab, (fun _ z => nomatch z), by decide, by decide, wm_556, by decide +kernel, rfl⟩, fun q9 => ?_⟩
    refine j_astore (pc := 13) C [(4, .ref q9), (0, .ref a0), (1, .int x), (2, .int y), (3, .ref o)] dL_pairs_13 (by decide) rfl ?_
    refine j_iconst (pc := 15) C (nI 1) dL_pairs_15 (by decide) ?_
    exact j_ireturn (pc := 16) C Q dL_pairs_16 (Nat.le_of_ble_eq_true rfl) (Nat.le_of_ble_eq_true rfl) (by rw [hs]; exact ⟨rfl, show (1 : Nat) < 4 by decide, fun z => absurd z (show ¬ (1 : Nat) = 0 by decide), hw, hc, Fr.rf⟩)
  · obtain ⟨b1, b2⟩ := and2 c1
    obtain ⟨n1, n2⟩ := inI_t b1
    obtain ⟨m1, m2⟩ := inI_t b2
    refine j_eq rfl (lv' := [(0, .ref a0), (1, .int (nI (xN x))), (2, .int y), (3, .ref o)]) (by rw [← n2]) rfl ?_
    refine j_eq rfl (lv' := [(0, .ref a0), (1, .int (nI (xN x))), (2, .int (nI (xN y))), (3, .ref o)]) (by rw [← m2]) rfl ?_
    by_cases c2 : xN x = xN y
    · have hs : s_pairs S x y = (2, 0, S) := (if_neg c1).trans (if_pos c2)
      refine j_aload_n (pc := 0) C dL_pairs_0 rfl 3 rfl ?_
      refine j_iconst (pc := 1) C (nI 0) dL_pairs_1 (by decide) ?_
      refine j_aload_n (pc := 2) C dL_pairs_2 rfl 0 rfl ?_
      refine j_iload_n (pc := 3) C dL_pairs_3 rfl 1 rfl ?_
      refine j_iload_n (pc := 4) C dL_pairs_4 rfl 2 rfl ?_
      refine j_callVC (pc := 5) C [.int (nI (xN x)), .int (nI (xN y))] [.int (nI 0), .ref o] (rm0 := ({ frames := 8, cells := 1, slots := 6, locals := 128 } : Room)) (k' := 1) (n' := 6) Q.1 (c_X9_pairs_2y (xl X) (xw X) hst9 hw hc ha0 n1 c2) mp_X9_pairs wm_1002 ha0 rfl rfl (Nat.le_of_ble_eq_true rfl) rfl rfl (Nat.le_of_ble_eq_true rfl) dL_pairs_5 ⟨by decide, by decide⟩ ⟨Nat.le_of_ble_eq_true rfl, Nat.le_of_ble_eq_true rfl⟩ rfl rfl (fun E9 σ9 hE9 => ?_) (fun _ _ h => (h : False).elim)
      rw [hE9.1, hE9.2]
      refine ⟨17, ⟨[(⟨0, 10, 13, 24⟩ : ExceptionTableEntry)], (⟨0, 10, 17, 13⟩ : ExceptionTableEntry), [], "java/lang/IllegalArgumentException", htab, (List.forall_mem_cons.mpr ⟨Or.inr ⟨by decide, "java/lang/IndexOutOfBoundsException", wm_556, by decide +kernel⟩, (fun _ z => nomatch z)⟩), by decide, by decide, wm_371, by decide +kernel, rfl⟩, fun q9 => ?_⟩
      refine j_astore (pc := 17) C [(4, .ref q9), (0, .ref a0), (1, .int (nI (xN x))), (2, .int (nI (xN y))), (3, .ref o)] dL_pairs_17 (by decide) rfl ?_
      refine j_iconst (pc := 19) C (nI 2) dL_pairs_19 (by decide) ?_
      exact j_ireturn (pc := 20) C Q dL_pairs_20 (Nat.le_of_ble_eq_true rfl) (Nat.le_of_ble_eq_true rfl) (by rw [hs]; exact ⟨rfl, show (2 : Nat) < 4 by decide, fun z => absurd z (show ¬ (2 : Nat) = 0 by decide), hw, hc, Fr.rf⟩)
    · have hs : s_pairs S x y = (0, nI (pairs9 S (xN x) (xN y)), S) := (if_neg c1).trans (if_neg c2)
      refine j_aload_n (pc := 0) C dL_pairs_0 rfl 3 rfl ?_
      refine j_iconst (pc := 1) C (nI 0) dL_pairs_1 (by decide) ?_
      refine j_aload_n (pc := 2) C dL_pairs_2 rfl 0 rfl ?_
      refine j_iload_n (pc := 3) C dL_pairs_3 rfl 1 rfl ?_
      refine j_iload_n (pc := 4) C dL_pairs_4 rfl 2 rfl ?_
      refine j_callV (pc := 5) C [.int (nI (xN x)), .int (nI (xN y))] [.int (nI 0), .ref o] (rm0 := ({ frames := 8, cells := 1, slots := 6, locals := 128 } : Room)) (k' := 0) (n' := 0) Q.1 (c_X9_pairs_0 (xl X) (xw X) hw hc ha0 n1 m1 c2) mp_X9_pairs wm_1002 ha0 rfl rfl (by decide) rfl rfl (Nat.le_of_ble_eq_true rfl) dL_pairs_5 ⟨by decide, by decide⟩ ⟨Nat.le_of_ble_eq_true rfl, Nat.le_of_ble_eq_true rfl⟩ rfl rfl (det1 ?_)
      have hc1 := hc
      have hF1 : Fr tgU σ σ := Fr.rf
      refine j_i2l (pc := 8) C dL_pairs_8 ?_
      refine j_last (pc := 9) C (p := 0) (M := 1) ho rfl hN (by decide) (by decide) dL_pairs_9 ?_
      refine j_goto (pc := 10) C 21 dL_pairs_10 (by decide) ?_
      refine j_iconst (pc := 21) C (nI 0) dL_pairs_21 (by decide) ?_
      exact j_ireturn (pc := 22) C Q dL_pairs_22 (Nat.le_of_ble_eq_true rfl) (Nat.le_of_ble_eq_true rfl) (by rw [hs]; exact ⟨rfl, show (0 : Nat) < 4 by decide, fun _ => sL_eq, hw, CI.out hc1 hw, out_fr hF1⟩)
set_option maxHeartbeats 4000000 in
set_option maxRecDepth 100000 in
theorem w_holes (L9 : Launch) (w9 : Wd) (hst9 : L9.stackTraces = false) {σ : HS} {S : SP} (hw : WF S) (hc : CI S σ) {a0 : Nat} (ha0 : At σ (9, 0) a0) {o : Nat} (ho : At σ (12, 300) o) (hN : hN σ 12 300 = 1) (x : Int32) : MW L9 w9 yL_holes cL_holes 4 (some .int) [(0, 9, 12, 24)] ({ frames := 8, cells := 1, slots := 6, locals := 131 } : Room) [.ref a0, .int x, .ref o] σ (fun a9 σ' => a9 = some (.int (nI (s_holes S x).1)) ∧ (s_holes S x).1 < 4 ∧ ((s_holes S x).1 = 0 → hL σ' 768 300 0 = (s_holes S x).2.1.toInt64) ∧ WF (s_holes S x).2.2 ∧ CI (s_holes S x).2.2 σ' ∧ Fr tgV σ σ') := by
  refine MW.of (by decide +kernel) (Nat.le_of_ble_eq_true rfl) (fun X hX1 hX2 C Q htab => ?_)
  subst hX1; subst hX2
  show J X 0 0 σ [(0, .ref a0), (1, .int x), (2, .ref o)] [] 0
  obtain ⟨hp, he, hx, hf9, hd⟩ := id hc
  obtain ⟨z1, z2, z3, z4⟩ := id hf9
  obtain ⟨ef, e1, e2⟩ := id he
  have gS := hw.1.1
  have gC := hw.1.2.2.2.1
  have gR := hw.2.1.1
  have gL := hw.2.2.1.1
  have gW := hw.2.2.2.1.1
  have gD := hw.2.2.2.2.1
  by_cases c1 : isLex S x = false
  · have hs : s_holes S x = (1, 0, S) := if_pos c1
    refine j_aload_n (pc := 0) C dL_holes_0 rfl 2 rfl ?_
    refine j_iconst (pc := 1) C (nI 0) dL_holes_1 (by decide) ?_
    refine j_aload_n (pc := 2) C dL_holes_2 rfl 0 rfl ?_
    refine j_iload_n (pc := 3) C dL_holes_3 rfl 1 rfl ?_
    refine j_callVC (pc := 4) C [.int x] [.int (nI 0), .ref o] (rm0 := ({ frames := 8, cells := 1, slots := 6, locals := 131 } : Room)) (k' := 1) (n' := 6) Q.1 (c_X9_holes_1 (xl X) (xw X) hst9 hw hc ha0 c1) mp_X9_holes wm_1015 ha0 rfl rfl (Nat.le_of_ble_eq_true rfl) rfl rfl (Nat.le_of_ble_eq_true rfl) dL_holes_4 ⟨by decide, by decide⟩ ⟨Nat.le_of_ble_eq_true rfl, Nat.le_of_ble_eq_true rfl⟩ rfl rfl (fun E9 σ9 hE9 => ?_) (fun _ _ h => (h : False).elim)
    rw [hE9.1, hE9.2]
    refine ⟨12, ⟨[], (⟨0, 9, 12, 24⟩ : ExceptionTableEntry), [], "java/lang/IndexOutOfBoundsException", htab, (fun _ z => nomatch z), by decide, by decide, wm_556, by decide +kernel, rfl⟩, fun q9 => ?_⟩
    refine j_astore_n (pc := 12) C [(3, .ref q9), (0, .ref a0), (1, .int x), (2, .ref o)] dL_holes_12 rfl (by decide) rfl ?_
    refine j_iconst (pc := 13) C (nI 1) dL_holes_13 (by decide) ?_
    exact j_ireturn (pc := 14) C Q dL_holes_14 (Nat.le_of_ble_eq_true rfl) (Nat.le_of_ble_eq_true rfl) (by rw [hs]; exact ⟨rfl, show (1 : Nat) < 4 by decide, fun z => absurd z (show ¬ (1 : Nat) = 0 by decide), hw, hc, Fr.rf⟩)
  · obtain ⟨n1, n2, n3⟩ := isLex_t (ts_nf c1)
    refine j_eq rfl (lv' := [(0, .ref a0), (1, .int (nI (xN x))), (2, .ref o)]) (by rw [← n3]) rfl ?_
    have hs : s_holes S x = (0, nI (255 - heardIn S (xN x) (nW S)), S) := if_neg c1
    refine j_aload_n (pc := 0) C dL_holes_0 rfl 2 rfl ?_
    refine j_iconst (pc := 1) C (nI 0) dL_holes_1 (by decide) ?_
    refine j_aload_n (pc := 2) C dL_holes_2 rfl 0 rfl ?_
    refine j_iload_n (pc := 3) C dL_holes_3 rfl 1 rfl ?_
    refine j_callV (pc := 4) C [.int (nI (xN x))] [.int (nI 0), .ref o] (rm0 := ({ frames := 8, cells := 1, slots := 6, locals := 131 } : Room)) (k' := 0) (n' := 0) Q.1 (c_X9_holes_0 (xl X) (xw X) hw hc ha0 n1 n2) mp_X9_holes wm_1015 ha0 rfl rfl (by decide) rfl rfl (Nat.le_of_ble_eq_true rfl) dL_holes_4 ⟨by decide, by decide⟩ ⟨Nat.le_of_ble_eq_true rfl, Nat.le_of_ble_eq_true rfl⟩ rfl rfl (det1 ?_)
    have hc1 := hc
    have hF1 : Fr tgU σ σ := Fr.rf
    refine j_i2l (pc := 7) C dL_holes_7 ?_
    refine j_last (pc := 8) C (p := 0) (M := 1) ho rfl hN (by decide) (by decide) dL_holes_8 ?_
    refine j_goto (pc := 9) C 15 dL_holes_9 (by decide) ?_
    refine j_iconst (pc := 15) C (nI 0) dL_holes_15 (by decide) ?_
    exact j_ireturn (pc := 16) C Q dL_holes_16 (Nat.le_of_ble_eq_true rfl) (Nat.le_of_ble_eq_true rfl) (by rw [hs]; exact ⟨rfl, show (0 : Nat) < 4 by decide, fun _ => sL_eq, hw, CI.out hc1 hw, out_fr hF1⟩)
set_option maxHeartbeats 4000000 in
set_option maxRecDepth 100000 in
theorem w_shared (L9 : Launch) (w9 : Wd) (hst9 : L9.stackTraces = false) {σ : HS} {S : SP} (hw : WF S) (hc : CI S σ) {a0 : Nat} (ha0 : At σ (9, 0) a0) {o : Nat} (ho : At σ (12, 300) o) (hN : hN σ 12 300 = 1) (x : Int32) (y : Int32) : MW L9 w9 yL_shared cL_shared 5 (some .int) [(0, 10, 13, 24)] ({ frames := 8, cells := 1, slots := 6, locals := 161 } : Room) [.ref a0, .int x, .int y, .ref o] σ (fun a9 σ' => a9 = some (.int (nI (s_shared S x y).1)) ∧ (s_shared S x y).1 < 4 ∧ ((s_shared S x y).1 = 0 → hL σ' 768 300 0 = (s_shared S x y).2.1.toInt64) ∧ WF (s_shared S x y).2.2 ∧ CI (s_shared S x y).2.2 σ' ∧ Fr tgV σ σ') := by
  refine MW.of (by decide +kernel) (Nat.le_of_ble_eq_true rfl) (fun X hX1 hX2 C Q htab => ?_)
  subst hX1; subst hX2
  show J X 0 0 σ [(0, .ref a0), (1, .int x), (2, .int y), (3, .ref o)] [] 0
  obtain ⟨hp, he, hx, hf9, hd⟩ := id hc
  obtain ⟨z1, z2, z3, z4⟩ := id hf9
  obtain ⟨ef, e1, e2⟩ := id he
  have gS := hw.1.1
  have gC := hw.1.2.2.2.1
  have gR := hw.2.1.1
  have gL := hw.2.2.1.1
  have gW := hw.2.2.2.1.1
  have gD := hw.2.2.2.2.1
  by_cases c1 : (inI x 4 && inI y 4) = false
  · have hs : s_shared S x y = (1, 0, S) := if_pos c1
    refine j_aload_n (pc := 0) C dL_shared_0 rfl 3 rfl ?_
    refine j_iconst (pc := 1) C (nI 0) dL_shared_1 (by decide) ?_
    refine j_aload_n (pc := 2) C dL_shared_2 rfl 0 rfl ?_
    refine j_iload_n (pc := 3) C dL_shared_3 rfl 1 rfl ?_
    refine j_iload_n (pc := 4) C dL_shared_4 rfl 2 rfl ?_
    refine j_callVC (pc := 5) C [.int x, .int y] [.int (nI 0), .ref o] (rm0 := ({ frames := 8, cells := 1, slots := 6, locals := 161 } : Room)) (k' := 1) (n' := 6) Q.1 (c_X9_shared_1 (xl X) (xw X) hst9 hw hc ha0 c1) mp_X9_shared wm_1022 ha0 rfl rfl (Nat.le_of_ble_eq_true rfl) rfl rfl (Nat.le_of_ble_eq_true rfl) dL_shared_5 ⟨by decide, by decide⟩ ⟨Nat.le_of_ble_eq_true rfl, Nat.le_of_ble_eq_true rfl⟩ rfl rfl (fun E9 σ9 hE9 => ?_) (fun _ _ h => (h : False).elim)
    rw [hE9.1, hE9.2]
    refine ⟨13, ⟨[], (⟨0, 10, 13, 24⟩ : ExceptionTableEntry), [], "java/lang/IndexOutOfBoundsException", htab, (fun _ z => nomatch z), by decide, by decide, wm_556, by decide +kernel, rfl⟩, fun q9 => ?_⟩
    refine j_astore (pc := 13) C [(4, .ref q9), (0, .ref a0), (1, .int x), (2, .int y), (3, .ref o)] dL_shared_13 (by decide) rfl ?_
    refine j_iconst (pc := 15) C (nI 1) dL_shared_15 (by decide) ?_
    exact j_ireturn (pc := 16) C Q dL_shared_16 (Nat.le_of_ble_eq_true rfl) (Nat.le_of_ble_eq_true rfl) (by rw [hs]; exact ⟨rfl, show (1 : Nat) < 4 by decide, fun z => absurd z (show ¬ (1 : Nat) = 0 by decide), hw, hc, Fr.rf⟩)
  · obtain ⟨b1, b2⟩ := and2 c1
    obtain ⟨n1, n2⟩ := inI_t b1
    obtain ⟨m1, m2⟩ := inI_t b2
    refine j_eq rfl (lv' := [(0, .ref a0), (1, .int (nI (xN x))), (2, .int y), (3, .ref o)]) (by rw [← n2]) rfl ?_
    refine j_eq rfl (lv' := [(0, .ref a0), (1, .int (nI (xN x))), (2, .int (nI (xN y))), (3, .ref o)]) (by rw [← m2]) rfl ?_
    have hs : s_shared S x y = (0, nI (shared9 S (xN x) (xN y)), S) := if_neg c1
    refine j_aload_n (pc := 0) C dL_shared_0 rfl 3 rfl ?_
    refine j_iconst (pc := 1) C (nI 0) dL_shared_1 (by decide) ?_
    refine j_aload_n (pc := 2) C dL_shared_2 rfl 0 rfl ?_
    refine j_iload_n (pc := 3) C dL_shared_3 rfl 1 rfl ?_
    refine j_iload_n (pc := 4) C dL_shared_4 rfl 2 rfl ?_
    refine j_callV (pc := 5) C [.int (nI (xN x)), .int (nI (xN y))] [.int (nI 0), .ref o] (rm0 := ({ frames := 8, cells := 1, slots := 6, locals := 161 } : Room)) (k' := 0) (n' := 0) Q.1 (c_X9_shared_0 (xl X) (xw X) hw hc ha0 n1 m1) mp_X9_shared wm_1022 ha0 rfl rfl (by decide) rfl rfl (Nat.le_of_ble_eq_true rfl) dL_shared_5 ⟨by decide, by decide⟩ ⟨Nat.le_of_ble_eq_true rfl, Nat.le_of_ble_eq_true rfl⟩ rfl rfl (det1 ?_)
    have hc1 := hc
    have hF1 : Fr tgU σ σ := Fr.rf
    refine j_i2l (pc := 8) C dL_shared_8 ?_
    refine j_last (pc := 9) C (p := 0) (M := 1) ho rfl hN (by decide) (by decide) dL_shared_9 ?_
    refine j_goto (pc := 10) C 17 dL_shared_10 (by decide) ?_
    refine j_iconst (pc := 17) C (nI 0) dL_shared_17 (by decide) ?_
    exact j_ireturn (pc := 18) C Q dL_shared_18 (Nat.le_of_ble_eq_true rfl) (Nat.le_of_ble_eq_true rfl) (by rw [hs]; exact ⟨rfl, show (0 : Nat) < 4 by decide, fun _ => sL_eq, hw, CI.out hc1 hw, out_fr hF1⟩)
