set_option maxHeartbeats 4000000 in
set_option maxRecDepth 100000 in
theorem c_X9_length_0 (L9 : Launch) (w9 : Wd) {σ : HS} {S : SP} (hw : WF S) (hc : CI S σ) {a0 : Nat} (ha0 : At σ (9, 0) a0) {l : Nat} (n1 : l < nL S) (n2 : th S l = 1) {c : Nat} (h3 : c < 8) : MJ L9 w9 yX9_length cX9_length 4 (some .int) ({ frames := 5, cells := 0, slots := 0, locals := 114 } : Room) [.ref a0, .int (nI l), .int (nI c)] σ (fun a9 σ' => a9 = some (.int (nI (word9 S l c).length)) ∧ σ' = σ) := by
  refine MJ.of (by decide +kernel) (Nat.le_of_ble_eq_true rfl) (fun X hX1 hX2 C Q hinit => ?_)
  subst hX1; subst hX2
  show J X 0 0 σ [(0, .ref a0), (1, .int (nI l)), (2, .int (nI c))] [] 0
  obtain ⟨hp, he, hx, hf9, hd⟩ := id hc
  obtain ⟨z1, z2, z3, z4⟩ := id hf9
  obtain ⟨ef, e1, e2⟩ := id he
  have gS := hw.1.1
  have gC := hw.1.2.2.2.1
  have gR := hw.2.1.1
  have gL := hw.2.2.1.1
  have gW := hw.2.2.2.1.1
  have gD := hw.2.2.2.2.1
  have hon : on9 S < 2 ^ 31 := Nat.lt_of_lt_of_le hw.2.1.2.2.2.2 (Nat.pow_le_pow_right (by decide) (by omega))
  refine j_aload_n (pc := 0) C dX9_length_0 rfl 0 rfl ?_
  refine j_iload_n (pc := 1) C dX9_length_1 rfl 1 rfl ?_
  refine j_callV (pc := 2) C [.int (nI l)] [] (rm0 := ({ frames := 5, cells := 0, slots := 0, locals := 114 } : Room)) (k' := 0) (n' := 0) Q.1 (c_X9_lexemeNumbered_t (xl X) (xw X) hw hc ha0 n1 n2) mp_X9_lexemeNumbered wm_636 ha0 rfl rfl (by decide) rfl rfl (Nat.le_of_ble_eq_true rfl) dX9_length_2 ⟨by decide, by decide⟩ ⟨Nat.le_of_ble_eq_true rfl, Nat.le_of_ble_eq_true rfl⟩ rfl rfl (det1 ?_)
  refine j_astore_n (pc := 5) C [(3, .ref (hG σ (4, l))), (0, .ref a0), (1, .int (nI l)), (2, .int (nI c))] dX9_length_5 rfl (by decide) rfl ?_
  refine j_iload_n (pc := 6) C dX9_length_6 rfl 3 rfl ?_
  refine j_callS (pc := 7) C [.int (nI c)] [] (rm0 := ({ frames := 5, cells := 0, slots := 0, locals := 114 } : Room)) (k' := 0) (n' := 0) Q.1 (c_X9_checkCell_t (xl X) (xw X) h3) mp_X9_checkCell wm_647 rfl rfl (Nat.le_of_ble_eq_true rfl) dX9_length_7 ⟨by decide, by decide⟩ ⟨Nat.le_of_ble_eq_true rfl, Nat.le_of_ble_eq_true rfl⟩ rfl rfl (det0 ?_)
  refine j_aload_n (pc := 10) C dX9_length_10 rfl 1 rfl ?_
  refine j_aload_n (pc := 11) C dX9_length_11 rfl 0 rfl ?_
  refine j_iload_n (pc := 12) C dX9_length_12 rfl 3 rfl ?_
  refine j_aload_n (pc := 13) C dX9_length_13 rfl 1 rfl ?_
  refine j_getA (pc := 14) C fp_X9_10 ha0 rfl (f := 576) rfl (6, 0) (hG σ (6, 0)) z2 (⟨hp.1.1, rfl⟩ : At _ (6, 0) _) dX9_length_14 ?_
  refine j_callV (pc := 17) C [] [.int (nI c), .ref (hG σ (4, l)), .ref a0] (rm0 := ({ frames := 5, cells := 0, slots := 0, locals := 114 } : Room)) (k' := 0) (n' := 0) Q.1 (c_X5_setOfOn (xl X) (xw X) hw hp (⟨hp.1.1, rfl⟩ : At _ (6, 0) _)) mp_X5_setOfOn wm_925 (⟨hp.1.1, rfl⟩ : At _ (6, 0) _) rfl rfl (by decide) rfl rfl (Nat.le_of_ble_eq_true rfl) dX9_length_17 ⟨by decide, by decide⟩ ⟨Nat.le_of_ble_eq_true rfl, Nat.le_of_ble_eq_true rfl⟩ rfl rfl (det1 ?_)
  refine j_callV (pc := 20) C [.ref (hG σ (4, l)), .int (nI c), .int (nI (on9 S))] [] (rm0 := ({ frames := 5, cells := 0, slots := 0, locals := 114 } : Room)) (k' := 0) (n' := 0) Q.1 (c_X9_wordOf (xl X) (xw X) hw hc ha0 n1 n2 ⟨hx.2.1.1.live n1, rfl⟩ h3 hon) mp_X9_wordOf wm_929 ha0 rfl rfl (by decide) rfl rfl (Nat.le_of_ble_eq_true rfl) dX9_length_20 ⟨by decide, by decide⟩ ⟨Nat.le_of_ble_eq_true rfl, Nat.le_of_ble_eq_true rfl⟩ rfl rfl (det1 ?_)
  refine j_callS (pc := 23) C [.long (enc5 (word9 S l c))] [] (rm0 := ({ frames := 5, cells := 0, slots := 0, locals := 114 } : Room)) (k' := 0) (n' := 0) Q.1 (c_X6_sizeOf (xl X) (xw X) ((word_ok hw n1).R hw.1)) mp_X6_sizeOf wm_223 rfl rfl (Nat.le_of_ble_eq_true rfl) dX9_length_23 ⟨by decide, by decide⟩ ⟨Nat.le_of_ble_eq_true rfl, Nat.le_of_ble_eq_true rfl⟩ rfl rfl (det1 ?_)
  exact j_ireturn (pc := 26) C Q dX9_length_26 (Nat.le_of_ble_eq_true rfl) (Nat.le_of_ble_eq_true rfl) (⟨rfl, rfl⟩)
set_option maxHeartbeats 4000000 in
set_option maxRecDepth 100000 in
theorem c_X9_length_1 (L9 : Launch) (w9 : Wd) (hst9 : L9.stackTraces = false) {σ : HS} {S : SP} (hw : WF S) (hc : CI S σ) {a0 : Nat} (ha0 : At σ (9, 0) a0) {x c : Int32} (h : (isLex S x && inI c 8) = false) : MX L9 w9 yX9_length cX9_length 4 (some .int) ({ frames := 7, cells := 1, slots := 6, locals := 108 } : Room) [.ref a0, .int x, .int c] σ (fun _ _ => False) (fun E σ' => E = "java/lang/IndexOutOfBoundsException" ∧ σ' = σ) := by
  refine MX.of (by decide +kernel) (Nat.le_of_ble_eq_true rfl) hst9 (fun X hX1 hX2 C Q NT => ?_)
  subst hX1; subst hX2
  show J X 0 0 σ [(0, .ref a0), (1, .int x), (2, .int c)] [] 0
  obtain ⟨hp, he, hx, hf9, hd⟩ := id hc
  obtain ⟨z1, z2, z3, z4⟩ := id hf9
  obtain ⟨ef, e1, e2⟩ := id he
  have gS := hw.1.1
  have gC := hw.1.2.2.2.1
  have gR := hw.2.1.1
  have gL := hw.2.2.1.1
  have gW := hw.2.2.2.1.1
  have gD := hw.2.2.2.2.1
  by_cases e1 : isLex S x = true
  · rw [e1, Bool.true_and] at h
    obtain ⟨n1, n2, n3⟩ := isLex_t e1
    generalize xN x = l at n1 n2 n3
    subst n3
    show J X 0 0 σ [(0, .ref a0), (1, .int (nI l)), (2, .int c)] [] 0
    refine j_aload_n (pc := 0) C dX9_length_0 rfl 0 rfl ?_
    refine j_iload_n (pc := 1) C dX9_length_1 rfl 1 rfl ?_
    refine j_callV (pc := 2) C [.int (nI l)] [] (rm0 := ({ frames := 7, cells := 1, slots := 6, locals := 108 } : Room)) (k' := 0) (n' := 0) Q.1 (c_X9_lexemeNumbered_t (xl X) (xw X) hw hc ha0 n1 n2) mp_X9_lexemeNumbered wm_636 ha0 rfl rfl (by decide) rfl rfl (Nat.le_of_ble_eq_true rfl) dX9_length_2 ⟨by decide, by decide⟩ ⟨Nat.le_of_ble_eq_true rfl, Nat.le_of_ble_eq_true rfl⟩ rfl rfl (det1 ?_)
    refine j_astore_n (pc := 5) C [(3, .ref (hG σ (4, l))), (0, .ref a0), (1, .int (nI l)), (2, .int c)] dX9_length_5 rfl (by decide) rfl ?_
    refine j_iload_n (pc := 6) C dX9_length_6 rfl 3 rfl ?_
    exact j_callSX (pc := 7) C [.int c] [] (rm0 := ({ frames := 7, cells := 1, slots := 6, locals := 108 } : Room)) (k' := 1) (n' := 6) Q NT (c_X9_checkCell_x (xl X) (xw X) hst9 h) mp_X9_checkCell wm_647 rfl rfl (Nat.le_of_ble_eq_true rfl) dX9_length_7 ⟨by decide, by decide⟩ ⟨Nat.le_of_ble_eq_true rfl, Nat.le_of_ble_eq_true rfl⟩ rfl rfl (fun _ _ h => h) (fun _ _ h => (h : False).elim)
  · refine j_aload_n (pc := 0) C dX9_length_0 rfl 0 rfl ?_
    refine j_iload_n (pc := 1) C dX9_length_1 rfl 1 rfl ?_
    exact j_callVX (pc := 2) C [.int x] [] (rm0 := ({ frames := 7, cells := 1, slots := 6, locals := 108 } : Room)) (k' := 1) (n' := 6) Q NT (c_X9_lexemeNumbered_x (xl X) (xw X) hst9 hw hc ha0 (ts_nt e1)) mp_X9_lexemeNumbered wm_636 ha0 rfl rfl (Nat.le_of_ble_eq_true rfl) rfl rfl (Nat.le_of_ble_eq_true rfl) dX9_length_2 ⟨by decide, by decide⟩ ⟨Nat.le_of_ble_eq_true rfl, Nat.le_of_ble_eq_true rfl⟩ rfl rfl (fun _ _ h => h) (fun _ _ h => (h : False).elim)
set_option maxHeartbeats 4000000 in
set_option maxRecDepth 100000 in
theorem c_X9_at_0 (L9 : Launch) (w9 : Wd) {σ : HS} {S : SP} (hw : WF S) (hc : CI S σ) {a0 : Nat} (ha0 : At σ (9, 0) a0) {l : Nat} (n1 : l < nL S) (n2 : th S l = 1) {c : Nat} (h3 : c < 8) {p : Nat} (h4 : p < 2 ^ 31) : MJ L9 w9 yX9_at cX9_at 5 (some .int) ({ frames := 5, cells := 0, slots := 0, locals := 114 } : Room) [.ref a0, .int (nI l), .int (nI c), .int (nI p)] σ (fun a9 σ' => a9 = some (.int (nI (cd (word9 S l c) p) - 1)) ∧ σ' = σ) := by
  refine MJ.of (by decide +kernel) (Nat.le_of_ble_eq_true rfl) (fun X hX1 hX2 C Q hinit => ?_)
  subst hX1; subst hX2
  show J X 0 0 σ [(0, .ref a0), (1, .int (nI l)), (2, .int (nI c)), (3, .int (nI p))] [] 0
  obtain ⟨hp, he, hx, hf9, hd⟩ := id hc
  obtain ⟨z1, z2, z3, z4⟩ := id hf9
  obtain ⟨ef, e1, e2⟩ := id he
  have gS := hw.1.1
  have gC := hw.1.2.2.2.1
  have gR := hw.2.1.1
  have gL := hw.2.2.1.1
  have gW := hw.2.2.2.1.1
  have gD := hw.2.2.2.2.1
  have hon : on9 S < 2 ^ 31 := Nat.lt_of_lt_of_le hw.2.1.2.2.2.2 (Nat.pow_le_pow_right (by decide) (by omega))
  refine j_aload_n (pc := 0) C dX9_at_0 rfl 0 rfl ?_
  refine j_iload_n (pc := 1) C dX9_at_1 rfl 1 rfl ?_
  refine j_callV (pc := 2) C [.int (nI l)] [] (rm0 := ({ frames := 5, cells := 0, slots := 0, locals := 114 } : Room)) (k' := 0) (n' := 0) Q.1 (c_X9_lexemeNumbered_t (xl X) (xw X) hw hc ha0 n1 n2) mp_X9_lexemeNumbered wm_636 ha0 rfl rfl (by decide) rfl rfl (Nat.le_of_ble_eq_true rfl) dX9_at_2 ⟨by decide, by decide⟩ ⟨Nat.le_of_ble_eq_true rfl, Nat.le_of_ble_eq_true rfl⟩ rfl rfl (det1 ?_)
  refine j_astore (pc := 5) C [(4, .ref (hG σ (4, l))), (0, .ref a0), (1, .int (nI l)), (2, .int (nI c)), (3, .int (nI p))] dX9_at_5 (by decide) rfl ?_
  refine j_iload_n (pc := 7) C dX9_at_7 rfl 3 rfl ?_
  refine j_callS (pc := 8) C [.int (nI c)] [] (rm0 := ({ frames := 5, cells := 0, slots := 0, locals := 114 } : Room)) (k' := 0) (n' := 0) Q.1 (c_X9_checkCell_t (xl X) (xw X) h3) mp_X9_checkCell wm_647 rfl rfl (Nat.le_of_ble_eq_true rfl) dX9_at_8 ⟨by decide, by decide⟩ ⟨Nat.le_of_ble_eq_true rfl, Nat.le_of_ble_eq_true rfl⟩ rfl rfl (det0 ?_)
  refine j_iload_n (pc := 11) C dX9_at_11 rfl 4 rfl ?_
  refine j_callS (pc := 12) C [.int (nI p)] [] (rm0 := ({ frames := 5, cells := 0, slots := 0, locals := 114 } : Room)) (k' := 0) (n' := 0) Q.1 (c_X9_checkPlace_t (xl X) (xw X) h4) mp_X9_checkPlace wm_944 rfl rfl (Nat.le_of_ble_eq_true rfl) dX9_at_12 ⟨by decide, by decide⟩ ⟨Nat.le_of_ble_eq_true rfl, Nat.le_of_ble_eq_true rfl⟩ rfl rfl (det0 ?_)
  refine j_aload_n (pc := 15) C dX9_at_15 rfl 1 rfl ?_
  refine j_aload (pc := 16) C dX9_at_16 0 rfl ?_
  refine j_iload_n (pc := 18) C dX9_at_18 rfl 3 rfl ?_
  refine j_aload_n (pc := 19) C dX9_at_19 rfl 1 rfl ?_
  refine j_getA (pc := 20) C fp_X9_10 ha0 rfl (f := 576) rfl (6, 0) (hG σ (6, 0)) z2 (⟨hp.1.1, rfl⟩ : At _ (6, 0) _) dX9_at_20 ?_
  refine j_callV (pc := 23) C [] [.int (nI c), .ref (hG σ (4, l)), .ref a0] (rm0 := ({ frames := 5, cells := 0, slots := 0, locals := 114 } : Room)) (k' := 0) (n' := 0) Q.1 (c_X5_setOfOn (xl X) (xw X) hw hp (⟨hp.1.1, rfl⟩ : At _ (6, 0) _)) mp_X5_setOfOn wm_925 (⟨hp.1.1, rfl⟩ : At _ (6, 0) _) rfl rfl (by decide) rfl rfl (Nat.le_of_ble_eq_true rfl) dX9_at_23 ⟨by decide, by decide⟩ ⟨Nat.le_of_ble_eq_true rfl, Nat.le_of_ble_eq_true rfl⟩ rfl rfl (det1 ?_)
  refine j_callV (pc := 26) C [.ref (hG σ (4, l)), .int (nI c), .int (nI (on9 S))] [] (rm0 := ({ frames := 5, cells := 0, slots := 0, locals := 114 } : Room)) (k' := 0) (n' := 0) Q.1 (c_X9_wordOf (xl X) (xw X) hw hc ha0 n1 n2 ⟨hx.2.1.1.live n1, rfl⟩ h3 hon) mp_X9_wordOf wm_929 ha0 rfl rfl (by decide) rfl rfl (Nat.le_of_ble_eq_true rfl) dX9_at_26 ⟨by decide, by decide⟩ ⟨Nat.le_of_ble_eq_true rfl, Nat.le_of_ble_eq_true rfl⟩ rfl rfl (det1 ?_)
  refine j_iload_n (pc := 29) C dX9_at_29 rfl 4 rfl ?_
  refine j_callS (pc := 30) C [.long (enc5 (word9 S l c)), .int (nI p)] [] (rm0 := ({ frames := 5, cells := 0, slots := 0, locals := 114 } : Room)) (k' := 0) (n' := 0) Q.1 (c_X6_soundAt (xl X) (xw X) ((word_ok hw n1).R hw.1) h4) mp_X6_soundAt wm_947 rfl rfl (Nat.le_of_ble_eq_true rfl) dX9_at_30 ⟨by decide, by decide⟩ ⟨Nat.le_of_ble_eq_true rfl, Nat.le_of_ble_eq_true rfl⟩ rfl rfl (det1 ?_)
  exact j_ireturn (pc := 33) C Q dX9_at_33 (Nat.le_of_ble_eq_true rfl) (Nat.le_of_ble_eq_true rfl) (⟨rfl, rfl⟩)
set_option maxHeartbeats 4000000 in
set_option maxRecDepth 100000 in
theorem c_X9_at_1 (L9 : Launch) (w9 : Wd) (hst9 : L9.stackTraces = false) {σ : HS} {S : SP} (hw : WF S) (hc : CI S σ) {a0 : Nat} (ha0 : At σ (9, 0) a0) {x c p : Int32} (h : (isLex S x && inI c 8 && decide (0 ≤ p.toInt)) = false) : MX L9 w9 yX9_at cX9_at 5 (some .int) ({ frames := 7, cells := 1, slots := 6, locals := 108 } : Room) [.ref a0, .int x, .int c, .int p] σ (fun _ _ => False) (fun E σ' => E = "java/lang/IndexOutOfBoundsException" ∧ σ' = σ) := by
  refine MX.of (by decide +kernel) (Nat.le_of_ble_eq_true rfl) hst9 (fun X hX1 hX2 C Q NT => ?_)
  subst hX1; subst hX2
  show J X 0 0 σ [(0, .ref a0), (1, .int x), (2, .int c), (3, .int p)] [] 0
  obtain ⟨hp, he, hx, hf9, hd⟩ := id hc
  obtain ⟨z1, z2, z3, z4⟩ := id hf9
  obtain ⟨ef, e1, e2⟩ := id he
  have gS := hw.1.1
  have gC := hw.1.2.2.2.1
  have gR := hw.2.1.1
  have gL := hw.2.2.1.1
  have gW := hw.2.2.2.1.1
  have gD := hw.2.2.2.2.1
  by_cases e1 : isLex S x = true
  · rw [e1, Bool.true_and] at h
    obtain ⟨n1, n2, n3⟩ := isLex_t e1
    generalize xN x = l at n1 n2 n3
    subst n3
    show J X 0 0 σ [(0, .ref a0), (1, .int (nI l)), (2, .int c), (3, .int p)] [] 0
    refine j_aload_n (pc := 0) C dX9_at_0 rfl 0 rfl ?_
    refine j_iload_n (pc := 1) C dX9_at_1 rfl 1 rfl ?_
    refine j_callV (pc := 2) C [.int (nI l)] [] (rm0 := ({ frames := 7, cells := 1, slots := 6, locals := 108 } : Room)) (k' := 0) (n' := 0) Q.1 (c_X9_lexemeNumbered_t (xl X) (xw X) hw hc ha0 n1 n2) mp_X9_lexemeNumbered wm_636 ha0 rfl rfl (by decide) rfl rfl (Nat.le_of_ble_eq_true rfl) dX9_at_2 ⟨by decide, by decide⟩ ⟨Nat.le_of_ble_eq_true rfl, Nat.le_of_ble_eq_true rfl⟩ rfl rfl (det1 ?_)
    by_cases e2 : inI c 8 = true
    · rw [e2, Bool.true_and] at h
      obtain ⟨m1, m2⟩ := inI_t e2
      generalize xN c = c1 at m1 m2
      subst m2
      show J X 0 0 σ [(0, .ref a0), (1, .int (nI l)), (2, .int (nI c1)), (3, .int p)] [.ref (hG σ (4, l))] 5
      refine j_astore (pc := 5) C [(4, .ref (hG σ (4, l))), (0, .ref a0), (1, .int (nI l)), (2, .int (nI c1)), (3, .int p)] dX9_at_5 (by decide) rfl ?_
      refine j_iload_n (pc := 7) C dX9_at_7 rfl 3 rfl ?_
      refine j_callS (pc := 8) C [.int (nI c1)] [] (rm0 := ({ frames := 7, cells := 1, slots := 6, locals := 108 } : Room)) (k' := 0) (n' := 0) Q.1 (c_X9_checkCell_t (xl X) (xw X) m1) mp_X9_checkCell wm_647 rfl rfl (Nat.le_of_ble_eq_true rfl) dX9_at_8 ⟨by decide, by decide⟩ ⟨Nat.le_of_ble_eq_true rfl, Nat.le_of_ble_eq_true rfl⟩ rfl rfl (det0 ?_)
      refine j_iload_n (pc := 11) C dX9_at_11 rfl 4 rfl ?_
      exact j_callSX (pc := 12) C [.int p] [] (rm0 := ({ frames := 7, cells := 1, slots := 6, locals := 108 } : Room)) (k' := 1) (n' := 6) Q NT (c_X9_checkPlace_x (xl X) (xw X) hst9 h) mp_X9_checkPlace wm_944 rfl rfl (Nat.le_of_ble_eq_true rfl) dX9_at_12 ⟨by decide, by decide⟩ ⟨Nat.le_of_ble_eq_true rfl, Nat.le_of_ble_eq_true rfl⟩ rfl rfl (fun _ _ h => h) (fun _ _ h => (h : False).elim)
    · refine j_astore (pc := 5) C [(4, .ref (hG σ (4, l))), (0, .ref a0), (1, .int (nI l)), (2, .int c), (3, .int p)] dX9_at_5 (by decide) rfl ?_
      refine j_iload_n (pc := 7) C dX9_at_7 rfl 3 rfl ?_
      exact j_callSX (pc := 8) C [.int c] [] (rm0 := ({ frames := 7, cells := 1, slots := 6, locals := 108 } : Room)) (k' := 1) (n' := 6) Q NT (c_X9_checkCell_x (xl X) (xw X) hst9 (ts_nt e2)) mp_X9_checkCell wm_647 rfl rfl (Nat.le_of_ble_eq_true rfl) dX9_at_8 ⟨by decide, by decide⟩ ⟨Nat.le_of_ble_eq_true rfl, Nat.le_of_ble_eq_true rfl⟩ rfl rfl (fun _ _ h => h) (fun _ _ h => (h : False).elim)
  · refine j_aload_n (pc := 0) C dX9_at_0 rfl 0 rfl ?_
    refine j_iload_n (pc := 1) C dX9_at_1 rfl 1 rfl ?_
    exact j_callVX (pc := 2) C [.int x] [] (rm0 := ({ frames := 7, cells := 1, slots := 6, locals := 108 } : Room)) (k' := 1) (n' := 6) Q NT (c_X9_lexemeNumbered_x (xl X) (xw X) hst9 hw hc ha0 (ts_nt e1)) mp_X9_lexemeNumbered wm_636 ha0 rfl rfl (Nat.le_of_ble_eq_true rfl) rfl rfl (Nat.le_of_ble_eq_true rfl) dX9_at_2 ⟨by decide, by decide⟩ ⟨Nat.le_of_ble_eq_true rfl, Nat.le_of_ble_eq_true rfl⟩ rfl rfl (fun _ _ h => h) (fun _ _ h => (h : False).elim)
set_option maxHeartbeats 4000000 in
set_option maxRecDepth 100000 in
theorem c_X9_step_0 (L9 : Launch) (w9 : Wd) {σ : HS} {S : SP} (hw : WF S) (hc : CI S σ) {a0 : Nat} (ha0 : At σ (9, 0) a0) {l : Nat} (n1 : l < nL S) (n2 : th S l = 1) {c : Nat} (h3 : c < 8) {r : Nat} (h1 : r < nR S) : MJ L9 w9 yX9_step cX9_step 5 (some .int) ({ frames := 5, cells := 0, slots := 0, locals := 108 } : Room) [.ref a0, .int (nI l), .int (nI c), .int (nI r)] σ (fun a9 σ' => a9 = some (.int (nI (steps9 S l c r))) ∧ σ' = σ) := by
  refine MJ.of (by decide +kernel) (Nat.le_of_ble_eq_true rfl) (fun X hX1 hX2 C Q hinit => ?_)
  subst hX1; subst hX2
  show J X 0 0 σ [(0, .ref a0), (1, .int (nI l)), (2, .int (nI c)), (3, .int (nI r))] [] 0
  obtain ⟨hp, he, hx, hf9, hd⟩ := id hc
  obtain ⟨z1, z2, z3, z4⟩ := id hf9
  obtain ⟨ef, e1, e2⟩ := id he
  have gS := hw.1.1
  have gC := hw.1.2.2.2.1
  have gR := hw.2.1.1
  have gL := hw.2.2.1.1
  have gW := hw.2.2.2.1.1
  have gD := hw.2.2.2.2.1
  refine j_aload_n (pc := 0) C dX9_step_0 rfl 0 rfl ?_
  refine j_iload_n (pc := 1) C dX9_step_1 rfl 1 rfl ?_
  refine j_callV (pc := 2) C [.int (nI l)] [] (rm0 := ({ frames := 5, cells := 0, slots := 0, locals := 108 } : Room)) (k' := 0) (n' := 0) Q.1 (c_X9_lexemeNumbered_t (xl X) (xw X) hw hc ha0 n1 n2) mp_X9_lexemeNumbered wm_636 ha0 rfl rfl (by decide) rfl rfl (Nat.le_of_ble_eq_true rfl) dX9_step_2 ⟨by decide, by decide⟩ ⟨Nat.le_of_ble_eq_true rfl, Nat.le_of_ble_eq_true rfl⟩ rfl rfl (det1 ?_)
  refine j_astore (pc := 5) C [(4, .ref (hG σ (4, l))), (0, .ref a0), (1, .int (nI l)), (2, .int (nI c)), (3, .int (nI r))] dX9_step_5 (by decide) rfl ?_
  refine j_iload_n (pc := 7) C dX9_step_7 rfl 3 rfl ?_
  refine j_callS (pc := 8) C [.int (nI c)] [] (rm0 := ({ frames := 5, cells := 0, slots := 0, locals := 108 } : Room)) (k' := 0) (n' := 0) Q.1 (c_X9_checkCell_t (xl X) (xw X) h3) mp_X9_checkCell wm_647 rfl rfl (Nat.le_of_ble_eq_true rfl) dX9_step_8 ⟨by decide, by decide⟩ ⟨Nat.le_of_ble_eq_true rfl, Nat.le_of_ble_eq_true rfl⟩ rfl rfl (det0 ?_)
  refine j_aload_n (pc := 11) C dX9_step_11 rfl 1 rfl ?_
  refine j_getA (pc := 12) C fp_X9_10 ha0 rfl (f := 576) rfl (6, 0) (hG σ (6, 0)) z2 (⟨hp.1.1, rfl⟩ : At _ (6, 0) _) dX9_step_12 ?_
  refine j_aload_n (pc := 15) C dX9_step_15 rfl 1 rfl ?_
  refine j_iload_n (pc := 16) C dX9_step_16 rfl 4 rfl ?_
  refine j_callV (pc := 17) C [.int (nI r)] [.ref (hG σ (6, 0))] (rm0 := ({ frames := 5, cells := 0, slots := 0, locals := 108 } : Room)) (k' := 0) (n' := 0) Q.1 (c_X9_ruleNumbered_t (xl X) (xw X) hw hc ha0 h1) mp_X9_ruleNumbered wm_705 ha0 rfl rfl (by decide) rfl rfl (Nat.le_of_ble_eq_true rfl) dX9_step_17 ⟨by decide, by decide⟩ ⟨Nat.le_of_ble_eq_true rfl, Nat.le_of_ble_eq_true rfl⟩ rfl rfl (det1 ?_)
  refine j_aload_n (pc := 20) C dX9_step_20 rfl 1 rfl ?_
  refine j_aload (pc := 21) C dX9_step_21 0 rfl ?_
  refine j_iload_n (pc := 23) C dX9_step_23 rfl 3 rfl ?_
  refine j_callV (pc := 24) C [.ref (hG σ (4, l)), .int (nI c)] [.ref (hG σ (7, r)), .ref (hG σ (6, 0))] (rm0 := ({ frames := 5, cells := 0, slots := 0, locals := 108 } : Room)) (k' := 0) (n' := 0) Q.1 (c_X9_underlying (xl X) (xw X) hw hc ha0 n1 ⟨hx.2.1.1.live n1, rfl⟩ h3) mp_X9_underlying wm_278 ha0 rfl rfl (by decide) rfl rfl (Nat.le_of_ble_eq_true rfl) dX9_step_24 ⟨by decide, by decide⟩ ⟨Nat.le_of_ble_eq_true rfl, Nat.le_of_ble_eq_true rfl⟩ rfl rfl (det1 ?_)
  refine j_callV (pc := 27) C [.ref (hG σ (7, r)), .long (enc5 (base9 S l c))] [] (rm0 := ({ frames := 5, cells := 0, slots := 0, locals := 108 } : Room)) (k' := 0) (n' := 0) Q.1 (c_X5_changesBy (xl X) (xw X) hw hp (⟨hp.1.1, rfl⟩ : At _ (6, 0) _) h1 ⟨hp.2.2.2.1.live h1, rfl⟩ (WF_base hw n1 c)) mp_X5_changesBy wm_958 (⟨hp.1.1, rfl⟩ : At _ (6, 0) _) rfl rfl (by decide) rfl rfl (Nat.le_of_ble_eq_true rfl) dX9_step_27 ⟨by decide, by decide⟩ ⟨Nat.le_of_ble_eq_true rfl, Nat.le_of_ble_eq_true rfl⟩ rfl rfl (det1 ?_)
  exact j_ireturn (pc := 30) C Q dX9_step_30 (Nat.le_of_ble_eq_true rfl) (Nat.le_of_ble_eq_true rfl) (⟨rfl, rfl⟩)
set_option maxHeartbeats 4000000 in
set_option maxRecDepth 100000 in
theorem c_X9_step_1 (L9 : Launch) (w9 : Wd) (hst9 : L9.stackTraces = false) {σ : HS} {S : SP} (hw : WF S) (hc : CI S σ) {a0 : Nat} (ha0 : At σ (9, 0) a0) {x c r : Int32} (h : (isLex S x && inI c 8 && inI r (nR S)) = false) : MX L9 w9 yX9_step cX9_step 5 (some .int) ({ frames := 7, cells := 1, slots := 6, locals := 108 } : Room) [.ref a0, .int x, .int c, .int r] σ (fun _ _ => False) (fun E σ' => E = "java/lang/IndexOutOfBoundsException" ∧ σ' = σ) := by
  refine MX.of (by decide +kernel) (Nat.le_of_ble_eq_true rfl) hst9 (fun X hX1 hX2 C Q NT => ?_)
  subst hX1; subst hX2
  show J X 0 0 σ [(0, .ref a0), (1, .int x), (2, .int c), (3, .int r)] [] 0
  obtain ⟨hp, he, hx, hf9, hd⟩ := id hc
  obtain ⟨z1, z2, z3, z4⟩ := id hf9
  obtain ⟨ef, e1, e2⟩ := id he
  have gS := hw.1.1
  have gC := hw.1.2.2.2.1
  have gR := hw.2.1.1
  have gL := hw.2.2.1.1
  have gW := hw.2.2.2.1.1
  have gD := hw.2.2.2.2.1
  by_cases e1 : isLex S x = true
  · rw [e1, Bool.true_and] at h
    obtain ⟨n1, n2, n3⟩ := isLex_t e1
    generalize xN x = l at n1 n2 n3
    subst n3
    show J X 0 0 σ [(0, .ref a0), (1, .int (nI l)), (2, .int c), (3, .int r)] [] 0
    refine j_aload_n (pc := 0) C dX9_step_0 rfl 0 rfl ?_
    refine j_iload_n (pc := 1) C dX9_step_1 rfl 1 rfl ?_
    refine j_callV (pc := 2) C [.int (nI l)] [] (rm0 := ({ frames := 7, cells := 1, slots := 6, locals := 108 } : Room)) (k' := 0) (n' := 0) Q.1 (c_X9_lexemeNumbered_t (xl X) (xw X) hw hc ha0 n1 n2) mp_X9_lexemeNumbered wm_636 ha0 rfl rfl (by decide) rfl rfl (Nat.le_of_ble_eq_true rfl) dX9_step_2 ⟨by decide, by decide⟩ ⟨Nat.le_of_ble_eq_true rfl, Nat.le_of_ble_eq_true rfl⟩ rfl rfl (det1 ?_)
    by_cases e2 : inI c 8 = true
    · rw [e2, Bool.true_and] at h
      obtain ⟨m1, m2⟩ := inI_t e2
      generalize xN c = c1 at m1 m2
      subst m2
      show J X 0 0 σ [(0, .ref a0), (1, .int (nI l)), (2, .int (nI c1)), (3, .int r)] [.ref (hG σ (4, l))] 5
      refine j_astore (pc := 5) C [(4, .ref (hG σ (4, l))), (0, .ref a0), (1, .int (nI l)), (2, .int (nI c1)), (3, .int r)] dX9_step_5 (by decide) rfl ?_
      refine j_iload_n (pc := 7) C dX9_step_7 rfl 3 rfl ?_
      refine j_callS (pc := 8) C [.int (nI c1)] [] (rm0 := ({ frames := 7, cells := 1, slots := 6, locals := 108 } : Room)) (k' := 0) (n' := 0) Q.1 (c_X9_checkCell_t (xl X) (xw X) m1) mp_X9_checkCell wm_647 rfl rfl (Nat.le_of_ble_eq_true rfl) dX9_step_8 ⟨by decide, by decide⟩ ⟨Nat.le_of_ble_eq_true rfl, Nat.le_of_ble_eq_true rfl⟩ rfl rfl (det0 ?_)
      refine j_aload_n (pc := 11) C dX9_step_11 rfl 1 rfl ?_
      refine j_getA (pc := 12) C fp_X9_10 ha0 rfl (f := 576) rfl (6, 0) (hG σ (6, 0)) z2 (⟨hp.1.1, rfl⟩ : At _ (6, 0) _) dX9_step_12 ?_
      refine j_aload_n (pc := 15) C dX9_step_15 rfl 1 rfl ?_
      refine j_iload_n (pc := 16) C dX9_step_16 rfl 4 rfl ?_
      exact j_callVX (pc := 17) C [.int r] [.ref (hG σ (6, 0))] (rm0 := ({ frames := 7, cells := 1, slots := 6, locals := 108 } : Room)) (k' := 1) (n' := 6) Q NT (c_X9_ruleNumbered_x (xl X) (xw X) hst9 hw hc ha0 h) mp_X9_ruleNumbered wm_705 ha0 rfl rfl (Nat.le_of_ble_eq_true rfl) rfl rfl (Nat.le_of_ble_eq_true rfl) dX9_step_17 ⟨by decide, by decide⟩ ⟨Nat.le_of_ble_eq_true rfl, Nat.le_of_ble_eq_true rfl⟩ rfl rfl (fun _ _ h => h) (fun _ _ h => (h : False).elim)
    · refine j_astore (pc := 5) C [(4, .ref (hG σ (4, l))), (0, .ref a0), (1, .int (nI l)), (2, .int c), (3, .int r)] dX9_step_5 (by decide) rfl ?_
      refine j_iload_n (pc := 7) C dX9_step_7 rfl 3 rfl ?_
      exact j_callSX (pc := 8) C [.int c] [] (rm0 := ({ frames := 7, cells := 1, slots := 6, locals := 108 } : Room)) (k' := 1) (n' := 6) Q NT (c_X9_checkCell_x (xl X) (xw X) hst9 (ts_nt e2)) mp_X9_checkCell wm_647 rfl rfl (Nat.le_of_ble_eq_true rfl) dX9_step_8 ⟨by decide, by decide⟩ ⟨Nat.le_of_ble_eq_true rfl, Nat.le_of_ble_eq_true rfl⟩ rfl rfl (fun _ _ h => h) (fun _ _ h => (h : False).elim)
  · refine j_aload_n (pc := 0) C dX9_step_0 rfl 0 rfl ?_
    refine j_iload_n (pc := 1) C dX9_step_1 rfl 1 rfl ?_
    exact j_callVX (pc := 2) C [.int x] [] (rm0 := ({ frames := 7, cells := 1, slots := 6, locals := 108 } : Room)) (k' := 1) (n' := 6) Q NT (c_X9_lexemeNumbered_x (xl X) (xw X) hst9 hw hc ha0 (ts_nt e1)) mp_X9_lexemeNumbered wm_636 ha0 rfl rfl (Nat.le_of_ble_eq_true rfl) rfl rfl (Nat.le_of_ble_eq_true rfl) dX9_step_2 ⟨by decide, by decide⟩ ⟨Nat.le_of_ble_eq_true rfl, Nat.le_of_ble_eq_true rfl⟩ rfl rfl (fun _ _ h => h) (fun _ _ h => (h : False).elim)
set_option maxHeartbeats 4000000 in
set_option maxRecDepth 100000 in
theorem c_X9_ofWord_0 (L9 : Launch) (w9 : Wd) {σ : HS} {S : SP} (hw : WF S) (hc : CI S σ) {a0 : Nat} (ha0 : At σ (9, 0) a0) {v : Nat} (n1 : v < nW S) (n2 : hd9 S v = 1) : MJ L9 w9 yX9_ofWord cX9_ofWord 4 (some .int) ({ frames := 5, cells := 0, slots := 0, locals := 108 } : Room) [.ref a0, .int (nI v), .int (nI 0)] σ (fun a9 σ' => a9 = some (.int (nI (ol S v))) ∧ σ' = σ) := by
  refine MJ.of (by decide +kernel) (Nat.le_of_ble_eq_true rfl) (fun X hX1 hX2 C Q hinit => ?_)
  subst hX1; subst hX2
  show J X 0 0 σ [(0, .ref a0), (1, .int (nI v)), (2, .int (nI 0))] [] 0
  obtain ⟨hp, he, hx, hf9, hd⟩ := id hc
  obtain ⟨z1, z2, z3, z4⟩ := id hf9
  obtain ⟨ef, e1, e2⟩ := id he
  have gS := hw.1.1
  have gC := hw.1.2.2.2.1
  have gR := hw.2.1.1
  have gL := hw.2.2.1.1
  have gW := hw.2.2.2.1.1
  have gD := hw.2.2.2.2.1
  have q1 := (hw.2.2.2.1.2.2 v n1).1
  refine j_aload_n (pc := 0) C dX9_ofWord_0 rfl 0 rfl ?_
  refine j_iload_n (pc := 1) C dX9_ofWord_1 rfl 1 rfl ?_
  refine j_callV (pc := 2) C [.int (nI v)] [] (rm0 := ({ frames := 5, cells := 0, slots := 0, locals := 108 } : Room)) (k' := 0) (n' := 0) Q.1 (c_X9_wordNumbered_t (xl X) (xw X) hw hc ha0 n1 n2) mp_X9_wordNumbered wm_788 ha0 rfl rfl (by decide) rfl rfl (Nat.le_of_ble_eq_true rfl) dX9_ofWord_2 ⟨by decide, by decide⟩ ⟨Nat.le_of_ble_eq_true rfl, Nat.le_of_ble_eq_true rfl⟩ rfl rfl (det1 ?_)
  refine j_astore_n (pc := 5) C [(3, .ref (hG σ (8, v))), (0, .ref a0), (1, .int (nI v)), (2, .int (nI 0))] dX9_ofWord_5 rfl (by decide) rfl ?_
  refine j_iload_n (pc := 6) C dX9_ofWord_6 rfl 3 rfl ?_
  refine j_tableIn (pc := 7) C (off := 33) 40 dX9_ofWord_7 (by decide) (by decide) (by decide) (by decide) ?_
  refine j_aload_n (pc := 40) C dX9_ofWord_40 rfl 0 rfl ?_
  refine j_getA (pc := 41) C fp_X9_211 (⟨hx.2.2.2.1.1.live n1, rfl⟩ : At _ (8, v) _) rfl (f := 512) rfl (4, ol S v) (hG σ (4, ol S v)) ((hx.2.2.2.1.2.1 v n1).1) (⟨hx.2.1.1.live (hw.2.2.2.1.2.2 v n1).1, rfl⟩ : At _ (4, ol S v) _) dX9_ofWord_41 ?_
  refine j_getI (pc := 44) C fp_X9_90 (⟨hx.2.1.1.live (hw.2.2.2.1.2.2 v n1).1, rfl⟩ : At _ (4, ol S v) _) rfl (f := 256) rfl dX9_ofWord_44 ?_
  refine j_topi (nI (ol S v)) ((hx.2.1.2.1 (ol S v) q1).1) ?_
  exact j_ireturn (pc := 47) C Q dX9_ofWord_47 (Nat.le_of_ble_eq_true rfl) (Nat.le_of_ble_eq_true rfl) (⟨rfl, rfl⟩)
set_option maxHeartbeats 4000000 in
set_option maxRecDepth 100000 in
theorem c_X9_ofWord_1 (L9 : Launch) (w9 : Wd) {σ : HS} {S : SP} (hw : WF S) (hc : CI S σ) {a0 : Nat} (ha0 : At σ (9, 0) a0) {v : Nat} (n1 : v < nW S) (n2 : hd9 S v = 1) : MJ L9 w9 yX9_ofWord cX9_ofWord 4 (some .int) ({ frames := 5, cells := 0, slots := 0, locals := 108 } : Room) [.ref a0, .int (nI v), .int (nI 1)] σ (fun a9 σ' => a9 = some (.int (nI (cw S v))) ∧ σ' = σ) := by
  refine MJ.of (by decide +kernel) (Nat.le_of_ble_eq_true rfl) (fun X hX1 hX2 C Q hinit => ?_)
  subst hX1; subst hX2
  show J X 0 0 σ [(0, .ref a0), (1, .int (nI v)), (2, .int (nI 1))] [] 0
  obtain ⟨hp, he, hx, hf9, hd⟩ := id hc
  obtain ⟨z1, z2, z3, z4⟩ := id hf9
  obtain ⟨ef, e1, e2⟩ := id he
  have gS := hw.1.1
  have gC := hw.1.2.2.2.1
  have gR := hw.2.1.1
  have gL := hw.2.2.1.1
  have gW := hw.2.2.2.1.1
  have gD := hw.2.2.2.2.1
  have q1 := (hw.2.2.2.1.2.2 v n1).1
  refine j_aload_n (pc := 0) C dX9_ofWord_0 rfl 0 rfl ?_
  refine j_iload_n (pc := 1) C dX9_ofWord_1 rfl 1 rfl ?_
  refine j_callV (pc := 2) C [.int (nI v)] [] (rm0 := ({ frames := 5, cells := 0, slots := 0, locals := 108 } : Room)) (k' := 0) (n' := 0) Q.1 (c_X9_wordNumbered_t (xl X) (xw X) hw hc ha0 n1 n2) mp_X9_wordNumbered wm_788 ha0 rfl rfl (by decide) rfl rfl (Nat.le_of_ble_eq_true rfl) dX9_ofWord_2 ⟨by decide, by decide⟩ ⟨Nat.le_of_ble_eq_true rfl, Nat.le_of_ble_eq_true rfl⟩ rfl rfl (det1 ?_)
  refine j_astore_n (pc := 5) C [(3, .ref (hG σ (8, v))), (0, .ref a0), (1, .int (nI v)), (2, .int (nI 1))] dX9_ofWord_5 rfl (by decide) rfl ?_
  refine j_iload_n (pc := 6) C dX9_ofWord_6 rfl 3 rfl ?_
  refine j_tableIn (pc := 7) C (off := 41) 48 dX9_ofWord_7 (by decide) (by decide) (by decide) (by decide) ?_
  refine j_aload_n (pc := 48) C dX9_ofWord_48 rfl 0 rfl ?_
  refine j_getI (pc := 49) C fp_X9_215 (⟨hx.2.2.2.1.1.live n1, rfl⟩ : At _ (8, v) _) rfl (f := 513) rfl dX9_ofWord_49 ?_
  refine j_topi (nI (cw S v)) ((hx.2.2.2.1.2.1 v n1).2.1) ?_
  exact j_ireturn (pc := 52) C Q dX9_ofWord_52 (Nat.le_of_ble_eq_true rfl) (Nat.le_of_ble_eq_true rfl) (⟨rfl, rfl⟩)
set_option maxHeartbeats 4000000 in
set_option maxRecDepth 100000 in
theorem c_X9_ofWord_2 (L9 : Launch) (w9 : Wd) {σ : HS} {S : SP} (hw : WF S) (hc : CI S σ) {a0 : Nat} (ha0 : At σ (9, 0) a0) {v : Nat} (n1 : v < nW S) (n2 : hd9 S v = 1) : MJ L9 w9 yX9_ofWord cX9_ofWord 4 (some .int) ({ frames := 5, cells := 0, slots := 0, locals := 108 } : Room) [.ref a0, .int (nI v), .int (nI 2)] σ (fun a9 σ' => a9 = some (.int (nI (sw S v))) ∧ σ' = σ) := by
  refine MJ.of (by decide +kernel) (Nat.le_of_ble_eq_true rfl) (fun X hX1 hX2 C Q hinit => ?_)
  subst hX1; subst hX2
  show J X 0 0 σ [(0, .ref a0), (1, .int (nI v)), (2, .int (nI 2))] [] 0
  obtain ⟨hp, he, hx, hf9, hd⟩ := id hc
  obtain ⟨z1, z2, z3, z4⟩ := id hf9
  obtain ⟨ef, e1, e2⟩ := id he
  have gS := hw.1.1
  have gC := hw.1.2.2.2.1
  have gR := hw.2.1.1
  have gL := hw.2.2.1.1
  have gW := hw.2.2.2.1.1
  have gD := hw.2.2.2.2.1
  have q1 := (hw.2.2.2.1.2.2 v n1).1
  refine j_aload_n (pc := 0) C dX9_ofWord_0 rfl 0 rfl ?_
  refine j_iload_n (pc := 1) C dX9_ofWord_1 rfl 1 rfl ?_
  refine j_callV (pc := 2) C [.int (nI v)] [] (rm0 := ({ frames := 5, cells := 0, slots := 0, locals := 108 } : Room)) (k' := 0) (n' := 0) Q.1 (c_X9_wordNumbered_t (xl X) (xw X) hw hc ha0 n1 n2) mp_X9_wordNumbered wm_788 ha0 rfl rfl (by decide) rfl rfl (Nat.le_of_ble_eq_true rfl) dX9_ofWord_2 ⟨by decide, by decide⟩ ⟨Nat.le_of_ble_eq_true rfl, Nat.le_of_ble_eq_true rfl⟩ rfl rfl (det1 ?_)
  refine j_astore_n (pc := 5) C [(3, .ref (hG σ (8, v))), (0, .ref a0), (1, .int (nI v)), (2, .int (nI 2))] dX9_ofWord_5 rfl (by decide) rfl ?_
  refine j_iload_n (pc := 6) C dX9_ofWord_6 rfl 3 rfl ?_
  refine j_tableIn (pc := 7) C (off := 46) 53 dX9_ofWord_7 (by decide) (by decide) (by decide) (by decide) ?_
  refine j_aload_n (pc := 53) C dX9_ofWord_53 rfl 0 rfl ?_
  refine j_getI (pc := 54) C fp_X9_218 (⟨hx.2.2.2.1.1.live n1, rfl⟩ : At _ (8, v) _) rfl (f := 514) rfl dX9_ofWord_54 ?_
  refine j_topi (nI (sw S v)) ((hx.2.2.2.1.2.1 v n1).2.2.1) ?_
  exact j_ireturn (pc := 57) C Q dX9_ofWord_57 (Nat.le_of_ble_eq_true rfl) (Nat.le_of_ble_eq_true rfl) (⟨rfl, rfl⟩)
set_option maxHeartbeats 4000000 in
set_option maxRecDepth 100000 in
theorem c_X9_ofWord_3 (L9 : Launch) (w9 : Wd) {σ : HS} {S : SP} (hw : WF S) (hc : CI S σ) {a0 : Nat} (ha0 : At σ (9, 0) a0) {v : Nat} (n1 : v < nW S) (n2 : hd9 S v = 1) : MJ L9 w9 yX9_ofWord cX9_ofWord 4 (some .int) ({ frames := 5, cells := 0, slots := 0, locals := 108 } : Room) [.ref a0, .int (nI v), .int (nI 3)] σ (fun a9 σ' => a9 = some (.int (nI (hr S v).length)) ∧ σ' = σ) := by
  refine MJ.of (by decide +kernel) (Nat.le_of_ble_eq_true rfl) (fun X hX1 hX2 C Q hinit => ?_)
  subst hX1; subst hX2
  show J X 0 0 σ [(0, .ref a0), (1, .int (nI v)), (2, .int (nI 3))] [] 0
  obtain ⟨hp, he, hx, hf9, hd⟩ := id hc
  obtain ⟨z1, z2, z3, z4⟩ := id hf9
  obtain ⟨ef, e1, e2⟩ := id he
  have gS := hw.1.1
  have gC := hw.1.2.2.2.1
  have gR := hw.2.1.1
  have gL := hw.2.2.1.1
  have gW := hw.2.2.2.1.1
  have gD := hw.2.2.2.2.1
  have q1 := (hw.2.2.2.1.2.2 v n1).1
  refine j_aload_n (pc := 0) C dX9_ofWord_0 rfl 0 rfl ?_
  refine j_iload_n (pc := 1) C dX9_ofWord_1 rfl 1 rfl ?_
  refine j_callV (pc := 2) C [.int (nI v)] [] (rm0 := ({ frames := 5, cells := 0, slots := 0, locals := 108 } : Room)) (k' := 0) (n' := 0) Q.1 (c_X9_wordNumbered_t (xl X) (xw X) hw hc ha0 n1 n2) mp_X9_wordNumbered wm_788 ha0 rfl rfl (by decide) rfl rfl (Nat.le_of_ble_eq_true rfl) dX9_ofWord_2 ⟨by decide, by decide⟩ ⟨Nat.le_of_ble_eq_true rfl, Nat.le_of_ble_eq_true rfl⟩ rfl rfl (det1 ?_)
  refine j_astore_n (pc := 5) C [(3, .ref (hG σ (8, v))), (0, .ref a0), (1, .int (nI v)), (2, .int (nI 3))] dX9_ofWord_5 rfl (by decide) rfl ?_
  refine j_iload_n (pc := 6) C dX9_ofWord_6 rfl 3 rfl ?_
  refine j_tableIn (pc := 7) C (off := 51) 58 dX9_ofWord_7 (by decide) (by decide) (by decide) (by decide) ?_
  refine j_aload_n (pc := 58) C dX9_ofWord_58 rfl 0 rfl ?_
  refine j_getL (pc := 59) C fp_X9_153 (⟨hx.2.2.2.1.1.live n1, rfl⟩ : At _ (8, v) _) rfl (f := 515) rfl dX9_ofWord_59 ?_
  refine j_topl (enc5 (hr S v)) ((hx.2.2.2.1.2.1 v n1).2.2.2.1) ?_
  refine j_callS (pc := 62) C [.long (enc5 (hr S v))] [] (rm0 := ({ frames := 5, cells := 0, slots := 0, locals := 108 } : Room)) (k' := 0) (n' := 0) Q.1 (c_X6_sizeOf (xl X) (xw X) (okR_hr hw v)) mp_X6_sizeOf wm_223 rfl rfl (Nat.le_of_ble_eq_true rfl) dX9_ofWord_62 ⟨by decide, by decide⟩ ⟨Nat.le_of_ble_eq_true rfl, Nat.le_of_ble_eq_true rfl⟩ rfl rfl (det1 ?_)
  exact j_ireturn (pc := 65) C Q dX9_ofWord_65 (Nat.le_of_ble_eq_true rfl) (Nat.le_of_ble_eq_true rfl) (⟨rfl, rfl⟩)
set_option maxHeartbeats 4000000 in
set_option maxRecDepth 100000 in
theorem c_X9_ofWord_4 (L9 : Launch) (w9 : Wd) {σ : HS} {S : SP} (hw : WF S) (hc : CI S σ) {a0 : Nat} (ha0 : At σ (9, 0) a0) {v : Nat} (n1 : v < nW S) (n2 : hd9 S v = 1) : MJ L9 w9 yX9_ofWord cX9_ofWord 4 (some .int) ({ frames := 6, cells := 0, slots := 0, locals := 136 } : Room) [.ref a0, .int (nI v), .int (nI 4)] σ (fun a9 σ' => a9 = some (.int (bI (fits9 S v))) ∧ σ' = σ) := by
  refine MJ.of (by decide +kernel) (Nat.le_of_ble_eq_true rfl) (fun X hX1 hX2 C Q hinit => ?_)
  subst hX1; subst hX2
  show J X 0 0 σ [(0, .ref a0), (1, .int (nI v)), (2, .int (nI 4))] [] 0
  obtain ⟨hp, he, hx, hf9, hd⟩ := id hc
  obtain ⟨z1, z2, z3, z4⟩ := id hf9
  obtain ⟨ef, e1, e2⟩ := id he
  have gS := hw.1.1
  have gC := hw.1.2.2.2.1
  have gR := hw.2.1.1
  have gL := hw.2.2.1.1
  have gW := hw.2.2.2.1.1
  have gD := hw.2.2.2.2.1
  have hon : on9 S < 2 ^ 31 := Nat.lt_of_lt_of_le hw.2.1.2.2.2.2 (Nat.pow_le_pow_right (by decide) (by omega))
  have q1 := (hw.2.2.2.1.2.2 v n1).1
  refine j_aload_n (pc := 0) C dX9_ofWord_0 rfl 0 rfl ?_
  refine j_iload_n (pc := 1) C dX9_ofWord_1 rfl 1 rfl ?_
  refine j_callV (pc := 2) C [.int (nI v)] [] (rm0 := ({ frames := 6, cells := 0, slots := 0, locals := 136 } : Room)) (k' := 0) (n' := 0) Q.1 (c_X9_wordNumbered_t (xl X) (xw X) hw hc ha0 n1 n2) mp_X9_wordNumbered wm_788 ha0 rfl rfl (by decide) rfl rfl (Nat.le_of_ble_eq_true rfl) dX9_ofWord_2 ⟨by decide, by decide⟩ ⟨Nat.le_of_ble_eq_true rfl, Nat.le_of_ble_eq_true rfl⟩ rfl rfl (det1 ?_)
  refine j_astore_n (pc := 5) C [(3, .ref (hG σ (8, v))), (0, .ref a0), (1, .int (nI v)), (2, .int (nI 4))] dX9_ofWord_5 rfl (by decide) rfl ?_
  refine j_iload_n (pc := 6) C dX9_ofWord_6 rfl 3 rfl ?_
  refine j_tableIn (pc := 7) C (off := 59) 66 dX9_ofWord_7 (by decide) (by decide) (by decide) (by decide) ?_
  refine j_aload_n (pc := 66) C dX9_ofWord_66 rfl 1 rfl ?_
  refine j_aload_n (pc := 67) C dX9_ofWord_67 rfl 0 rfl ?_
  refine j_aload_n (pc := 68) C dX9_ofWord_68 rfl 1 rfl ?_
  refine j_getA (pc := 69) C fp_X9_10 ha0 rfl (f := 576) rfl (6, 0) (hG σ (6, 0)) z2 (⟨hp.1.1, rfl⟩ : At _ (6, 0) _) dX9_ofWord_69 ?_
  refine j_callV (pc := 72) C [] [.ref (hG σ (8, v)), .ref a0] (rm0 := ({ frames := 6, cells := 0, slots := 0, locals := 136 } : Room)) (k' := 0) (n' := 0) Q.1 (c_X5_setOfOn (xl X) (xw X) hw hp (⟨hp.1.1, rfl⟩ : At _ (6, 0) _)) mp_X5_setOfOn wm_925 (⟨hp.1.1, rfl⟩ : At _ (6, 0) _) rfl rfl (by decide) rfl rfl (Nat.le_of_ble_eq_true rfl) dX9_ofWord_72 ⟨by decide, by decide⟩ ⟨Nat.le_of_ble_eq_true rfl, Nat.le_of_ble_eq_true rfl⟩ rfl rfl (det1 ?_)
  refine j_callV (pc := 75) C [.ref (hG σ (8, v)), .int (nI (on9 S))] [] (rm0 := ({ frames := 6, cells := 0, slots := 0, locals := 136 } : Room)) (k' := 0) (n' := 0) Q.1 (c_X9_fits (xl X) (xw X) hw hc ha0 n1 n2 ⟨hx.2.2.2.1.1.live n1, rfl⟩ hon) mp_X9_fits wm_972 ha0 rfl rfl (by decide) rfl rfl (Nat.le_of_ble_eq_true rfl) dX9_ofWord_75 ⟨by decide, by decide⟩ ⟨Nat.le_of_ble_eq_true rfl, Nat.le_of_ble_eq_true rfl⟩ rfl rfl (det1 ?_)
  refine jb_if_eq (pc := 78) C 85 (b := fitC S v (on9 S)) dX9_ofWord_78 (by decide) (fun c1 => ?_) (fun c1 => ?_)
  · refine j_iconst (pc := 85) C (nI 0) dX9_ofWord_85 (by decide) ?_
    refine j_topi (bI (fits9 S v)) (by rw [show fits9 S v = fitC S v (on9 S) from rfl, c1]; rfl) ?_
    exact j_ireturn (pc := 86) C Q dX9_ofWord_86 (Nat.le_of_ble_eq_true rfl) (Nat.le_of_ble_eq_true rfl) (⟨rfl, rfl⟩)
  · refine j_iconst (pc := 81) C (nI 1) dX9_ofWord_81 (by decide) ?_
    refine j_goto (pc := 82) C 86 dX9_ofWord_82 (by decide) ?_
    refine j_topi (bI (fits9 S v)) (by rw [show fits9 S v = fitC S v (on9 S) from rfl, c1]; rfl) ?_
    exact j_ireturn (pc := 86) C Q dX9_ofWord_86 (Nat.le_of_ble_eq_true rfl) (Nat.le_of_ble_eq_true rfl) (⟨rfl, rfl⟩)
set_option maxHeartbeats 4000000 in
set_option maxRecDepth 100000 in
theorem c_X9_ofWord_x1 (L9 : Launch) (w9 : Wd) (hst9 : L9.stackTraces = false) {σ : HS} {S : SP} (hw : WF S) (hc : CI S σ) {a0 : Nat} (ha0 : At σ (9, 0) a0) {x y : Int32} (h : isWrd S x = false) : MX L9 w9 yX9_ofWord cX9_ofWord 4 (some .int) ({ frames := 7, cells := 1, slots := 6, locals := 108 } : Room) [.ref a0, .int x, .int y] σ (fun _ _ => False) (fun E σ' => E = "java/lang/IndexOutOfBoundsException" ∧ σ' = σ) := by
  refine MX.of (by decide +kernel) (Nat.le_of_ble_eq_true rfl) hst9 (fun X hX1 hX2 C Q NT => ?_)
  subst hX1; subst hX2
  show J X 0 0 σ [(0, .ref a0), (1, .int x), (2, .int y)] [] 0
  obtain ⟨hp, he, hx, hf9, hd⟩ := id hc
  obtain ⟨z1, z2, z3, z4⟩ := id hf9
  obtain ⟨ef, e1, e2⟩ := id he
  have gS := hw.1.1
  have gC := hw.1.2.2.2.1
  have gR := hw.2.1.1
  have gL := hw.2.2.1.1
  have gW := hw.2.2.2.1.1
  have gD := hw.2.2.2.2.1
  refine j_aload_n (pc := 0) C dX9_ofWord_0 rfl 0 rfl ?_
  refine j_iload_n (pc := 1) C dX9_ofWord_1 rfl 1 rfl ?_
  exact j_callVX (pc := 2) C [.int x] [] (rm0 := ({ frames := 7, cells := 1, slots := 6, locals := 108 } : Room)) (k' := 1) (n' := 6) Q NT (c_X9_wordNumbered_x (xl X) (xw X) hst9 hw hc ha0 h) mp_X9_wordNumbered wm_788 ha0 rfl rfl (Nat.le_of_ble_eq_true rfl) rfl rfl (Nat.le_of_ble_eq_true rfl) dX9_ofWord_2 ⟨by decide, by decide⟩ ⟨Nat.le_of_ble_eq_true rfl, Nat.le_of_ble_eq_true rfl⟩ rfl rfl (fun _ _ h => h) (fun _ _ h => (h : False).elim)
theorem out_5 {y : Int32} (h : inI y 5 = false) : y.toInt < 0 ∨ 4 < y.toInt := by
  unfold inI at h
  by_cases e : 0 ≤ y.toInt
  · rw [decide_eq_true e, Bool.true_and] at h
    have := of_decide_eq_false h
    omega
  · omega
set_option maxHeartbeats 4000000 in
set_option maxRecDepth 100000 in
theorem c_X9_ofWord_x2 (L9 : Launch) (w9 : Wd) (hst9 : L9.stackTraces = false) {σ : HS} {S : SP} (hw : WF S) (hc : CI S σ) {a0 : Nat} (ha0 : At σ (9, 0) a0) {v : Nat} (n1 : v < nW S) (n2 : hd9 S v = 1) {y : Int32} (h : inI y 5 = false) : MX L9 w9 yX9_ofWord cX9_ofWord 4 (some .int) ({ frames := 6, cells := 1, slots := 6, locals := 108 } : Room) [.ref a0, .int (nI v), .int y] σ (fun _ _ => False) (fun E σ' => E = "java/lang/IllegalArgumentException" ∧ σ' = σ) := by
  refine MX.of (by decide +kernel) (Nat.le_of_ble_eq_true rfl) hst9 (fun X hX1 hX2 C Q NT => ?_)
  subst hX1; subst hX2
  show J X 0 0 σ [(0, .ref a0), (1, .int (nI v)), (2, .int y)] [] 0
  obtain ⟨hp, he, hx, hf9, hd⟩ := id hc
  obtain ⟨z1, z2, z3, z4⟩ := id hf9
  obtain ⟨ef, e1, e2⟩ := id he
  have gS := hw.1.1
  have gC := hw.1.2.2.2.1
  have gR := hw.2.1.1
  have gL := hw.2.2.1.1
  have gW := hw.2.2.2.1.1
  have gD := hw.2.2.2.2.1
  refine j_aload_n (pc := 0) C dX9_ofWord_0 rfl 0 rfl ?_
  refine j_iload_n (pc := 1) C dX9_ofWord_1 rfl 1 rfl ?_
  refine j_callV (pc := 2) C [.int (nI v)] [] (rm0 := ({ frames := 6, cells := 1, slots := 6, locals := 108 } : Room)) (k' := 0) (n' := 0) Q.1 (c_X9_wordNumbered_t (xl X) (xw X) hw hc ha0 n1 n2) mp_X9_wordNumbered wm_788 ha0 rfl rfl (by decide) rfl rfl (Nat.le_of_ble_eq_true rfl) dX9_ofWord_2 ⟨by decide, by decide⟩ ⟨Nat.le_of_ble_eq_true rfl, Nat.le_of_ble_eq_true rfl⟩ rfl rfl (det1 ?_)
  refine j_astore_n (pc := 5) C [(3, .ref (hG σ (8, v))), (0, .ref a0), (1, .int (nI v)), (2, .int y)] dX9_ofWord_5 rfl (by decide) rfl ?_
  refine j_iload_n (pc := 6) C dX9_ofWord_6 rfl 3 rfl ?_
  refine j_tableOut (pc := 7) C 87 dX9_ofWord_7 (out_5 h) (by decide) ?_
  exact j_throw0 (pc := 87) C (rm := ({ frames := 6, cells := 1, slots := 6, locals := 108 } : Room)) Q NT tp_X9_172 dX9_ofWord_87 dX9_ofWord_90 dX9_ofWord_91 dX9_ofWord_94 ⟨by decide, by decide, by decide, by decide⟩ ⟨rfl, rfl⟩
set_option maxHeartbeats 4000000 in
set_option maxRecDepth 100000 in
theorem c_X9_holes_0 (L9 : Launch) (w9 : Wd) {σ : HS} {S : SP} (hw : WF S) (hc : CI S σ) {a0 : Nat} (ha0 : At σ (9, 0) a0) {l : Nat} (n1 : l < nL S) (n2 : th S l = 1) : MJ L9 w9 yX9_holes cX9_holes 2 (some .int) ({ frames := 5, cells := 0, slots := 0, locals := 110 } : Room) [.ref a0, .int (nI l)] σ (fun a9 σ' => a9 = some (.int (nI (255 - heardIn S l (nW S)))) ∧ σ' = σ) := by
  refine MJ.of (by decide +kernel) (Nat.le_of_ble_eq_true rfl) (fun X hX1 hX2 C Q hinit => ?_)
  subst hX1; subst hX2
  show J X 0 0 σ [(0, .ref a0), (1, .int (nI l))] [] 0
  obtain ⟨hp, he, hx, hf9, hd⟩ := id hc
  obtain ⟨z1, z2, z3, z4⟩ := id hf9
  obtain ⟨ef, e1, e2⟩ := id he
  have gS := hw.1.1
  have gC := hw.1.2.2.2.1
  have gR := hw.2.1.1
  have gL := hw.2.2.1.1
  have gW := hw.2.2.2.1.1
  have gD := hw.2.2.2.2.1
  refine j_sipush (pc := 0) C (nI 255) dX9_holes_0 (by decide) ?_
  refine j_aload_n (pc := 3) C dX9_holes_3 rfl 0 rfl ?_
  refine j_getA (pc := 4) C fp_X9_19 ha0 rfl (f := 577) rfl (5, 0) (hG σ (5, 0)) z3 (⟨hx.1.1, rfl⟩ : At _ (5, 0) _) dX9_holes_4 ?_
  refine j_aload_n (pc := 7) C dX9_holes_7 rfl 0 rfl ?_
  refine j_iload_n (pc := 8) C dX9_holes_8 rfl 1 rfl ?_
  refine j_callV (pc := 9) C [.int (nI l)] [.ref (hG σ (5, 0)), .int (nI 255)] (rm0 := ({ frames := 5, cells := 0, slots := 0, locals := 110 } : Room)) (k' := 0) (n' := 0) Q.1 (c_X9_lexemeNumbered_t (xl X) (xw X) hw hc ha0 n1 n2) mp_X9_lexemeNumbered wm_636 ha0 rfl rfl (by decide) rfl rfl (Nat.le_of_ble_eq_true rfl) dX9_holes_9 ⟨by decide, by decide⟩ ⟨Nat.le_of_ble_eq_true rfl, Nat.le_of_ble_eq_true rfl⟩ rfl rfl (det1 ?_)
  refine j_callV (pc := 12) C [.ref (hG σ (4, l))] [.int (nI 255)] (rm0 := ({ frames := 5, cells := 0, slots := 0, locals := 110 } : Room)) (k' := 0) (n' := 0) Q.1 (c_X4_cellsHeard (xl X) (xw X) hw hx (⟨hx.1.1, rfl⟩ : At _ (5, 0) _) ⟨hx.2.1.1.live n1, rfl⟩) mp_X4_cellsHeard wm_354 (⟨hx.1.1, rfl⟩ : At _ (5, 0) _) rfl rfl (by decide) rfl rfl (Nat.le_of_ble_eq_true rfl) dX9_holes_12 ⟨by decide, by decide⟩ ⟨Nat.le_of_ble_eq_true rfl, Nat.le_of_ble_eq_true rfl⟩ rfl rfl (det1 ?_)
  refine j_iconst (pc := 15) C (-1) dX9_holes_15 (by decide) ?_
  refine j_ixor (pc := 16) C dX9_holes_16 ?_
  refine j_iand (pc := 17) C dX9_holes_17 ?_
  refine j_topi (nI (255 - heardIn S l (nW S))) (holes_eq _ (heardIn_lt hw l _ (Nat.le_refl _))) ?_
  exact j_ireturn (pc := 18) C Q dX9_holes_18 (Nat.le_of_ble_eq_true rfl) (Nat.le_of_ble_eq_true rfl) (⟨rfl, rfl⟩)
set_option maxHeartbeats 4000000 in
set_option maxRecDepth 100000 in
theorem c_X9_holes_1 (L9 : Launch) (w9 : Wd) (hst9 : L9.stackTraces = false) {σ : HS} {S : SP} (hw : WF S) (hc : CI S σ) {a0 : Nat} (ha0 : At σ (9, 0) a0) {x : Int32} (h : isLex S x = false) : MX L9 w9 yX9_holes cX9_holes 2 (some .int) ({ frames := 7, cells := 1, slots := 6, locals := 108 } : Room) [.ref a0, .int x] σ (fun _ _ => False) (fun E σ' => E = "java/lang/IndexOutOfBoundsException" ∧ σ' = σ) := by
  refine MX.of (by decide +kernel) (Nat.le_of_ble_eq_true rfl) hst9 (fun X hX1 hX2 C Q NT => ?_)
  subst hX1; subst hX2
  show J X 0 0 σ [(0, .ref a0), (1, .int x)] [] 0
  obtain ⟨hp, he, hx, hf9, hd⟩ := id hc
  obtain ⟨z1, z2, z3, z4⟩ := id hf9
  obtain ⟨ef, e1, e2⟩ := id he
  have gS := hw.1.1
  have gC := hw.1.2.2.2.1
  have gR := hw.2.1.1
  have gL := hw.2.2.1.1
  have gW := hw.2.2.2.1.1
  have gD := hw.2.2.2.2.1
  refine j_sipush (pc := 0) C (nI 255) dX9_holes_0 (by decide) ?_
  refine j_aload_n (pc := 3) C dX9_holes_3 rfl 0 rfl ?_
  refine j_getA (pc := 4) C fp_X9_19 ha0 rfl (f := 577) rfl (5, 0) (hG σ (5, 0)) z3 (⟨hx.1.1, rfl⟩ : At _ (5, 0) _) dX9_holes_4 ?_
  refine j_aload_n (pc := 7) C dX9_holes_7 rfl 0 rfl ?_
  refine j_iload_n (pc := 8) C dX9_holes_8 rfl 1 rfl ?_
  exact j_callVX (pc := 9) C [.int x] [.ref (hG σ (5, 0)), .int (nI 255)] (rm0 := ({ frames := 7, cells := 1, slots := 6, locals := 108 } : Room)) (k' := 1) (n' := 6) Q NT (c_X9_lexemeNumbered_x (xl X) (xw X) hst9 hw hc ha0 h) mp_X9_lexemeNumbered wm_636 ha0 rfl rfl (Nat.le_of_ble_eq_true rfl) rfl rfl (Nat.le_of_ble_eq_true rfl) dX9_holes_9 ⟨by decide, by decide⟩ ⟨Nat.le_of_ble_eq_true rfl, Nat.le_of_ble_eq_true rfl⟩ rfl rfl (fun _ _ h => h) (fun _ _ h => (h : False).elim)
