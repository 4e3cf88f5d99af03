set_option maxHeartbeats 4000000 in
set_option maxRecDepth 100000 in
theorem c_X9_rule_0 (L9 : Launch) (w9 : Wd) {σ : HS} {S : SP} (hw : WF S) (hc : CI S σ) {a0 : Nat} (ha0 : At σ (9, 0) a0) {t u : Nat} {l r : Int32} (h1 : t < nC S) (hl : isSide9 S l = true) (hr : isSide9 S r = true) (h2 : u < 64) (h3 : nR S < 6) : MJ L9 w9 yX9_rule cX9_rule 8 (some .int) ({ frames := 8, cells := 3, slots := 103, locals := 216 } : Room) [.ref a0, .int (nI t), .int (nI u), .int l, .int r] σ (fun a9 σ' => a9 = some (.int (nI (nR S))) ∧ CI (S_rule S t u (sideN l) (sideN r)) σ' ∧ Fr tgU σ σ') := by
  refine MJ.of (by decide +kernel) (Nat.le_of_ble_eq_true rfl) (fun X hX1 hX2 C Q hinit => ?_)
  subst hX1; subst hX2
  show J X 0 0 σ [(0, .ref a0), (1, .int (nI t)), (2, .int (nI u)), (3, .int l), (4, .int r)] [] 0
  obtain ⟨hp, he, hx, hf9, hd⟩ := id hc
  obtain ⟨z1, z2, z3, z4⟩ := id hf9
  obtain ⟨ef, e1, e2⟩ := id he
  have gS := hw.1.1
  have gC := hw.1.2.2.2.1
  have gR := hw.2.1.1
  have gL := hw.2.2.1.1
  have gW := hw.2.2.2.1.1
  have gD := hw.2.2.2.2.1
  refine j_aload_n (pc := 0) C dX9_rule_0 rfl 0 rfl ?_
  refine j_getA (pc := 1) C fp_X9_10 ha0 rfl (f := 576) rfl (6, 0) (hG σ (6, 0)) z2 (⟨hp.1.1, rfl⟩ : At _ (6, 0) _) dX9_rule_1 ?_
  refine j_iload_n (pc := 4) C dX9_rule_4 rfl 1 rfl ?_
  refine j_callV (pc := 5) C [.int (nI t)] [] (rm0 := ({ frames := 8, cells := 3, slots := 103, locals := 216 } : Room)) (k' := 0) (n' := 0) Q.1 (c_X5_kindNumbered_t (xl X) (xw X) hw hp (⟨hp.1.1, rfl⟩ : At _ (6, 0) _) h1) mp_X5_kindNumbered wm_662 (⟨hp.1.1, rfl⟩ : At _ (6, 0) _) rfl rfl (by decide) rfl rfl (Nat.le_of_ble_eq_true rfl) dX9_rule_5 ⟨by decide, by decide⟩ ⟨Nat.le_of_ble_eq_true rfl, Nat.le_of_ble_eq_true rfl⟩ rfl rfl (det1 ?_)
  refine j_astore (pc := 8) C [(5, .ref (hG σ (3, t))), (0, .ref a0), (1, .int (nI t)), (2, .int (nI u)), (3, .int l), (4, .int r)] dX9_rule_8 (by decide) rfl ?_
  refine j_aload_n (pc := 10) C dX9_rule_10 rfl 1 rfl ?_
  refine j_getA (pc := 11) C fp_X9_10 ha0 rfl (f := 576) rfl (6, 0) (hG σ (6, 0)) z2 (⟨hp.1.1, rfl⟩ : At _ (6, 0) _) dX9_rule_11 ?_
  refine j_iload_n (pc := 14) C dX9_rule_14 rfl 4 rfl ?_
  refine j_callV (pc := 15) C [.int l] [] (rm0 := ({ frames := 8, cells := 3, slots := 103, locals := 216 } : Room)) (k' := 0) (n' := 0) Q.1 (c_X5_sideNumbered_t (xl X) (xw X) hw hp (⟨hp.1.1, rfl⟩ : At _ (6, 0) _) hl) mp_X5_sideNumbered wm_666 (⟨hp.1.1, rfl⟩ : At _ (6, 0) _) rfl rfl (by decide) rfl rfl (Nat.le_of_ble_eq_true rfl) dX9_rule_15 ⟨by decide, by decide⟩ ⟨Nat.le_of_ble_eq_true rfl, Nat.le_of_ble_eq_true rfl⟩ rfl rfl (det1 ?_)
  refine j_astore (pc := 18) C [(6, .ref (hG σ (sideT (sideN l)))), (5, .ref (hG σ (3, t))), (0, .ref a0), (1, .int (nI t)), (2, .int (nI u)), (3, .int l), (4, .int r)] dX9_rule_18 (by decide) rfl ?_
  refine j_aload_n (pc := 20) C dX9_rule_20 rfl 2 rfl ?_
  refine j_getA (pc := 21) C fp_X9_10 ha0 rfl (f := 576) rfl (6, 0) (hG σ (6, 0)) z2 (⟨hp.1.1, rfl⟩ : At _ (6, 0) _) dX9_rule_21 ?_
  refine j_iload (pc := 24) C dX9_rule_24 6 rfl ?_
  refine j_callV (pc := 26) C [.int r] [] (rm0 := ({ frames := 8, cells := 3, slots := 103, locals := 216 } : Room)) (k' := 0) (n' := 0) Q.1 (c_X5_sideNumbered_t (xl X) (xw X) hw hp (⟨hp.1.1, rfl⟩ : At _ (6, 0) _) hr) mp_X5_sideNumbered wm_666 (⟨hp.1.1, rfl⟩ : At _ (6, 0) _) rfl rfl (by decide) rfl rfl (Nat.le_of_ble_eq_true rfl) dX9_rule_26 ⟨by decide, by decide⟩ ⟨Nat.le_of_ble_eq_true rfl, Nat.le_of_ble_eq_true rfl⟩ rfl rfl (det1 ?_)
  refine j_astore (pc := 29) C [(7, .ref (hG σ (sideT (sideN r)))), (6, .ref (hG σ (sideT (sideN l)))), (5, .ref (hG σ (3, t))), (0, .ref a0), (1, .int (nI t)), (2, .int (nI u)), (3, .int l), (4, .int r)] dX9_rule_29 (by decide) rfl ?_
  refine j_aload (pc := 31) C dX9_rule_31 2 rfl ?_
  refine j_ifnull (pc := 33) C dX9_rule_33 ?_
  refine j_aload (pc := 36) C dX9_rule_36 1 rfl ?_
  refine j_ifnull (pc := 38) C dX9_rule_38 ?_
  refine j_aload (pc := 41) C dX9_rule_41 0 rfl ?_
  refine j_ifnonnull (pc := 43) C 54 dX9_rule_43 (by decide) ?_
  refine j_iload_n (pc := 54) C dX9_rule_54 rfl 5 rfl ?_
  refine j_callS (pc := 55) C [.int (nI u)] [] (rm0 := ({ frames := 8, cells := 3, slots := 103, locals := 216 } : Room)) (k' := 0) (n' := 0) Q.1 (c_X9_checkFeatures_t (xl X) (xw X) h2) mp_X9_checkFeatures wm_377 rfl rfl (Nat.le_of_ble_eq_true rfl) dX9_rule_55 ⟨by decide, by decide⟩ ⟨Nat.le_of_ble_eq_true rfl, Nat.le_of_ble_eq_true rfl⟩ rfl rfl (det0 ?_)
  refine j_aload_n (pc := 58) C dX9_rule_58 rfl 3 rfl ?_
  refine j_getA (pc := 59) C fp_X9_10 ha0 rfl (f := 576) rfl (6, 0) (hG σ (6, 0)) z2 (⟨hp.1.1, rfl⟩ : At _ (6, 0) _) dX9_rule_59 ?_
  refine j_callV (pc := 62) C [] [] (rm0 := ({ frames := 8, cells := 3, slots := 103, locals := 216 } : Room)) (k' := 0) (n' := 0) Q.1 (c_X5_ruleCount (xl X) (xw X) hw hp (⟨hp.1.1, rfl⟩ : At _ (6, 0) _)) mp_X5_ruleCount wm_234 (⟨hp.1.1, rfl⟩ : At _ (6, 0) _) rfl rfl (by decide) rfl rfl (Nat.le_of_ble_eq_true rfl) dX9_rule_62 ⟨by decide, by decide⟩ ⟨Nat.le_of_ble_eq_true rfl, Nat.le_of_ble_eq_true rfl⟩ rfl rfl (det1 ?_)
  refine j_bipush (pc := 65) C (nI 6) dX9_rule_65 (by decide) ?_
  refine jn_icmp_lt (pc := 67) C 78 (a := nR S) (b := 6) (by omega) (by omega) dX9_rule_67 (by decide) (fun c0 => ?_) (fun c0 => (absurd c0 (by omega) : False).elim)
  refine j_aload_n (pc := 78) C dX9_rule_78 rfl 3 rfl ?_
  refine j_getA (pc := 79) C fp_X9_10 ha0 rfl (f := 576) rfl (6, 0) (hG σ (6, 0)) z2 (⟨hp.1.1, rfl⟩ : At _ (6, 0) _) dX9_rule_79 ?_
  refine j_aload (pc := 82) C dX9_rule_82 2 rfl ?_
  refine j_iload_n (pc := 84) C dX9_rule_84 rfl 5 rfl ?_
  refine j_aload (pc := 85) C dX9_rule_85 1 rfl ?_
  refine j_aload (pc := 87) C dX9_rule_87 0 rfl ?_
  refine j_callV (pc := 89) C [.ref (hG σ (3, t)), .int (nI u), .ref (hG σ (sideT (sideN l))), .ref (hG σ (sideT (sideN r)))] [] (rm0 := ({ frames := 8, cells := 3, slots := 103, locals := 216 } : Room)) (k' := 3) (n' := 103) Q.1 (c_X5_addRule (xl X) (xw X) hw hp (⟨hp.1.1, rfl⟩ : At _ (6, 0) _) ⟨hp.2.1.2.2.2.1.live h1, rfl⟩ (side_at hp hl) (side_at hp hr) h3) mp_X5_addRule wm_671 (⟨hp.1.1, rfl⟩ : At _ (6, 0) _) rfl rfl (by decide) rfl rfl (Nat.le_of_ble_eq_true rfl) dX9_rule_89 ⟨by decide, by decide⟩ ⟨Nat.le_of_ble_eq_true rfl, Nat.le_of_ble_eq_true rfl⟩ rfl rfl (fun v9 σ1 hp9 => ?_)
  obtain ⟨rfl, hP1, hF1⟩ := hp9
  show J X 3 103 σ1 [(7, .ref (hG σ (sideT (sideN r)))), (6, .ref (hG σ (sideT (sideN l)))), (5, .ref (hG σ (3, t))), (0, .ref a0), (1, .int (nI t)), (2, .int (nI u)), (3, .int l), (4, .int r)] [.int (nI (nR S))] 92
  exact j_ireturn (pc := 92) C Q dX9_rule_92 (Nat.le_of_ble_eq_true rfl) (Nat.le_of_ble_eq_true rfl) (⟨rfl, hc.ph hw hP1 hF1 (fun t z => by simp only [tgRl, tgR, tgP, tgL] at z ⊢; omega) (eqn_rule rfl rfl rfl rfl rfl rfl rfl) rfl⟩)
set_option maxHeartbeats 4000000 in
set_option maxRecDepth 100000 in
theorem c_X9_rule_1 (L9 : Launch) (w9 : Wd) (hst9 : L9.stackTraces = false) {σ : HS} {S : SP} (hw : WF S) (hc : CI S σ) {a0 : Nat} (ha0 : At σ (9, 0) a0) {t u l r : Int32} (h : (inI t (nC S) && isSide9 S l && isSide9 S r) = false) : MX L9 w9 yX9_rule cX9_rule 8 (some .int) ({ frames := 6, cells := 1, slots := 6, locals := 106 } : Room) [.ref a0, .int t, .int u, .int l, .int r] σ (fun _ _ => False) (fun E σ' => E = "java/lang/IndexOutOfBoundsException" ∧ σ' = σ) := by
  refine MX.of (by decide +kernel) (Nat.le_of_ble_eq_true rfl) hst9 (fun X hX1 hX2 C Q NT => ?_)
  subst hX1; subst hX2
  show J X 0 0 σ [(0, .ref a0), (1, .int t), (2, .int u), (3, .int l), (4, .int r)] [] 0
  obtain ⟨hp, he, hx, hf9, hd⟩ := id hc
  obtain ⟨z1, z2, z3, z4⟩ := id hf9
  obtain ⟨ef, e1, e2⟩ := id he
  have gS := hw.1.1
  have gC := hw.1.2.2.2.1
  have gR := hw.2.1.1
  have gL := hw.2.2.1.1
  have gW := hw.2.2.2.1.1
  have gD := hw.2.2.2.2.1
  by_cases e1 : inI t (nC S) = true
  · rw [e1, Bool.true_and] at h
    obtain ⟨n1, n2⟩ := inI_t e1
    generalize xN t = n at n1 n2
    subst n2
    show J X 0 0 σ [(0, .ref a0), (1, .int (nI n)), (2, .int u), (3, .int l), (4, .int r)] [] 0
    refine j_aload_n (pc := 0) C dX9_rule_0 rfl 0 rfl ?_
    refine j_getA (pc := 1) C fp_X9_10 ha0 rfl (f := 576) rfl (6, 0) (hG σ (6, 0)) z2 (⟨hp.1.1, rfl⟩ : At _ (6, 0) _) dX9_rule_1 ?_
    refine j_iload_n (pc := 4) C dX9_rule_4 rfl 1 rfl ?_
    refine j_callV (pc := 5) C [.int (nI n)] [] (rm0 := ({ frames := 6, cells := 1, slots := 6, locals := 106 } : Room)) (k' := 0) (n' := 0) Q.1 (c_X5_kindNumbered_t (xl X) (xw X) hw hp (⟨hp.1.1, rfl⟩ : At _ (6, 0) _) n1) mp_X5_kindNumbered wm_662 (⟨hp.1.1, rfl⟩ : At _ (6, 0) _) rfl rfl (by decide) rfl rfl (Nat.le_of_ble_eq_true rfl) dX9_rule_5 ⟨by decide, by decide⟩ ⟨Nat.le_of_ble_eq_true rfl, Nat.le_of_ble_eq_true rfl⟩ rfl rfl (det1 ?_)
    by_cases e2 : isSide9 S l = true
    · refine j_astore (pc := 8) C [(5, .ref (hG σ (3, n))), (0, .ref a0), (1, .int (nI n)), (2, .int u), (3, .int l), (4, .int r)] dX9_rule_8 (by decide) rfl ?_
      refine j_aload_n (pc := 10) C dX9_rule_10 rfl 1 rfl ?_
      refine j_getA (pc := 11) C fp_X9_10 ha0 rfl (f := 576) rfl (6, 0) (hG σ (6, 0)) z2 (⟨hp.1.1, rfl⟩ : At _ (6, 0) _) dX9_rule_11 ?_
      refine j_iload_n (pc := 14) C dX9_rule_14 rfl 4 rfl ?_
      refine j_callV (pc := 15) C [.int l] [] (rm0 := ({ frames := 6, cells := 1, slots := 6, locals := 106 } : Room)) (k' := 0) (n' := 0) Q.1 (c_X5_sideNumbered_t (xl X) (xw X) hw hp (⟨hp.1.1, rfl⟩ : At _ (6, 0) _) e2) mp_X5_sideNumbered wm_666 (⟨hp.1.1, rfl⟩ : At _ (6, 0) _) rfl rfl (by decide) rfl rfl (Nat.le_of_ble_eq_true rfl) dX9_rule_15 ⟨by decide, by decide⟩ ⟨Nat.le_of_ble_eq_true rfl, Nat.le_of_ble_eq_true rfl⟩ rfl rfl (det1 ?_)
      rw [e2, Bool.true_and] at h
      refine j_astore (pc := 18) C [(6, .ref (hG σ (sideT (sideN l)))), (5, .ref (hG σ (3, n))), (0, .ref a0), (1, .int (nI n)), (2, .int u), (3, .int l), (4, .int r)] dX9_rule_18 (by decide) rfl ?_
      refine j_aload_n (pc := 20) C dX9_rule_20 rfl 2 rfl ?_
      refine j_getA (pc := 21) C fp_X9_10 ha0 rfl (f := 576) rfl (6, 0) (hG σ (6, 0)) z2 (⟨hp.1.1, rfl⟩ : At _ (6, 0) _) dX9_rule_21 ?_
      refine j_iload (pc := 24) C dX9_rule_24 6 rfl ?_
      refine j_callV (pc := 26) C [.int r] [] (rm0 := ({ frames := 6, cells := 1, slots := 6, locals := 106 } : Room)) (k' := 0) (n' := 0) Q.1 (c_X5_sideNumbered_f (xl X) (xw X) hw hp (⟨hp.1.1, rfl⟩ : At _ (6, 0) _) h) mp_X5_sideNumbered wm_666 (⟨hp.1.1, rfl⟩ : At _ (6, 0) _) rfl rfl (by decide) rfl rfl (Nat.le_of_ble_eq_true rfl) dX9_rule_26 ⟨by decide, by decide⟩ ⟨Nat.le_of_ble_eq_true rfl, Nat.le_of_ble_eq_true rfl⟩ rfl rfl (det1 ?_)
      refine j_astoreN (pc := 29) C [(7, .null), (6, .ref (hG σ (sideT (sideN l)))), (5, .ref (hG σ (3, n))), (0, .ref a0), (1, .int (nI n)), (2, .int u), (3, .int l), (4, .int r)] dX9_rule_29 (by decide) rfl ?_
      refine j_aload (pc := 31) C dX9_rule_31 2 rfl ?_
      refine j_ifnull (pc := 33) C dX9_rule_33 ?_
      refine j_aload (pc := 36) C dX9_rule_36 1 rfl ?_
      refine j_ifnull (pc := 38) C dX9_rule_38 ?_
      refine j_aloadN (pc := 41) C dX9_rule_41 0 rfl ?_
      refine j_ifnonnullN (pc := 43) C dX9_rule_43 ?_
      exact j_throw0 (pc := 46) C (rm := ({ frames := 6, cells := 1, slots := 6, locals := 106 } : Room)) Q NT tp_X9_117 dX9_rule_46 dX9_rule_49 dX9_rule_50 dX9_rule_53 ⟨by decide, by decide, by decide, by decide⟩ ⟨rfl, rfl⟩
    · refine j_astore (pc := 8) C [(5, .ref (hG σ (3, n))), (0, .ref a0), (1, .int (nI n)), (2, .int u), (3, .int l), (4, .int r)] dX9_rule_8 (by decide) rfl ?_
      refine j_aload_n (pc := 10) C dX9_rule_10 rfl 1 rfl ?_
      refine j_getA (pc := 11) C fp_X9_10 ha0 rfl (f := 576) rfl (6, 0) (hG σ (6, 0)) z2 (⟨hp.1.1, rfl⟩ : At _ (6, 0) _) dX9_rule_11 ?_
      refine j_iload_n (pc := 14) C dX9_rule_14 rfl 4 rfl ?_
      refine j_callV (pc := 15) C [.int l] [] (rm0 := ({ frames := 6, cells := 1, slots := 6, locals := 106 } : Room)) (k' := 0) (n' := 0) Q.1 (c_X5_sideNumbered_f (xl X) (xw X) hw hp (⟨hp.1.1, rfl⟩ : At _ (6, 0) _) (ts_nt e2)) mp_X5_sideNumbered wm_666 (⟨hp.1.1, rfl⟩ : At _ (6, 0) _) rfl rfl (by decide) rfl rfl (Nat.le_of_ble_eq_true rfl) dX9_rule_15 ⟨by decide, by decide⟩ ⟨Nat.le_of_ble_eq_true rfl, Nat.le_of_ble_eq_true rfl⟩ rfl rfl (det1 ?_)
      by_cases e3 : isSide9 S r = true
      · refine j_astoreN (pc := 18) C [(6, .null), (5, .ref (hG σ (3, n))), (0, .ref a0), (1, .int (nI n)), (2, .int u), (3, .int l), (4, .int r)] dX9_rule_18 (by decide) rfl ?_
        refine j_aload_n (pc := 20) C dX9_rule_20 rfl 2 rfl ?_
        refine j_getA (pc := 21) C fp_X9_10 ha0 rfl (f := 576) rfl (6, 0) (hG σ (6, 0)) z2 (⟨hp.1.1, rfl⟩ : At _ (6, 0) _) dX9_rule_21 ?_
        refine j_iload (pc := 24) C dX9_rule_24 6 rfl ?_
        refine j_callV (pc := 26) C [.int r] [] (rm0 := ({ frames := 6, cells := 1, slots := 6, locals := 106 } : Room)) (k' := 0) (n' := 0) Q.1 (c_X5_sideNumbered_t (xl X) (xw X) hw hp (⟨hp.1.1, rfl⟩ : At _ (6, 0) _) e3) mp_X5_sideNumbered wm_666 (⟨hp.1.1, rfl⟩ : At _ (6, 0) _) rfl rfl (by decide) rfl rfl (Nat.le_of_ble_eq_true rfl) dX9_rule_26 ⟨by decide, by decide⟩ ⟨Nat.le_of_ble_eq_true rfl, Nat.le_of_ble_eq_true rfl⟩ rfl rfl (det1 ?_)
        refine j_astore (pc := 29) C [(7, .ref (hG σ (sideT (sideN r)))), (6, .null), (5, .ref (hG σ (3, n))), (0, .ref a0), (1, .int (nI n)), (2, .int u), (3, .int l), (4, .int r)] dX9_rule_29 (by decide) rfl ?_
        refine j_aload (pc := 31) C dX9_rule_31 2 rfl ?_
        refine j_ifnull (pc := 33) C dX9_rule_33 ?_
        refine j_aloadN (pc := 36) C dX9_rule_36 1 rfl ?_
        refine j_ifnullN (pc := 38) C 46 dX9_rule_38 (by decide) ?_
        exact j_throw0 (pc := 46) C (rm := ({ frames := 6, cells := 1, slots := 6, locals := 106 } : Room)) Q NT tp_X9_117 dX9_rule_46 dX9_rule_49 dX9_rule_50 dX9_rule_53 ⟨by decide, by decide, by decide, by decide⟩ ⟨rfl, rfl⟩
      · refine j_astoreN (pc := 18) C [(6, .null), (5, .ref (hG σ (3, n))), (0, .ref a0), (1, .int (nI n)), (2, .int u), (3, .int l), (4, .int r)] dX9_rule_18 (by decide) rfl ?_
        refine j_aload_n (pc := 20) C dX9_rule_20 rfl 2 rfl ?_
        refine j_getA (pc := 21) C fp_X9_10 ha0 rfl (f := 576) rfl (6, 0) (hG σ (6, 0)) z2 (⟨hp.1.1, rfl⟩ : At _ (6, 0) _) dX9_rule_21 ?_
        refine j_iload (pc := 24) C dX9_rule_24 6 rfl ?_
        refine j_callV (pc := 26) C [.int r] [] (rm0 := ({ frames := 6, cells := 1, slots := 6, locals := 106 } : Room)) (k' := 0) (n' := 0) Q.1 (c_X5_sideNumbered_f (xl X) (xw X) hw hp (⟨hp.1.1, rfl⟩ : At _ (6, 0) _) (ts_nt e3)) mp_X5_sideNumbered wm_666 (⟨hp.1.1, rfl⟩ : At _ (6, 0) _) rfl rfl (by decide) rfl rfl (Nat.le_of_ble_eq_true rfl) dX9_rule_26 ⟨by decide, by decide⟩ ⟨Nat.le_of_ble_eq_true rfl, Nat.le_of_ble_eq_true rfl⟩ rfl rfl (det1 ?_)
        refine j_astoreN (pc := 29) C [(7, .null), (6, .null), (5, .ref (hG σ (3, n))), (0, .ref a0), (1, .int (nI n)), (2, .int u), (3, .int l), (4, .int r)] dX9_rule_29 (by decide) rfl ?_
        refine j_aload (pc := 31) C dX9_rule_31 2 rfl ?_
        refine j_ifnull (pc := 33) C dX9_rule_33 ?_
        refine j_aloadN (pc := 36) C dX9_rule_36 1 rfl ?_
        refine j_ifnullN (pc := 38) C 46 dX9_rule_38 (by decide) ?_
        exact j_throw0 (pc := 46) C (rm := ({ frames := 6, cells := 1, slots := 6, locals := 106 } : Room)) Q NT tp_X9_117 dX9_rule_46 dX9_rule_49 dX9_rule_50 dX9_rule_53 ⟨by decide, by decide, by decide, by decide⟩ ⟨rfl, rfl⟩
  · refine j_aload_n (pc := 0) C dX9_rule_0 rfl 0 rfl ?_
    refine j_getA (pc := 1) C fp_X9_10 ha0 rfl (f := 576) rfl (6, 0) (hG σ (6, 0)) z2 (⟨hp.1.1, rfl⟩ : At _ (6, 0) _) dX9_rule_1 ?_
    refine j_iload_n (pc := 4) C dX9_rule_4 rfl 1 rfl ?_
    refine j_callV (pc := 5) C [.int t] [] (rm0 := ({ frames := 6, cells := 1, slots := 6, locals := 106 } : Room)) (k' := 0) (n' := 0) Q.1 (c_X5_kindNumbered_f (xl X) (xw X) hw hp (⟨hp.1.1, rfl⟩ : At _ (6, 0) _) (ts_nt e1)) mp_X5_kindNumbered wm_662 (⟨hp.1.1, rfl⟩ : At _ (6, 0) _) rfl rfl (by decide) rfl rfl (Nat.le_of_ble_eq_true rfl) dX9_rule_5 ⟨by decide, by decide⟩ ⟨Nat.le_of_ble_eq_true rfl, Nat.le_of_ble_eq_true rfl⟩ rfl rfl (det1 ?_)
    by_cases e2 : isSide9 S l = true
    · refine j_astoreN (pc := 8) C [(5, .null), (0, .ref a0), (1, .int t), (2, .int u), (3, .int l), (4, .int r)] dX9_rule_8 (by decide) rfl ?_
      refine j_aload_n (pc := 10) C dX9_rule_10 rfl 1 rfl ?_
      refine j_getA (pc := 11) C fp_X9_10 ha0 rfl (f := 576) rfl (6, 0) (hG σ (6, 0)) z2 (⟨hp.1.1, rfl⟩ : At _ (6, 0) _) dX9_rule_11 ?_
      refine j_iload_n (pc := 14) C dX9_rule_14 rfl 4 rfl ?_
      refine j_callV (pc := 15) C [.int l] [] (rm0 := ({ frames := 6, cells := 1, slots := 6, locals := 106 } : Room)) (k' := 0) (n' := 0) Q.1 (c_X5_sideNumbered_t (xl X) (xw X) hw hp (⟨hp.1.1, rfl⟩ : At _ (6, 0) _) e2) mp_X5_sideNumbered wm_666 (⟨hp.1.1, rfl⟩ : At _ (6, 0) _) rfl rfl (by decide) rfl rfl (Nat.le_of_ble_eq_true rfl) dX9_rule_15 ⟨by decide, by decide⟩ ⟨Nat.le_of_ble_eq_true rfl, Nat.le_of_ble_eq_true rfl⟩ rfl rfl (det1 ?_)
      by_cases e3 : isSide9 S r = true
      · refine j_astore (pc := 18) C [(6, .ref (hG σ (sideT (sideN l)))), (5, .null), (0, .ref a0), (1, .int t), (2, .int u), (3, .int l), (4, .int r)] dX9_rule_18 (by decide) rfl ?_
        refine j_aload_n (pc := 20) C dX9_rule_20 rfl 2 rfl ?_
        refine j_getA (pc := 21) C fp_X9_10 ha0 rfl (f := 576) rfl (6, 0) (hG σ (6, 0)) z2 (⟨hp.1.1, rfl⟩ : At _ (6, 0) _) dX9_rule_21 ?_
        refine j_iload (pc := 24) C dX9_rule_24 6 rfl ?_
        refine j_callV (pc := 26) C [.int r] [] (rm0 := ({ frames := 6, cells := 1, slots := 6, locals := 106 } : Room)) (k' := 0) (n' := 0) Q.1 (c_X5_sideNumbered_t (xl X) (xw X) hw hp (⟨hp.1.1, rfl⟩ : At _ (6, 0) _) e3) mp_X5_sideNumbered wm_666 (⟨hp.1.1, rfl⟩ : At _ (6, 0) _) rfl rfl (by decide) rfl rfl (Nat.le_of_ble_eq_true rfl) dX9_rule_26 ⟨by decide, by decide⟩ ⟨Nat.le_of_ble_eq_true rfl, Nat.le_of_ble_eq_true rfl⟩ rfl rfl (det1 ?_)
        refine j_astore (pc := 29) C [(7, .ref (hG σ (sideT (sideN r)))), (6, .ref (hG σ (sideT (sideN l)))), (5, .null), (0, .ref a0), (1, .int t), (2, .int u), (3, .int l), (4, .int r)] dX9_rule_29 (by decide) rfl ?_
        refine j_aloadN (pc := 31) C dX9_rule_31 2 rfl ?_
        refine j_ifnullN (pc := 33) C 46 dX9_rule_33 (by decide) ?_
        exact j_throw0 (pc := 46) C (rm := ({ frames := 6, cells := 1, slots := 6, locals := 106 } : Room)) Q NT tp_X9_117 dX9_rule_46 dX9_rule_49 dX9_rule_50 dX9_rule_53 ⟨by decide, by decide, by decide, by decide⟩ ⟨rfl, rfl⟩
      · refine j_astore (pc := 18) C [(6, .ref (hG σ (sideT (sideN l)))), (5, .null), (0, .ref a0), (1, .int t), (2, .int u), (3, .int l), (4, .int r)] dX9_rule_18 (by decide) rfl ?_
        refine j_aload_n (pc := 20) C dX9_rule_20 rfl 2 rfl ?_
        refine j_getA (pc := 21) C fp_X9_10 ha0 rfl (f := 576) rfl (6, 0) (hG σ (6, 0)) z2 (⟨hp.1.1, rfl⟩ : At _ (6, 0) _) dX9_rule_21 ?_
        refine j_iload (pc := 24) C dX9_rule_24 6 rfl ?_
        refine j_callV (pc := 26) C [.int r] [] (rm0 := ({ frames := 6, cells := 1, slots := 6, locals := 106 } : Room)) (k' := 0) (n' := 0) Q.1 (c_X5_sideNumbered_f (xl X) (xw X) hw hp (⟨hp.1.1, rfl⟩ : At _ (6, 0) _) (ts_nt e3)) mp_X5_sideNumbered wm_666 (⟨hp.1.1, rfl⟩ : At _ (6, 0) _) rfl rfl (by decide) rfl rfl (Nat.le_of_ble_eq_true rfl) dX9_rule_26 ⟨by decide, by decide⟩ ⟨Nat.le_of_ble_eq_true rfl, Nat.le_of_ble_eq_true rfl⟩ rfl rfl (det1 ?_)
        refine j_astoreN (pc := 29) C [(7, .null), (6, .ref (hG σ (sideT (sideN l)))), (5, .null), (0, .ref a0), (1, .int t), (2, .int u), (3, .int l), (4, .int r)] dX9_rule_29 (by decide) rfl ?_
        refine j_aloadN (pc := 31) C dX9_rule_31 2 rfl ?_
        refine j_ifnullN (pc := 33) C 46 dX9_rule_33 (by decide) ?_
        exact j_throw0 (pc := 46) C (rm := ({ frames := 6, cells := 1, slots := 6, locals := 106 } : Room)) Q NT tp_X9_117 dX9_rule_46 dX9_rule_49 dX9_rule_50 dX9_rule_53 ⟨by decide, by decide, by decide, by decide⟩ ⟨rfl, rfl⟩
    · refine j_astoreN (pc := 8) C [(5, .null), (0, .ref a0), (1, .int t), (2, .int u), (3, .int l), (4, .int r)] dX9_rule_8 (by decide) rfl ?_
      refine j_aload_n (pc := 10) C dX9_rule_10 rfl 1 rfl ?_
      refine j_getA (pc := 11) C fp_X9_10 ha0 rfl (f := 576) rfl (6, 0) (hG σ (6, 0)) z2 (⟨hp.1.1, rfl⟩ : At _ (6, 0) _) dX9_rule_11 ?_
      refine j_iload_n (pc := 14) C dX9_rule_14 rfl 4 rfl ?_
      refine j_callV (pc := 15) C [.int l] [] (rm0 := ({ frames := 6, cells := 1, slots := 6, locals := 106 } : Room)) (k' := 0) (n' := 0) Q.1 (c_X5_sideNumbered_f (xl X) (xw X) hw hp (⟨hp.1.1, rfl⟩ : At _ (6, 0) _) (ts_nt e2)) mp_X5_sideNumbered wm_666 (⟨hp.1.1, rfl⟩ : At _ (6, 0) _) rfl rfl (by decide) rfl rfl (Nat.le_of_ble_eq_true rfl) dX9_rule_15 ⟨by decide, by decide⟩ ⟨Nat.le_of_ble_eq_true rfl, Nat.le_of_ble_eq_true rfl⟩ rfl rfl (det1 ?_)
      by_cases e3 : isSide9 S r = true
      · refine j_astoreN (pc := 18) C [(6, .null), (5, .null), (0, .ref a0), (1, .int t), (2, .int u), (3, .int l), (4, .int r)] dX9_rule_18 (by decide) rfl ?_
        refine j_aload_n (pc := 20) C dX9_rule_20 rfl 2 rfl ?_
        refine j_getA (pc := 21) C fp_X9_10 ha0 rfl (f := 576) rfl (6, 0) (hG σ (6, 0)) z2 (⟨hp.1.1, rfl⟩ : At _ (6, 0) _) dX9_rule_21 ?_
        refine j_iload (pc := 24) C dX9_rule_24 6 rfl ?_
        refine j_callV (pc := 26) C [.int r] [] (rm0 := ({ frames := 6, cells := 1, slots := 6, locals := 106 } : Room)) (k' := 0) (n' := 0) Q.1 (c_X5_sideNumbered_t (xl X) (xw X) hw hp (⟨hp.1.1, rfl⟩ : At _ (6, 0) _) e3) mp_X5_sideNumbered wm_666 (⟨hp.1.1, rfl⟩ : At _ (6, 0) _) rfl rfl (by decide) rfl rfl (Nat.le_of_ble_eq_true rfl) dX9_rule_26 ⟨by decide, by decide⟩ ⟨Nat.le_of_ble_eq_true rfl, Nat.le_of_ble_eq_true rfl⟩ rfl rfl (det1 ?_)
        refine j_astore (pc := 29) C [(7, .ref (hG σ (sideT (sideN r)))), (6, .null), (5, .null), (0, .ref a0), (1, .int t), (2, .int u), (3, .int l), (4, .int r)] dX9_rule_29 (by decide) rfl ?_
        refine j_aloadN (pc := 31) C dX9_rule_31 2 rfl ?_
        refine j_ifnullN (pc := 33) C 46 dX9_rule_33 (by decide) ?_
        exact j_throw0 (pc := 46) C (rm := ({ frames := 6, cells := 1, slots := 6, locals := 106 } : Room)) Q NT tp_X9_117 dX9_rule_46 dX9_rule_49 dX9_rule_50 dX9_rule_53 ⟨by decide, by decide, by decide, by decide⟩ ⟨rfl, rfl⟩
      · refine j_astoreN (pc := 18) C [(6, .null), (5, .null), (0, .ref a0), (1, .int t), (2, .int u), (3, .int l), (4, .int r)] dX9_rule_18 (by decide) rfl ?_
        refine j_aload_n (pc := 20) C dX9_rule_20 rfl 2 rfl ?_
        refine j_getA (pc := 21) C fp_X9_10 ha0 rfl (f := 576) rfl (6, 0) (hG σ (6, 0)) z2 (⟨hp.1.1, rfl⟩ : At _ (6, 0) _) dX9_rule_21 ?_
        refine j_iload (pc := 24) C dX9_rule_24 6 rfl ?_
        refine j_callV (pc := 26) C [.int r] [] (rm0 := ({ frames := 6, cells := 1, slots := 6, locals := 106 } : Room)) (k' := 0) (n' := 0) Q.1 (c_X5_sideNumbered_f (xl X) (xw X) hw hp (⟨hp.1.1, rfl⟩ : At _ (6, 0) _) (ts_nt e3)) mp_X5_sideNumbered wm_666 (⟨hp.1.1, rfl⟩ : At _ (6, 0) _) rfl rfl (by decide) rfl rfl (Nat.le_of_ble_eq_true rfl) dX9_rule_26 ⟨by decide, by decide⟩ ⟨Nat.le_of_ble_eq_true rfl, Nat.le_of_ble_eq_true rfl⟩ rfl rfl (det1 ?_)
        refine j_astoreN (pc := 29) C [(7, .null), (6, .null), (5, .null), (0, .ref a0), (1, .int t), (2, .int u), (3, .int l), (4, .int r)] dX9_rule_29 (by decide) rfl ?_
        refine j_aloadN (pc := 31) C dX9_rule_31 2 rfl ?_
        refine j_ifnullN (pc := 33) C 46 dX9_rule_33 (by decide) ?_
        exact j_throw0 (pc := 46) C (rm := ({ frames := 6, cells := 1, slots := 6, locals := 106 } : Room)) Q NT tp_X9_117 dX9_rule_46 dX9_rule_49 dX9_rule_50 dX9_rule_53 ⟨by decide, by decide, by decide, by decide⟩ ⟨rfl, rfl⟩
set_option maxHeartbeats 4000000 in
set_option maxRecDepth 100000 in
theorem c_X9_rule_2 (L9 : Launch) (w9 : Wd) (hst9 : L9.stackTraces = false) {σ : HS} {S : SP} (hw : WF S) (hc : CI S σ) {a0 : Nat} (ha0 : At σ (9, 0) a0) {t : Nat} {u l r : Int32} (h1 : t < nC S) (hl : isSide9 S l = true) (hr : isSide9 S r = true) (h : inI u 64 = false) : MX L9 w9 yX9_rule cX9_rule 8 (some .int) ({ frames := 7, cells := 1, slots := 6, locals := 106 } : Room) [.ref a0, .int (nI t), .int u, .int l, .int r] σ (fun _ _ => False) (fun E σ' => E = "java/lang/IllegalArgumentException" ∧ σ' = σ) := by
  refine MX.of (by decide +kernel) (Nat.le_of_ble_eq_true rfl) hst9 (fun X hX1 hX2 C Q NT => ?_)
  subst hX1; subst hX2
  show J X 0 0 σ [(0, .ref a0), (1, .int (nI t)), (2, .int u), (3, .int l), (4, .int r)] [] 0
  obtain ⟨hp, he, hx, hf9, hd⟩ := id hc
  obtain ⟨z1, z2, z3, z4⟩ := id hf9
  obtain ⟨ef, e1, e2⟩ := id he
  have gS := hw.1.1
  have gC := hw.1.2.2.2.1
  have gR := hw.2.1.1
  have gL := hw.2.2.1.1
  have gW := hw.2.2.2.1.1
  have gD := hw.2.2.2.2.1
  refine j_aload_n (pc := 0) C dX9_rule_0 rfl 0 rfl ?_
  refine j_getA (pc := 1) C fp_X9_10 ha0 rfl (f := 576) rfl (6, 0) (hG σ (6, 0)) z2 (⟨hp.1.1, rfl⟩ : At _ (6, 0) _) dX9_rule_1 ?_
  refine j_iload_n (pc := 4) C dX9_rule_4 rfl 1 rfl ?_
  refine j_callV (pc := 5) C [.int (nI t)] [] (rm0 := ({ frames := 7, cells := 1, slots := 6, locals := 106 } : Room)) (k' := 0) (n' := 0) Q.1 (c_X5_kindNumbered_t (xl X) (xw X) hw hp (⟨hp.1.1, rfl⟩ : At _ (6, 0) _) h1) mp_X5_kindNumbered wm_662 (⟨hp.1.1, rfl⟩ : At _ (6, 0) _) rfl rfl (by decide) rfl rfl (Nat.le_of_ble_eq_true rfl) dX9_rule_5 ⟨by decide, by decide⟩ ⟨Nat.le_of_ble_eq_true rfl, Nat.le_of_ble_eq_true rfl⟩ rfl rfl (det1 ?_)
  refine j_astore (pc := 8) C [(5, .ref (hG σ (3, t))), (0, .ref a0), (1, .int (nI t)), (2, .int u), (3, .int l), (4, .int r)] dX9_rule_8 (by decide) rfl ?_
  refine j_aload_n (pc := 10) C dX9_rule_10 rfl 1 rfl ?_
  refine j_getA (pc := 11) C fp_X9_10 ha0 rfl (f := 576) rfl (6, 0) (hG σ (6, 0)) z2 (⟨hp.1.1, rfl⟩ : At _ (6, 0) _) dX9_rule_11 ?_
  refine j_iload_n (pc := 14) C dX9_rule_14 rfl 4 rfl ?_
  refine j_callV (pc := 15) C [.int l] [] (rm0 := ({ frames := 7, cells := 1, slots := 6, locals := 106 } : Room)) (k' := 0) (n' := 0) Q.1 (c_X5_sideNumbered_t (xl X) (xw X) hw hp (⟨hp.1.1, rfl⟩ : At _ (6, 0) _) hl) mp_X5_sideNumbered wm_666 (⟨hp.1.1, rfl⟩ : At _ (6, 0) _) rfl rfl (by decide) rfl rfl (Nat.le_of_ble_eq_true rfl) dX9_rule_15 ⟨by decide, by decide⟩ ⟨Nat.le_of_ble_eq_true rfl, Nat.le_of_ble_eq_true rfl⟩ rfl rfl (det1 ?_)
  refine j_astore (pc := 18) C [(6, .ref (hG σ (sideT (sideN l)))), (5, .ref (hG σ (3, t))), (0, .ref a0), (1, .int (nI t)), (2, .int u), (3, .int l), (4, .int r)] dX9_rule_18 (by decide) rfl ?_
  refine j_aload_n (pc := 20) C dX9_rule_20 rfl 2 rfl ?_
  refine j_getA (pc := 21) C fp_X9_10 ha0 rfl (f := 576) rfl (6, 0) (hG σ (6, 0)) z2 (⟨hp.1.1, rfl⟩ : At _ (6, 0) _) dX9_rule_21 ?_
  refine j_iload (pc := 24) C dX9_rule_24 6 rfl ?_
  refine j_callV (pc := 26) C [.int r] [] (rm0 := ({ frames := 7, cells := 1, slots := 6, locals := 106 } : Room)) (k' := 0) (n' := 0) Q.1 (c_X5_sideNumbered_t (xl X) (xw X) hw hp (⟨hp.1.1, rfl⟩ : At _ (6, 0) _) hr) mp_X5_sideNumbered wm_666 (⟨hp.1.1, rfl⟩ : At _ (6, 0) _) rfl rfl (by decide) rfl rfl (Nat.le_of_ble_eq_true rfl) dX9_rule_26 ⟨by decide, by decide⟩ ⟨Nat.le_of_ble_eq_true rfl, Nat.le_of_ble_eq_true rfl⟩ rfl rfl (det1 ?_)
  refine j_astore (pc := 29) C [(7, .ref (hG σ (sideT (sideN r)))), (6, .ref (hG σ (sideT (sideN l)))), (5, .ref (hG σ (3, t))), (0, .ref a0), (1, .int (nI t)), (2, .int u), (3, .int l), (4, .int r)] dX9_rule_29 (by decide) rfl ?_
  refine j_aload (pc := 31) C dX9_rule_31 2 rfl ?_
  refine j_ifnull (pc := 33) C dX9_rule_33 ?_
  refine j_aload (pc := 36) C dX9_rule_36 1 rfl ?_
  refine j_ifnull (pc := 38) C dX9_rule_38 ?_
  refine j_aload (pc := 41) C dX9_rule_41 0 rfl ?_
  refine j_ifnonnull (pc := 43) C 54 dX9_rule_43 (by decide) ?_
  refine j_iload_n (pc := 54) C dX9_rule_54 rfl 5 rfl ?_
  exact j_callSX (pc := 55) C [.int u] [] (rm0 := ({ frames := 7, cells := 1, slots := 6, locals := 106 } : Room)) (k' := 1) (n' := 6) Q NT (c_X9_checkFeatures_x (xl X) (xw X) hst9 h) mp_X9_checkFeatures wm_377 rfl rfl (Nat.le_of_ble_eq_true rfl) dX9_rule_55 ⟨by decide, by decide⟩ ⟨Nat.le_of_ble_eq_true rfl, Nat.le_of_ble_eq_true rfl⟩ rfl rfl (fun _ _ h => h) (fun _ _ h => (h : False).elim)
set_option maxHeartbeats 4000000 in
set_option maxRecDepth 100000 in
theorem c_X9_rule_3 (L9 : Launch) (w9 : Wd) (hst9 : L9.stackTraces = false) {σ : HS} {S : SP} (hw : WF S) (hc : CI S σ) {a0 : Nat} (ha0 : At σ (9, 0) a0) {t u : Nat} {l r : Int32} (h1 : t < nC S) (hl : isSide9 S l = true) (hr : isSide9 S r = true) (h2 : u < 64) (h3 : nR S = 6) : MX L9 w9 yX9_rule cX9_rule 8 (some .int) ({ frames := 6, cells := 1, slots := 6, locals := 106 } : Room) [.ref a0, .int (nI t), .int (nI u), .int l, .int r] σ (fun _ _ => False) (fun E σ' => E = "java/lang/IllegalStateException" ∧ σ' = σ) := by
  refine MX.of (by decide +kernel) (Nat.le_of_ble_eq_true rfl) hst9 (fun X hX1 hX2 C Q NT => ?_)
  subst hX1; subst hX2
  show J X 0 0 σ [(0, .ref a0), (1, .int (nI t)), (2, .int (nI u)), (3, .int l), (4, .int r)] [] 0
  obtain ⟨hp, he, hx, hf9, hd⟩ := id hc
  obtain ⟨z1, z2, z3, z4⟩ := id hf9
  obtain ⟨ef, e1, e2⟩ := id he
  have gS := hw.1.1
  have gC := hw.1.2.2.2.1
  have gR := hw.2.1.1
  have gL := hw.2.2.1.1
  have gW := hw.2.2.2.1.1
  have gD := hw.2.2.2.2.1
  refine j_aload_n (pc := 0) C dX9_rule_0 rfl 0 rfl ?_
  refine j_getA (pc := 1) C fp_X9_10 ha0 rfl (f := 576) rfl (6, 0) (hG σ (6, 0)) z2 (⟨hp.1.1, rfl⟩ : At _ (6, 0) _) dX9_rule_1 ?_
  refine j_iload_n (pc := 4) C dX9_rule_4 rfl 1 rfl ?_
  refine j_callV (pc := 5) C [.int (nI t)] [] (rm0 := ({ frames := 6, cells := 1, slots := 6, locals := 106 } : Room)) (k' := 0) (n' := 0) Q.1 (c_X5_kindNumbered_t (xl X) (xw X) hw hp (⟨hp.1.1, rfl⟩ : At _ (6, 0) _) h1) mp_X5_kindNumbered wm_662 (⟨hp.1.1, rfl⟩ : At _ (6, 0) _) rfl rfl (by decide) rfl rfl (Nat.le_of_ble_eq_true rfl) dX9_rule_5 ⟨by decide, by decide⟩ ⟨Nat.le_of_ble_eq_true rfl, Nat.le_of_ble_eq_true rfl⟩ rfl rfl (det1 ?_)
  refine j_astore (pc := 8) C [(5, .ref (hG σ (3, t))), (0, .ref a0), (1, .int (nI t)), (2, .int (nI u)), (3, .int l), (4, .int r)] dX9_rule_8 (by decide) rfl ?_
  refine j_aload_n (pc := 10) C dX9_rule_10 rfl 1 rfl ?_
  refine j_getA (pc := 11) C fp_X9_10 ha0 rfl (f := 576) rfl (6, 0) (hG σ (6, 0)) z2 (⟨hp.1.1, rfl⟩ : At _ (6, 0) _) dX9_rule_11 ?_
  refine j_iload_n (pc := 14) C dX9_rule_14 rfl 4 rfl ?_
  refine j_callV (pc := 15) C [.int l] [] (rm0 := ({ frames := 6, cells := 1, slots := 6, locals := 106 } : Room)) (k' := 0) (n' := 0) Q.1 (c_X5_sideNumbered_t (xl X) (xw X) hw hp (⟨hp.1.1, rfl⟩ : At _ (6, 0) _) hl) mp_X5_sideNumbered wm_666 (⟨hp.1.1, rfl⟩ : At _ (6, 0) _) rfl rfl (by decide) rfl rfl (Nat.le_of_ble_eq_true rfl) dX9_rule_15 ⟨by decide, by decide⟩ ⟨Nat.le_of_ble_eq_true rfl, Nat.le_of_ble_eq_true rfl⟩ rfl rfl (det1 ?_)
  refine j_astore (pc := 18) C [(6, .ref (hG σ (sideT (sideN l)))), (5, .ref (hG σ (3, t))), (0, .ref a0), (1, .int (nI t)), (2, .int (nI u)), (3, .int l), (4, .int r)] dX9_rule_18 (by decide) rfl ?_
  refine j_aload_n (pc := 20) C dX9_rule_20 rfl 2 rfl ?_
  refine j_getA (pc := 21) C fp_X9_10 ha0 rfl (f := 576) rfl (6, 0) (hG σ (6, 0)) z2 (⟨hp.1.1, rfl⟩ : At _ (6, 0) _) dX9_rule_21 ?_
  refine j_iload (pc := 24) C dX9_rule_24 6 rfl ?_
  refine j_callV (pc := 26) C [.int r] [] (rm0 := ({ frames := 6, cells := 1, slots := 6, locals := 106 } : Room)) (k' := 0) (n' := 0) Q.1 (c_X5_sideNumbered_t (xl X) (xw X) hw hp (⟨hp.1.1, rfl⟩ : At _ (6, 0) _) hr) mp_X5_sideNumbered wm_666 (⟨hp.1.1, rfl⟩ : At _ (6, 0) _) rfl rfl (by decide) rfl rfl (Nat.le_of_ble_eq_true rfl) dX9_rule_26 ⟨by decide, by decide⟩ ⟨Nat.le_of_ble_eq_true rfl, Nat.le_of_ble_eq_true rfl⟩ rfl rfl (det1 ?_)
  refine j_astore (pc := 29) C [(7, .ref (hG σ (sideT (sideN r)))), (6, .ref (hG σ (sideT (sideN l)))), (5, .ref (hG σ (3, t))), (0, .ref a0), (1, .int (nI t)), (2, .int (nI u)), (3, .int l), (4, .int r)] dX9_rule_29 (by decide) rfl ?_
  refine j_aload (pc := 31) C dX9_rule_31 2 rfl ?_
  refine j_ifnull (pc := 33) C dX9_rule_33 ?_
  refine j_aload (pc := 36) C dX9_rule_36 1 rfl ?_
  refine j_ifnull (pc := 38) C dX9_rule_38 ?_
  refine j_aload (pc := 41) C dX9_rule_41 0 rfl ?_
  refine j_ifnonnull (pc := 43) C 54 dX9_rule_43 (by decide) ?_
  refine j_iload_n (pc := 54) C dX9_rule_54 rfl 5 rfl ?_
  refine j_callS (pc := 55) C [.int (nI u)] [] (rm0 := ({ frames := 6, cells := 1, slots := 6, locals := 106 } : Room)) (k' := 0) (n' := 0) Q.1 (c_X9_checkFeatures_t (xl X) (xw X) h2) mp_X9_checkFeatures wm_377 rfl rfl (Nat.le_of_ble_eq_true rfl) dX9_rule_55 ⟨by decide, by decide⟩ ⟨Nat.le_of_ble_eq_true rfl, Nat.le_of_ble_eq_true rfl⟩ rfl rfl (det0 ?_)
  refine j_aload_n (pc := 58) C dX9_rule_58 rfl 3 rfl ?_
  refine j_getA (pc := 59) C fp_X9_10 ha0 rfl (f := 576) rfl (6, 0) (hG σ (6, 0)) z2 (⟨hp.1.1, rfl⟩ : At _ (6, 0) _) dX9_rule_59 ?_
  refine j_callV (pc := 62) C [] [] (rm0 := ({ frames := 6, cells := 1, slots := 6, locals := 106 } : Room)) (k' := 0) (n' := 0) Q.1 (c_X5_ruleCount (xl X) (xw X) hw hp (⟨hp.1.1, rfl⟩ : At _ (6, 0) _)) mp_X5_ruleCount wm_234 (⟨hp.1.1, rfl⟩ : At _ (6, 0) _) rfl rfl (by decide) rfl rfl (Nat.le_of_ble_eq_true rfl) dX9_rule_62 ⟨by decide, by decide⟩ ⟨Nat.le_of_ble_eq_true rfl, Nat.le_of_ble_eq_true rfl⟩ rfl rfl (det1 ?_)
  refine j_bipush (pc := 65) C (nI 6) dX9_rule_65 (by decide) ?_
  refine jn_icmp_lt (pc := 67) C 78 (a := nR S) (b := 6) (by omega) (by omega) dX9_rule_67 (by decide) (fun c0 => (absurd c0 (by omega) : False).elim) (fun c0 => ?_)
  exact j_throw0 (pc := 70) C (rm := ({ frames := 6, cells := 1, slots := 6, locals := 106 } : Room)) Q NT tp_X9_48 dX9_rule_70 dX9_rule_73 dX9_rule_74 dX9_rule_77 ⟨by decide, by decide, by decide, by decide⟩ ⟨rfl, rfl⟩
set_option maxHeartbeats 4000000 in
set_option maxRecDepth 100000 in
theorem c_X9_turn_0 (L9 : Launch) (w9 : Wd) {σ : HS} {S : SP} (hw : WF S) (hc : CI S σ) {a0 : Nat} (ha0 : At σ (9, 0) a0) {r : Nat} (h1 : r < nR S) (d : Bool) : MJ L9 w9 yX9_turn cX9_turn 3 (some .boolean) ({ frames := 5, cells := 0, slots := 0, locals := 107 } : Room) [.ref a0, .int (nI r), .int (bI d)] σ (fun a9 σ' => a9 = some (.int (bI (decide ((on9 S).testBit r ≠ d)))) ∧ CI (zN S 658 0 0 (setOn (on9 S) r d)) σ' ∧ Fr tgU σ σ') := by
  refine MJ.of (by decide +kernel) (Nat.le_of_ble_eq_true rfl) (fun X hX1 hX2 C Q hinit => ?_)
  subst hX1; subst hX2
  show J X 0 0 σ [(0, .ref a0), (1, .int (nI r)), (2, .int (bI d))] [] 0
  obtain ⟨hp, he, hx, hf9, hd⟩ := id hc
  obtain ⟨z1, z2, z3, z4⟩ := id hf9
  obtain ⟨ef, e1, e2⟩ := id he
  have gS := hw.1.1
  have gC := hw.1.2.2.2.1
  have gR := hw.2.1.1
  have gL := hw.2.2.1.1
  have gW := hw.2.2.2.1.1
  have gD := hw.2.2.2.2.1
  refine j_aload_n (pc := 0) C dX9_turn_0 rfl 0 rfl ?_
  refine j_getA (pc := 1) C fp_X9_10 ha0 rfl (f := 576) rfl (6, 0) (hG σ (6, 0)) z2 (⟨hp.1.1, rfl⟩ : At _ (6, 0) _) dX9_turn_1 ?_
  refine j_aload_n (pc := 4) C dX9_turn_4 rfl 0 rfl ?_
  refine j_iload_n (pc := 5) C dX9_turn_5 rfl 1 rfl ?_
  refine j_callV (pc := 6) C [.int (nI r)] [.ref (hG σ (6, 0))] (rm0 := ({ frames := 5, cells := 0, slots := 0, locals := 107 } : Room)) (k' := 0) (n' := 0) Q.1 (c_X9_ruleNumbered_t (xl X) (xw X) hw hc ha0 h1) mp_X9_ruleNumbered wm_705 ha0 rfl rfl (by decide) rfl rfl (Nat.le_of_ble_eq_true rfl) dX9_turn_6 ⟨by decide, by decide⟩ ⟨Nat.le_of_ble_eq_true rfl, Nat.le_of_ble_eq_true rfl⟩ rfl rfl (det1 ?_)
  refine j_iload_n (pc := 9) C dX9_turn_9 rfl 2 rfl ?_
  refine j_callV (pc := 10) C [.ref (hG σ (7, r)), .int (bI d)] [] (rm0 := ({ frames := 5, cells := 0, slots := 0, locals := 107 } : Room)) (k' := 0) (n' := 0) Q.1 (c_X5_setOn (xl X) (xw X) hw hp (⟨hp.1.1, rfl⟩ : At _ (6, 0) _) h1 ⟨hp.2.2.2.1.live h1, rfl⟩ d) mp_X5_setOn wm_713 (⟨hp.1.1, rfl⟩ : At _ (6, 0) _) rfl rfl (by decide) rfl rfl (Nat.le_of_ble_eq_true rfl) dX9_turn_10 ⟨by decide, by decide⟩ ⟨Nat.le_of_ble_eq_true rfl, Nat.le_of_ble_eq_true rfl⟩ rfl rfl (fun v9 σ1 hp9 => ?_)
  obtain ⟨rfl, hP1, hF1⟩ := hp9
  show J X 0 0 σ1 [(0, .ref a0), (1, .int (nI r)), (2, .int (bI d))] [.int (bI (decide ((on9 S).testBit r ≠ d)))] 13
  exact j_zreturn (pc := 13) C Q dX9_turn_13 (bI_nar _) (Nat.le_of_ble_eq_true rfl) (Nat.le_of_ble_eq_true rfl) (⟨rfl, hc.ph hw hP1 hF1 (fun t z => by simp only [tgP] at z ⊢; omega) (EqN.rf.zN rfl) rfl⟩)
set_option maxHeartbeats 4000000 in
set_option maxRecDepth 100000 in
theorem c_X9_turn_1 (L9 : Launch) (w9 : Wd) (hst9 : L9.stackTraces = false) {σ : HS} {S : SP} (hw : WF S) (hc : CI S σ) {a0 : Nat} (ha0 : At σ (9, 0) a0) {x : Int32} {d : Bool} (h : inI x (nR S) = false) : MX L9 w9 yX9_turn cX9_turn 3 (some .boolean) ({ frames := 7, cells := 1, slots := 6, locals := 107 } : Room) [.ref a0, .int x, .int (bI d)] σ (fun _ _ => False) (fun E σ' => E = "java/lang/IndexOutOfBoundsException" ∧ σ' = σ) := by
  refine MX.of (by decide +kernel) (Nat.le_of_ble_eq_true rfl) hst9 (fun X hX1 hX2 C Q NT => ?_)
  subst hX1; subst hX2
  show J X 0 0 σ [(0, .ref a0), (1, .int x), (2, .int (bI d))] [] 0
  obtain ⟨hp, he, hx, hf9, hd⟩ := id hc
  obtain ⟨z1, z2, z3, z4⟩ := id hf9
  obtain ⟨ef, e1, e2⟩ := id he
  have gS := hw.1.1
  have gC := hw.1.2.2.2.1
  have gR := hw.2.1.1
  have gL := hw.2.2.1.1
  have gW := hw.2.2.2.1.1
  have gD := hw.2.2.2.2.1
  refine j_aload_n (pc := 0) C dX9_turn_0 rfl 0 rfl ?_
  refine j_getA (pc := 1) C fp_X9_10 ha0 rfl (f := 576) rfl (6, 0) (hG σ (6, 0)) z2 (⟨hp.1.1, rfl⟩ : At _ (6, 0) _) dX9_turn_1 ?_
  refine j_aload_n (pc := 4) C dX9_turn_4 rfl 0 rfl ?_
  refine j_iload_n (pc := 5) C dX9_turn_5 rfl 1 rfl ?_
  exact j_callVX (pc := 6) C [.int x] [.ref (hG σ (6, 0))] (rm0 := ({ frames := 7, cells := 1, slots := 6, locals := 107 } : Room)) (k' := 1) (n' := 6) Q NT (c_X9_ruleNumbered_x (xl X) (xw X) hst9 hw hc ha0 h) mp_X9_ruleNumbered wm_705 ha0 rfl rfl (Nat.le_of_ble_eq_true rfl) rfl rfl (Nat.le_of_ble_eq_true rfl) dX9_turn_6 ⟨by decide, by decide⟩ ⟨Nat.le_of_ble_eq_true rfl, Nat.le_of_ble_eq_true rfl⟩ rfl rfl (fun _ _ h => h) (fun _ _ h => (h : False).elim)
set_option maxHeartbeats 4000000 in
set_option maxRecDepth 100000 in
theorem c_X9_raise_0 (L9 : Launch) (w9 : Wd) {σ : HS} {S : SP} (hw : WF S) (hc : CI S σ) {a0 : Nat} (ha0 : At σ (9, 0) a0) {r : Nat} (h1 : r < nR S) : MJ L9 w9 yX9_raise cX9_raise 2 (some .int) ({ frames := 5, cells := 0, slots := 0, locals := 107 } : Room) [.ref a0, .int (nI r)] σ (fun a9 σ' => a9 = some (.int (nI (pos9 S r - 1))) ∧ CI (S_raise S r) σ' ∧ Fr tgU σ σ') := by
  refine MJ.of (by decide +kernel) (Nat.le_of_ble_eq_true rfl) (fun X hX1 hX2 C Q hinit => ?_)
  subst hX1; subst hX2
  show J X 0 0 σ [(0, .ref a0), (1, .int (nI r))] [] 0
  obtain ⟨hp, he, hx, hf9, hd⟩ := id hc
  obtain ⟨z1, z2, z3, z4⟩ := id hf9
  obtain ⟨ef, e1, e2⟩ := id he
  have gS := hw.1.1
  have gC := hw.1.2.2.2.1
  have gR := hw.2.1.1
  have gL := hw.2.2.1.1
  have gW := hw.2.2.2.1.1
  have gD := hw.2.2.2.2.1
  refine j_aload_n (pc := 0) C dX9_raise_0 rfl 0 rfl ?_
  refine j_getA (pc := 1) C fp_X9_10 ha0 rfl (f := 576) rfl (6, 0) (hG σ (6, 0)) z2 (⟨hp.1.1, rfl⟩ : At _ (6, 0) _) dX9_raise_1 ?_
  refine j_aload_n (pc := 4) C dX9_raise_4 rfl 0 rfl ?_
  refine j_iload_n (pc := 5) C dX9_raise_5 rfl 1 rfl ?_
  refine j_callV (pc := 6) C [.int (nI r)] [.ref (hG σ (6, 0))] (rm0 := ({ frames := 5, cells := 0, slots := 0, locals := 107 } : Room)) (k' := 0) (n' := 0) Q.1 (c_X9_ruleNumbered_t (xl X) (xw X) hw hc ha0 h1) mp_X9_ruleNumbered wm_705 ha0 rfl rfl (by decide) rfl rfl (Nat.le_of_ble_eq_true rfl) dX9_raise_6 ⟨by decide, by decide⟩ ⟨Nat.le_of_ble_eq_true rfl, Nat.le_of_ble_eq_true rfl⟩ rfl rfl (det1 ?_)
  refine j_callV (pc := 9) C [.ref (hG σ (7, r))] [] (rm0 := ({ frames := 5, cells := 0, slots := 0, locals := 107 } : Room)) (k' := 0) (n' := 0) Q.1 (c_X5_moveAhead (xl X) (xw X) hw hp (⟨hp.1.1, rfl⟩ : At _ (6, 0) _) h1 ⟨hp.2.2.2.1.live h1, rfl⟩) mp_X5_moveAhead wm_729 (⟨hp.1.1, rfl⟩ : At _ (6, 0) _) rfl rfl (by decide) rfl rfl (Nat.le_of_ble_eq_true rfl) dX9_raise_9 ⟨by decide, by decide⟩ ⟨Nat.le_of_ble_eq_true rfl, Nat.le_of_ble_eq_true rfl⟩ rfl rfl (fun v9 σ1 hp9 => ?_)
  obtain ⟨rfl, hP1, hF1⟩ := hp9
  show J X 0 0 σ1 [(0, .ref a0), (1, .int (nI r))] [.int (nI (pos9 S r - 1))] 12
  exact j_ireturn (pc := 12) C Q dX9_raise_12 (Nat.le_of_ble_eq_true rfl) (Nat.le_of_ble_eq_true rfl) (⟨rfl, hc.ph hw hP1 hF1 (fun t z => by simp only [tgP, tgL] at z ⊢; omega) (raise_n rfl) raise_r⟩)
set_option maxHeartbeats 4000000 in
set_option maxRecDepth 100000 in
theorem c_X9_raise_1 (L9 : Launch) (w9 : Wd) (hst9 : L9.stackTraces = false) {σ : HS} {S : SP} (hw : WF S) (hc : CI S σ) {a0 : Nat} (ha0 : At σ (9, 0) a0) {x : Int32} (h : inI x (nR S) = false) : MX L9 w9 yX9_raise cX9_raise 2 (some .int) ({ frames := 7, cells := 1, slots := 6, locals := 107 } : Room) [.ref a0, .int x] σ (fun _ _ => False) (fun E σ' => E = "java/lang/IndexOutOfBoundsException" ∧ σ' = σ) := by
  refine MX.of (by decide +kernel) (Nat.le_of_ble_eq_true rfl) hst9 (fun X hX1 hX2 C Q NT => ?_)
  subst hX1; subst hX2
  show J X 0 0 σ [(0, .ref a0), (1, .int x)] [] 0
  obtain ⟨hp, he, hx, hf9, hd⟩ := id hc
  obtain ⟨z1, z2, z3, z4⟩ := id hf9
  obtain ⟨ef, e1, e2⟩ := id he
  have gS := hw.1.1
  have gC := hw.1.2.2.2.1
  have gR := hw.2.1.1
  have gL := hw.2.2.1.1
  have gW := hw.2.2.2.1.1
  have gD := hw.2.2.2.2.1
  refine j_aload_n (pc := 0) C dX9_raise_0 rfl 0 rfl ?_
  refine j_getA (pc := 1) C fp_X9_10 ha0 rfl (f := 576) rfl (6, 0) (hG σ (6, 0)) z2 (⟨hp.1.1, rfl⟩ : At _ (6, 0) _) dX9_raise_1 ?_
  refine j_aload_n (pc := 4) C dX9_raise_4 rfl 0 rfl ?_
  refine j_iload_n (pc := 5) C dX9_raise_5 rfl 1 rfl ?_
  exact j_callVX (pc := 6) C [.int x] [.ref (hG σ (6, 0))] (rm0 := ({ frames := 7, cells := 1, slots := 6, locals := 107 } : Room)) (k' := 1) (n' := 6) Q NT (c_X9_ruleNumbered_x (xl X) (xw X) hst9 hw hc ha0 h) mp_X9_ruleNumbered wm_705 ha0 rfl rfl (Nat.le_of_ble_eq_true rfl) rfl rfl (Nat.le_of_ble_eq_true rfl) dX9_raise_6 ⟨by decide, by decide⟩ ⟨Nat.le_of_ble_eq_true rfl, Nat.le_of_ble_eq_true rfl⟩ rfl rfl (fun _ _ h => h) (fun _ _ h => (h : False).elim)
set_option maxHeartbeats 4000000 in
set_option maxRecDepth 100000 in
theorem c_X9_hear_0 (L9 : Launch) (w9 : Wd) {σ : HS} {S : SP} (hw : WF S) (hc : CI S σ) {a0 : Nat} (ha0 : At σ (9, 0) a0) {l : Nat} (n1 : l < nL S) (n2 : th S l = 1) {c p : Nat} (h3 : c < 8) (h4 : p < 4) (h5 : nW S < 40) : MJ L9 w9 yX9_hear cX9_hear 5 (some .int) ({ frames := 8, cells := 2, slots := 54, locals := 216 } : Room) [.ref a0, .int (nI l), .int (nI c), .int (nI p)] σ (fun a9 σ' => a9 = some (.int (nI (nW S))) ∧ CI (S_word (noDraft S) l c p (dr S)) σ' ∧ Fr tgU σ σ') := by
  refine MJ.of (by decide +kernel) (Nat.le_of_ble_eq_true rfl) (fun X hX1 hX2 C Q hinit => ?_)
  subst hX1; subst hX2
  show J X 0 0 σ [(0, .ref a0), (1, .int (nI l)), (2, .int (nI c)), (3, .int (nI p))] [] 0
  obtain ⟨hp, he, hx, hf9, hd⟩ := id hc
  obtain ⟨z1, z2, z3, z4⟩ := id hf9
  obtain ⟨ef, e1, e2⟩ := id he
  have gS := hw.1.1
  have gC := hw.1.2.2.2.1
  have gR := hw.2.1.1
  have gL := hw.2.2.1.1
  have gW := hw.2.2.2.1.1
  have gD := hw.2.2.2.2.1
  refine j_aload_n (pc := 0) C dX9_hear_0 rfl 0 rfl ?_
  refine j_iload_n (pc := 1) C dX9_hear_1 rfl 1 rfl ?_
  refine j_callV (pc := 2) C [.int (nI l)] [] (rm0 := ({ frames := 8, cells := 2, slots := 54, locals := 216 } : Room)) (k' := 0) (n' := 0) Q.1 (c_X9_lexemeNumbered_t (xl X) (xw X) hw hc ha0 n1 n2) mp_X9_lexemeNumbered wm_636 ha0 rfl rfl (by decide) rfl rfl (Nat.le_of_ble_eq_true rfl) dX9_hear_2 ⟨by decide, by decide⟩ ⟨Nat.le_of_ble_eq_true rfl, Nat.le_of_ble_eq_true rfl⟩ rfl rfl (det1 ?_)
  refine j_astore (pc := 5) C [(4, .ref (hG σ (4, l))), (0, .ref a0), (1, .int (nI l)), (2, .int (nI c)), (3, .int (nI p))] dX9_hear_5 (by decide) rfl ?_
  refine j_iload_n (pc := 7) C dX9_hear_7 rfl 3 rfl ?_
  refine j_callS (pc := 8) C [.int (nI c)] [] (rm0 := ({ frames := 8, cells := 2, slots := 54, locals := 216 } : Room)) (k' := 0) (n' := 0) Q.1 (c_X9_checkCell_t (xl X) (xw X) h3) mp_X9_checkCell wm_647 rfl rfl (Nat.le_of_ble_eq_true rfl) dX9_hear_8 ⟨by decide, by decide⟩ ⟨Nat.le_of_ble_eq_true rfl, Nat.le_of_ble_eq_true rfl⟩ rfl rfl (det0 ?_)
  refine j_iload_n (pc := 11) C dX9_hear_11 rfl 4 rfl ?_
  refine j_callS (pc := 12) C [.int (nI p)] [] (rm0 := ({ frames := 8, cells := 2, slots := 54, locals := 216 } : Room)) (k' := 0) (n' := 0) Q.1 (c_X9_checkSpeaker_t (xl X) (xw X) h4) mp_X9_checkSpeaker wm_744 rfl rfl (Nat.le_of_ble_eq_true rfl) dX9_hear_12 ⟨by decide, by decide⟩ ⟨Nat.le_of_ble_eq_true rfl, Nat.le_of_ble_eq_true rfl⟩ rfl rfl (det0 ?_)
  refine j_aload_n (pc := 15) C dX9_hear_15 rfl 1 rfl ?_
  refine j_getA (pc := 16) C fp_X9_19 ha0 rfl (f := 577) rfl (5, 0) (hG σ (5, 0)) z3 (⟨hx.1.1, rfl⟩ : At _ (5, 0) _) dX9_hear_16 ?_
  refine j_callV (pc := 19) C [] [] (rm0 := ({ frames := 8, cells := 2, slots := 54, locals := 216 } : Room)) (k' := 0) (n' := 0) Q.1 (c_X4_wordCount (xl X) (xw X) hw hx (⟨hx.1.1, rfl⟩ : At _ (5, 0) _)) mp_X4_wordCount wm_243 (⟨hx.1.1, rfl⟩ : At _ (5, 0) _) rfl rfl (by decide) rfl rfl (Nat.le_of_ble_eq_true rfl) dX9_hear_19 ⟨by decide, by decide⟩ ⟨Nat.le_of_ble_eq_true rfl, Nat.le_of_ble_eq_true rfl⟩ rfl rfl (det1 ?_)
  refine j_bipush (pc := 22) C (nI 40) dX9_hear_22 (by decide) ?_
  refine jn_icmp_lt (pc := 24) C 35 (a := nW S) (b := 40) (by omega) (by omega) dX9_hear_24 (by decide) (fun c0 => ?_) (fun c0 => (absurd c0 (by omega) : False).elim)
  refine j_aload_n (pc := 35) C dX9_hear_35 rfl 1 rfl ?_
  refine j_getA (pc := 36) C fp_X9_19 ha0 rfl (f := 577) rfl (5, 0) (hG σ (5, 0)) z3 (⟨hx.1.1, rfl⟩ : At _ (5, 0) _) dX9_hear_36 ?_
  refine j_aload (pc := 39) C dX9_hear_39 0 rfl ?_
  refine j_iload_n (pc := 41) C dX9_hear_41 rfl 3 rfl ?_
  refine j_iload_n (pc := 42) C dX9_hear_42 rfl 4 rfl ?_
  refine j_aload_n (pc := 43) C dX9_hear_43 rfl 1 rfl ?_
  refine j_callV (pc := 44) C [] [.int (nI p), .int (nI c), .ref (hG σ (4, l)), .ref (hG σ (5, 0))] (rm0 := ({ frames := 8, cells := 2, slots := 54, locals := 216 } : Room)) (k' := 0) (n' := 0) Q.1 (k_take (xl X) (xw X) hw hc ha0) mp_X9_takeDraft wm_219 ha0 rfl rfl (by decide) rfl rfl (Nat.le_of_ble_eq_true rfl) dX9_hear_44 ⟨by decide, by decide⟩ ⟨Nat.le_of_ble_eq_true rfl, Nat.le_of_ble_eq_true rfl⟩ rfl rfl (fun v9 σ1 hp9 => ?_)
  obtain ⟨rfl, hC1, hF1⟩ := hp9
  show J X 0 0 σ1 [(4, .ref (hG σ (4, l))), (0, .ref a0), (1, .int (nI l)), (2, .int (nI c)), (3, .int (nI p))] [.long (enc5 (dr S)), .int (nI p), .int (nI c), .ref (hG σ (4, l)), .ref (hG σ (5, 0))] 47
  have hw1 := hw.noDraft
  refine j_callV (pc := 47) C [.ref (hG σ (4, l)), .int (nI c), .int (nI p), .long (enc5 (dr S))] [] (rm0 := ({ frames := 8, cells := 2, slots := 54, locals := 216 } : Room)) (k' := 2) (n' := 54) Q.1 (c_X4_addWord (xl X) (xw X) hw1 hC1.2.2.1 (hF1.at ⟨hx.1.1, rfl⟩) (l := l) (c := c) (p := p) (r := dr S) (hF1.at ⟨hx.2.1.1.live n1, rfl⟩) h5) mp_X4_addWord wm_747 (hF1.at (⟨hx.1.1, rfl⟩ : At _ (5, 0) _)) rfl rfl (by decide) rfl rfl (Nat.le_of_ble_eq_true rfl) dX9_hear_47 ⟨by decide, by decide⟩ ⟨Nat.le_of_ble_eq_true rfl, Nat.le_of_ble_eq_true rfl⟩ rfl rfl (fun v9 σ2 hp9 => ?_)
  obtain ⟨rfl, hL2, hF2⟩ := hp9
  show J X 2 54 σ2 [(4, .ref (hG σ (4, l))), (0, .ref a0), (1, .int (nI l)), (2, .int (nI c)), (3, .int (nI p))] [.int (nI (nW S))] 50
  exact j_ireturn (pc := 50) C Q dX9_hear_50 (Nat.le_of_ble_eq_true rfl) (Nat.le_of_ble_eq_true rfl) (⟨rfl, ci_tr hF1 (fun t z => tg99_U z) (hC1.lx hw1 hL2 hF2 (fun t z => Or.inr (Or.inl z)) (wd_N rfl rfl rfl rfl rfl) (wd_R rfl))⟩)
set_option maxHeartbeats 4000000 in
set_option maxRecDepth 100000 in
theorem c_X9_hear_1 (L9 : Launch) (w9 : Wd) (hst9 : L9.stackTraces = false) {σ : HS} {S : SP} (hw : WF S) (hc : CI S σ) {a0 : Nat} (ha0 : At σ (9, 0) a0) {x c p : Int32} (h : (isLex S x && inI c 8 && inI p 4) = false) : MX L9 w9 yX9_hear cX9_hear 5 (some .int) ({ frames := 7, cells := 1, slots := 6, locals := 108 } : Room) [.ref a0, .int x, .int c, .int p] σ (fun _ _ => False) (fun E σ' => E = "java/lang/IndexOutOfBoundsException" ∧ σ' = σ) := by
  refine MX.of (by decide +kernel) (Nat.le_of_ble_eq_true rfl) hst9 (fun X hX1 hX2 C Q NT => ?_)
  subst hX1; subst hX2
  show J X 0 0 σ [(0, .ref a0), (1, .int x), (2, .int c), (3, .int p)] [] 0
  obtain ⟨hp, he, hx, hf9, hd⟩ := id hc
  obtain ⟨z1, z2, z3, z4⟩ := id hf9
  obtain ⟨ef, e1, e2⟩ := id he
  have gS := hw.1.1
  have gC := hw.1.2.2.2.1
  have gR := hw.2.1.1
  have gL := hw.2.2.1.1
  have gW := hw.2.2.2.1.1
  have gD := hw.2.2.2.2.1
  by_cases e1 : isLex S x = true
  · rw [e1, Bool.true_and] at h
    obtain ⟨n1, n2, n3⟩ := isLex_t e1
    generalize xN x = l at n1 n2 n3
    subst n3
    show J X 0 0 σ [(0, .ref a0), (1, .int (nI l)), (2, .int c), (3, .int p)] [] 0
    refine j_aload_n (pc := 0) C dX9_hear_0 rfl 0 rfl ?_
    refine j_iload_n (pc := 1) C dX9_hear_1 rfl 1 rfl ?_
    refine j_callV (pc := 2) C [.int (nI l)] [] (rm0 := ({ frames := 7, cells := 1, slots := 6, locals := 108 } : Room)) (k' := 0) (n' := 0) Q.1 (c_X9_lexemeNumbered_t (xl X) (xw X) hw hc ha0 n1 n2) mp_X9_lexemeNumbered wm_636 ha0 rfl rfl (by decide) rfl rfl (Nat.le_of_ble_eq_true rfl) dX9_hear_2 ⟨by decide, by decide⟩ ⟨Nat.le_of_ble_eq_true rfl, Nat.le_of_ble_eq_true rfl⟩ rfl rfl (det1 ?_)
    by_cases e2 : inI c 8 = true
    · rw [e2, Bool.true_and] at h
      obtain ⟨m1, m2⟩ := inI_t e2
      generalize xN c = c1 at m1 m2
      subst m2
      show J X 0 0 σ [(0, .ref a0), (1, .int (nI l)), (2, .int (nI c1)), (3, .int p)] [.ref (hG σ (4, l))] 5
      refine j_astore (pc := 5) C [(4, .ref (hG σ (4, l))), (0, .ref a0), (1, .int (nI l)), (2, .int (nI c1)), (3, .int p)] dX9_hear_5 (by decide) rfl ?_
      refine j_iload_n (pc := 7) C dX9_hear_7 rfl 3 rfl ?_
      refine j_callS (pc := 8) C [.int (nI c1)] [] (rm0 := ({ frames := 7, cells := 1, slots := 6, locals := 108 } : Room)) (k' := 0) (n' := 0) Q.1 (c_X9_checkCell_t (xl X) (xw X) m1) mp_X9_checkCell wm_647 rfl rfl (Nat.le_of_ble_eq_true rfl) dX9_hear_8 ⟨by decide, by decide⟩ ⟨Nat.le_of_ble_eq_true rfl, Nat.le_of_ble_eq_true rfl⟩ rfl rfl (det0 ?_)
      refine j_iload_n (pc := 11) C dX9_hear_11 rfl 4 rfl ?_
      exact j_callSX (pc := 12) C [.int p] [] (rm0 := ({ frames := 7, cells := 1, slots := 6, locals := 108 } : Room)) (k' := 1) (n' := 6) Q NT (c_X9_checkSpeaker_x (xl X) (xw X) hst9 h) mp_X9_checkSpeaker wm_744 rfl rfl (Nat.le_of_ble_eq_true rfl) dX9_hear_12 ⟨by decide, by decide⟩ ⟨Nat.le_of_ble_eq_true rfl, Nat.le_of_ble_eq_true rfl⟩ rfl rfl (fun _ _ h => h) (fun _ _ h => (h : False).elim)
    · refine j_astore (pc := 5) C [(4, .ref (hG σ (4, l))), (0, .ref a0), (1, .int (nI l)), (2, .int c), (3, .int p)] dX9_hear_5 (by decide) rfl ?_
      refine j_iload_n (pc := 7) C dX9_hear_7 rfl 3 rfl ?_
      exact j_callSX (pc := 8) C [.int c] [] (rm0 := ({ frames := 7, cells := 1, slots := 6, locals := 108 } : Room)) (k' := 1) (n' := 6) Q NT (c_X9_checkCell_x (xl X) (xw X) hst9 (ts_nt e2)) mp_X9_checkCell wm_647 rfl rfl (Nat.le_of_ble_eq_true rfl) dX9_hear_8 ⟨by decide, by decide⟩ ⟨Nat.le_of_ble_eq_true rfl, Nat.le_of_ble_eq_true rfl⟩ rfl rfl (fun _ _ h => h) (fun _ _ h => (h : False).elim)
  · refine j_aload_n (pc := 0) C dX9_hear_0 rfl 0 rfl ?_
    refine j_iload_n (pc := 1) C dX9_hear_1 rfl 1 rfl ?_
    exact j_callVX (pc := 2) C [.int x] [] (rm0 := ({ frames := 7, cells := 1, slots := 6, locals := 108 } : Room)) (k' := 1) (n' := 6) Q NT (c_X9_lexemeNumbered_x (xl X) (xw X) hst9 hw hc ha0 (ts_nt e1)) mp_X9_lexemeNumbered wm_636 ha0 rfl rfl (Nat.le_of_ble_eq_true rfl) rfl rfl (Nat.le_of_ble_eq_true rfl) dX9_hear_2 ⟨by decide, by decide⟩ ⟨Nat.le_of_ble_eq_true rfl, Nat.le_of_ble_eq_true rfl⟩ rfl rfl (fun _ _ h => h) (fun _ _ h => (h : False).elim)
set_option maxHeartbeats 4000000 in
set_option maxRecDepth 100000 in
theorem c_X9_hear_2 (L9 : Launch) (w9 : Wd) (hst9 : L9.stackTraces = false) {σ : HS} {S : SP} (hw : WF S) (hc : CI S σ) {a0 : Nat} (ha0 : At σ (9, 0) a0) {l : Nat} (n1 : l < nL S) (n2 : th S l = 1) {c p : Nat} (h3 : c < 8) (h4 : p < 4) (h5 : nW S = 40) : MX L9 w9 yX9_hear cX9_hear 5 (some .int) ({ frames := 6, cells := 1, slots := 6, locals := 108 } : Room) [.ref a0, .int (nI l), .int (nI c), .int (nI p)] σ (fun _ _ => False) (fun E σ' => E = "java/lang/IllegalStateException" ∧ σ' = σ) := by
  refine MX.of (by decide +kernel) (Nat.le_of_ble_eq_true rfl) hst9 (fun X hX1 hX2 C Q NT => ?_)
  subst hX1; subst hX2
  show J X 0 0 σ [(0, .ref a0), (1, .int (nI l)), (2, .int (nI c)), (3, .int (nI p))] [] 0
  obtain ⟨hp, he, hx, hf9, hd⟩ := id hc
  obtain ⟨z1, z2, z3, z4⟩ := id hf9
  obtain ⟨ef, e1, e2⟩ := id he
  have gS := hw.1.1
  have gC := hw.1.2.2.2.1
  have gR := hw.2.1.1
  have gL := hw.2.2.1.1
  have gW := hw.2.2.2.1.1
  have gD := hw.2.2.2.2.1
  refine j_aload_n (pc := 0) C dX9_hear_0 rfl 0 rfl ?_
  refine j_iload_n (pc := 1) C dX9_hear_1 rfl 1 rfl ?_
  refine j_callV (pc := 2) C [.int (nI l)] [] (rm0 := ({ frames := 6, cells := 1, slots := 6, locals := 108 } : Room)) (k' := 0) (n' := 0) Q.1 (c_X9_lexemeNumbered_t (xl X) (xw X) hw hc ha0 n1 n2) mp_X9_lexemeNumbered wm_636 ha0 rfl rfl (by decide) rfl rfl (Nat.le_of_ble_eq_true rfl) dX9_hear_2 ⟨by decide, by decide⟩ ⟨Nat.le_of_ble_eq_true rfl, Nat.le_of_ble_eq_true rfl⟩ rfl rfl (det1 ?_)
  refine j_astore (pc := 5) C [(4, .ref (hG σ (4, l))), (0, .ref a0), (1, .int (nI l)), (2, .int (nI c)), (3, .int (nI p))] dX9_hear_5 (by decide) rfl ?_
  refine j_iload_n (pc := 7) C dX9_hear_7 rfl 3 rfl ?_
  refine j_callS (pc := 8) C [.int (nI c)] [] (rm0 := ({ frames := 6, cells := 1, slots := 6, locals := 108 } : Room)) (k' := 0) (n' := 0) Q.1 (c_X9_checkCell_t (xl X) (xw X) h3) mp_X9_checkCell wm_647 rfl rfl (Nat.le_of_ble_eq_true rfl) dX9_hear_8 ⟨by decide, by decide⟩ ⟨Nat.le_of_ble_eq_true rfl, Nat.le_of_ble_eq_true rfl⟩ rfl rfl (det0 ?_)
  refine j_iload_n (pc := 11) C dX9_hear_11 rfl 4 rfl ?_
  refine j_callS (pc := 12) C [.int (nI p)] [] (rm0 := ({ frames := 6, cells := 1, slots := 6, locals := 108 } : Room)) (k' := 0) (n' := 0) Q.1 (c_X9_checkSpeaker_t (xl X) (xw X) h4) mp_X9_checkSpeaker wm_744 rfl rfl (Nat.le_of_ble_eq_true rfl) dX9_hear_12 ⟨by decide, by decide⟩ ⟨Nat.le_of_ble_eq_true rfl, Nat.le_of_ble_eq_true rfl⟩ rfl rfl (det0 ?_)
  refine j_aload_n (pc := 15) C dX9_hear_15 rfl 1 rfl ?_
  refine j_getA (pc := 16) C fp_X9_19 ha0 rfl (f := 577) rfl (5, 0) (hG σ (5, 0)) z3 (⟨hx.1.1, rfl⟩ : At _ (5, 0) _) dX9_hear_16 ?_
  refine j_callV (pc := 19) C [] [] (rm0 := ({ frames := 6, cells := 1, slots := 6, locals := 108 } : Room)) (k' := 0) (n' := 0) Q.1 (c_X4_wordCount (xl X) (xw X) hw hx (⟨hx.1.1, rfl⟩ : At _ (5, 0) _)) mp_X4_wordCount wm_243 (⟨hx.1.1, rfl⟩ : At _ (5, 0) _) rfl rfl (by decide) rfl rfl (Nat.le_of_ble_eq_true rfl) dX9_hear_19 ⟨by decide, by decide⟩ ⟨Nat.le_of_ble_eq_true rfl, Nat.le_of_ble_eq_true rfl⟩ rfl rfl (det1 ?_)
  refine j_bipush (pc := 22) C (nI 40) dX9_hear_22 (by decide) ?_
  refine jn_icmp_lt (pc := 24) C 35 (a := nW S) (b := 40) (by omega) (by omega) dX9_hear_24 (by decide) (fun c0 => (absurd c0 (by omega) : False).elim) (fun c0 => ?_)
  exact j_throw0 (pc := 27) C (rm := ({ frames := 6, cells := 1, slots := 6, locals := 108 } : Room)) Q NT tp_X9_48 dX9_hear_27 dX9_hear_30 dX9_hear_31 dX9_hear_34 ⟨by decide, by decide, by decide, by decide⟩ ⟨rfl, rfl⟩
set_option maxHeartbeats 4000000 in
set_option maxRecDepth 100000 in
theorem c_X9_correct_0 (L9 : Launch) (w9 : Wd) {σ : HS} {S : SP} (hw : WF S) (hc : CI S σ) {a0 : Nat} (ha0 : At σ (9, 0) a0) {v : Nat} (n1 : v < nW S) (n2 : hd9 S v = 1) : MJ L9 w9 yX9_correct cX9_correct 5 (some .boolean) ({ frames := 5, cells := 0, slots := 0, locals := 108 } : Room) [.ref a0, .int (nI v)] σ (fun a9 σ' => a9 = some (.int (bI (decide (dr S ≠ hr S v)))) ∧ CI (zR (noDraft S) 768 424 v (some (dr S))) σ' ∧ Fr tgU σ σ') := by
  refine MJ.of (by decide +kernel) (Nat.le_of_ble_eq_true rfl) (fun X hX1 hX2 C Q hinit => ?_)
  subst hX1; subst hX2
  show J X 0 0 σ [(0, .ref a0), (1, .int (nI v))] [] 0
  obtain ⟨hp, he, hx, hf9, hd⟩ := id hc
  obtain ⟨z1, z2, z3, z4⟩ := id hf9
  obtain ⟨ef, e1, e2⟩ := id he
  have gS := hw.1.1
  have gC := hw.1.2.2.2.1
  have gR := hw.2.1.1
  have gL := hw.2.2.1.1
  have gW := hw.2.2.2.1.1
  have gD := hw.2.2.2.2.1
  have iq := enc5_inj (WF_drR hw) (okR_hr hw v)
  refine j_aload_n (pc := 0) C dX9_correct_0 rfl 0 rfl ?_
  refine j_iload_n (pc := 1) C dX9_correct_1 rfl 1 rfl ?_
  refine j_callV (pc := 2) C [.int (nI v)] [] (rm0 := ({ frames := 5, cells := 0, slots := 0, locals := 108 } : Room)) (k' := 0) (n' := 0) Q.1 (c_X9_wordNumbered_t (xl X) (xw X) hw hc ha0 n1 n2) mp_X9_wordNumbered wm_788 ha0 rfl rfl (by decide) rfl rfl (Nat.le_of_ble_eq_true rfl) dX9_correct_2 ⟨by decide, by decide⟩ ⟨Nat.le_of_ble_eq_true rfl, Nat.le_of_ble_eq_true rfl⟩ rfl rfl (det1 ?_)
  refine j_astore_n (pc := 5) C [(2, .ref (hG σ (8, v))), (0, .ref a0), (1, .int (nI v))] dX9_correct_5 rfl (by decide) rfl ?_
  refine j_aload_n (pc := 6) C dX9_correct_6 rfl 0 rfl ?_
  refine j_getL (pc := 7) C fp_X9_153 (⟨hx.2.2.2.1.1.live n1, rfl⟩ : At _ (8, v) _) rfl (f := 515) rfl dX9_correct_7 ?_
  refine j_topl (enc5 (hr S v)) ((hx.2.2.2.1.2.1 v n1).2.2.2.1) ?_
  refine j_lstore_n (pc := 10) C [(3, .long (enc5 (hr S v))), (2, .ref (hG σ (8, v))), (0, .ref a0), (1, .int (nI v))] dX9_correct_10 rfl (by decide) rfl ?_
  refine j_aload_n (pc := 11) C dX9_correct_11 rfl 1 rfl ?_
  refine j_aload_n (pc := 12) C dX9_correct_12 rfl 2 rfl ?_
  refine j_callV (pc := 13) C [] [.ref (hG σ (8, v))] (rm0 := ({ frames := 5, cells := 0, slots := 0, locals := 108 } : Room)) (k' := 0) (n' := 0) Q.1 (k_take (xl X) (xw X) hw hc ha0) mp_X9_takeDraft wm_219 ha0 rfl rfl (by decide) rfl rfl (Nat.le_of_ble_eq_true rfl) dX9_correct_13 ⟨by decide, by decide⟩ ⟨Nat.le_of_ble_eq_true rfl, Nat.le_of_ble_eq_true rfl⟩ rfl rfl (fun v9 σ1 hp9 => ?_)
  obtain ⟨rfl, hC1, hF1⟩ := hp9
  show J X 0 0 σ1 [(3, .long (enc5 (hr S v))), (2, .ref (hG σ (8, v))), (0, .ref a0), (1, .int (nI v))] [.long (enc5 (dr S)), .ref (hG σ (8, v))] 16
  have hw1 := hw.noDraft
  refine j_putL (pc := 16) C fp_X9_153 (hF1.at ⟨hx.2.2.2.1.1.live n1, rfl⟩) rfl rfl (Or.inl rfl) rfl (by decide) (f := 515) rfl dX9_correct_16 ?_
  refine j_aload_n (pc := 19) C dX9_correct_19 rfl 1 rfl ?_
  refine j_getL (pc := 20) C fp_X9_153 (hF1.at ⟨hx.2.2.2.1.1.live n1, rfl⟩) rfl (f := 515) rfl dX9_correct_20 ?_
  refine j_topl (enc5 (dr S)) (sL_eq (σ := σ1) (f := 515) (i := v) (j := 0) (v := enc5 (dr S))) ?_
  refine j_lload_n (pc := 23) C dX9_correct_23 rfl 0 rfl ?_
  refine j_lcmp (pc := 24) C dX9_correct_24 ?_
  refine jl_if_eq (pc := 25) C 32 dX9_correct_25 (by decide) (fun c1 => ?_) (fun c1 => ?_)
  · refine j_iconst (pc := 32) C (nI 0) dX9_correct_32 (by decide) ?_
    refine j_topi (bI (decide (dr S ≠ hr S v))) (by rw [decide_eq_false (fun z => z (iq.mp c1))]; rfl) ?_
    exact j_zreturn (pc := 33) C Q dX9_correct_33 (bI_nar _) (Nat.le_of_ble_eq_true rfl) (Nat.le_of_ble_eq_true rfl) (⟨rfl, ci_tr hF1 (fun t z => tg99_U z) (hC1.lx hw1 (hC1.2.2.1.wform hw1 (dr S)) (Fr.rf.sL (f := 515) (i := v) (j := 0) (v := enc5 (dr S)) (P := fun t => t = (8, v)) rfl) (fun t z => Or.inr (Or.inl (Or.inl (by rw [z]; exact ⟨rfl, by show v < 100; omega⟩)))) EqN.rf.zR (EqR.rf.zR rfl))⟩)
  · refine j_iconst (pc := 28) C (nI 1) dX9_correct_28 (by decide) ?_
    refine j_goto (pc := 29) C 33 dX9_correct_29 (by decide) ?_
    refine j_topi (bI (decide (dr S ≠ hr S v))) (by rw [decide_eq_true (show dr S ≠ hr S v from fun z => c1 (iq.mpr z))]; rfl) ?_
    exact j_zreturn (pc := 33) C Q dX9_correct_33 (bI_nar _) (Nat.le_of_ble_eq_true rfl) (Nat.le_of_ble_eq_true rfl) (⟨rfl, ci_tr hF1 (fun t z => tg99_U z) (hC1.lx hw1 (hC1.2.2.1.wform hw1 (dr S)) (Fr.rf.sL (f := 515) (i := v) (j := 0) (v := enc5 (dr S)) (P := fun t => t = (8, v)) rfl) (fun t z => Or.inr (Or.inl (Or.inl (by rw [z]; exact ⟨rfl, by show v < 100; omega⟩)))) EqN.rf.zR (EqR.rf.zR rfl))⟩)
set_option maxHeartbeats 4000000 in
set_option maxRecDepth 100000 in
theorem c_X9_correct_1 (L9 : Launch) (w9 : Wd) (hst9 : L9.stackTraces = false) {σ : HS} {S : SP} (hw : WF S) (hc : CI S σ) {a0 : Nat} (ha0 : At σ (9, 0) a0) {x : Int32} (h : isWrd S x = false) : MX L9 w9 yX9_correct cX9_correct 5 (some .boolean) ({ frames := 7, cells := 1, slots := 6, locals := 108 } : Room) [.ref a0, .int x] σ (fun _ _ => False) (fun E σ' => E = "java/lang/IndexOutOfBoundsException" ∧ σ' = σ) := by
  refine MX.of (by decide +kernel) (Nat.le_of_ble_eq_true rfl) hst9 (fun X hX1 hX2 C Q NT => ?_)
  subst hX1; subst hX2
  show J X 0 0 σ [(0, .ref a0), (1, .int x)] [] 0
  obtain ⟨hp, he, hx, hf9, hd⟩ := id hc
  obtain ⟨z1, z2, z3, z4⟩ := id hf9
  obtain ⟨ef, e1, e2⟩ := id he
  have gS := hw.1.1
  have gC := hw.1.2.2.2.1
  have gR := hw.2.1.1
  have gL := hw.2.2.1.1
  have gW := hw.2.2.2.1.1
  have gD := hw.2.2.2.2.1
  refine j_aload_n (pc := 0) C dX9_correct_0 rfl 0 rfl ?_
  refine j_iload_n (pc := 1) C dX9_correct_1 rfl 1 rfl ?_
  exact j_callVX (pc := 2) C [.int x] [] (rm0 := ({ frames := 7, cells := 1, slots := 6, locals := 108 } : Room)) (k' := 1) (n' := 6) Q NT (c_X9_wordNumbered_x (xl X) (xw X) hst9 hw hc ha0 h) mp_X9_wordNumbered wm_788 ha0 rfl rfl (Nat.le_of_ble_eq_true rfl) rfl rfl (Nat.le_of_ble_eq_true rfl) dX9_correct_2 ⟨by decide, by decide⟩ ⟨Nat.le_of_ble_eq_true rfl, Nat.le_of_ble_eq_true rfl⟩ rfl rfl (fun _ _ h => h) (fun _ _ h => (h : False).elim)
set_option maxHeartbeats 4000000 in
set_option maxRecDepth 100000 in
theorem c_X9_forget_0 (L9 : Launch) (w9 : Wd) {σ : HS} {S : SP} (hw : WF S) (hc : CI S σ) {a0 : Nat} (ha0 : At σ (9, 0) a0) {v : Nat} (n1 : v < nW S) (n2 : hd9 S v = 1) : MJ L9 w9 yX9_forget cX9_forget 2 (some .int) ({ frames := 5, cells := 0, slots := 0, locals := 108 } : Room) [.ref a0, .int (nI v)] σ (fun a9 σ' => a9 = some (.int (nI (heards (zN S 832 25 v 0) (nW S)))) ∧ CI (zN S 832 25 v 0) σ' ∧ Fr tgU σ σ') := by
  refine MJ.of (by decide +kernel) (Nat.le_of_ble_eq_true rfl) (fun X hX1 hX2 C Q hinit => ?_)
  subst hX1; subst hX2
  show J X 0 0 σ [(0, .ref a0), (1, .int (nI v))] [] 0
  obtain ⟨hp, he, hx, hf9, hd⟩ := id hc
  obtain ⟨z1, z2, z3, z4⟩ := id hf9
  obtain ⟨ef, e1, e2⟩ := id he
  have gS := hw.1.1
  have gC := hw.1.2.2.2.1
  have gR := hw.2.1.1
  have gL := hw.2.2.1.1
  have gW := hw.2.2.2.1.1
  have gD := hw.2.2.2.2.1
  have hF := Fr.rf.sI (σ0 := σ) (σ := σ) (f := 516) (i := v) (j := 0) (v := nI 1) (P := fun t => t = (8, v)) rfl
  have hL1 := hx.gone hw (v := v)
  have hw1 := hw.gone (v := v)
  refine j_aload_n (pc := 0) C dX9_forget_0 rfl 0 rfl ?_
  refine j_iload_n (pc := 1) C dX9_forget_1 rfl 1 rfl ?_
  refine j_callV (pc := 2) C [.int (nI v)] [] (rm0 := ({ frames := 5, cells := 0, slots := 0, locals := 108 } : Room)) (k' := 0) (n' := 0) Q.1 (c_X9_wordNumbered_t (xl X) (xw X) hw hc ha0 n1 n2) mp_X9_wordNumbered wm_788 ha0 rfl rfl (by decide) rfl rfl (Nat.le_of_ble_eq_true rfl) dX9_forget_2 ⟨by decide, by decide⟩ ⟨Nat.le_of_ble_eq_true rfl, Nat.le_of_ble_eq_true rfl⟩ rfl rfl (det1 ?_)
  refine j_iconst (pc := 5) C (nI 1) dX9_forget_5 (by decide) ?_
  refine j_putI (pc := 6) C fp_X9_156 (⟨hx.2.2.2.1.1.live n1, rfl⟩ : At _ (8, v) _) (by decide) rfl (Or.inl rfl) rfl (by decide) (f := 516) rfl dX9_forget_6 ?_
  refine j_aload_n (pc := 9) C dX9_forget_9 rfl 0 rfl ?_
  refine j_getA (pc := 10) C fp_X9_19 (hF.at ha0) rfl (f := 577) rfl (5, 0) (hG σ (5, 0)) z3 (hF.at ⟨hx.1.1, rfl⟩) dX9_forget_10 ?_
  refine j_callV (pc := 13) C [] [] (rm0 := ({ frames := 5, cells := 0, slots := 0, locals := 108 } : Room)) (k' := 0) (n' := 0) Q.1 (c_X4_wordsLeft (xl X) (xw X) hw1 hL1 (hF.at ⟨hx.1.1, rfl⟩)) mp_X4_wordsLeft wm_799 (hF.at ⟨hx.1.1, rfl⟩) rfl rfl (by decide) rfl rfl (Nat.le_of_ble_eq_true rfl) dX9_forget_13 ⟨by decide, by decide⟩ ⟨Nat.le_of_ble_eq_true rfl, Nat.le_of_ble_eq_true rfl⟩ rfl rfl (det1 ?_)
  exact j_ireturn (pc := 16) C Q dX9_forget_16 (Nat.le_of_ble_eq_true rfl) (Nat.le_of_ble_eq_true rfl) (⟨rfl, hc.lx hw hL1 hF (fun t z => Or.inr (Or.inl (Or.inl (by rw [z]; exact ⟨rfl, by show v < 100; omega⟩)))) (EqN.rf.zN rfl) EqR.rf.zN⟩)
set_option maxHeartbeats 4000000 in
set_option maxRecDepth 100000 in
theorem c_X9_forget_1 (L9 : Launch) (w9 : Wd) (hst9 : L9.stackTraces = false) {σ : HS} {S : SP} (hw : WF S) (hc : CI S σ) {a0 : Nat} (ha0 : At σ (9, 0) a0) {x : Int32} (h : isWrd S x = false) : MX L9 w9 yX9_forget cX9_forget 2 (some .int) ({ frames := 7, cells := 1, slots := 6, locals := 108 } : Room) [.ref a0, .int x] σ (fun _ _ => False) (fun E σ' => E = "java/lang/IndexOutOfBoundsException" ∧ σ' = σ) := by
  refine MX.of (by decide +kernel) (Nat.le_of_ble_eq_true rfl) hst9 (fun X hX1 hX2 C Q NT => ?_)
  subst hX1; subst hX2
  show J X 0 0 σ [(0, .ref a0), (1, .int x)] [] 0
  obtain ⟨hp, he, hx, hf9, hd⟩ := id hc
  obtain ⟨z1, z2, z3, z4⟩ := id hf9
  obtain ⟨ef, e1, e2⟩ := id he
  have gS := hw.1.1
  have gC := hw.1.2.2.2.1
  have gR := hw.2.1.1
  have gL := hw.2.2.1.1
  have gW := hw.2.2.2.1.1
  have gD := hw.2.2.2.2.1
  refine j_aload_n (pc := 0) C dX9_forget_0 rfl 0 rfl ?_
  refine j_iload_n (pc := 1) C dX9_forget_1 rfl 1 rfl ?_
  exact j_callVX (pc := 2) C [.int x] [] (rm0 := ({ frames := 7, cells := 1, slots := 6, locals := 108 } : Room)) (k' := 1) (n' := 6) Q NT (c_X9_wordNumbered_x (xl X) (xw X) hst9 hw hc ha0 h) mp_X9_wordNumbered wm_788 ha0 rfl rfl (Nat.le_of_ble_eq_true rfl) rfl rfl (Nat.le_of_ble_eq_true rfl) dX9_forget_2 ⟨by decide, by decide⟩ ⟨Nat.le_of_ble_eq_true rfl, Nat.le_of_ble_eq_true rfl⟩ rfl rfl (fun _ _ h => h) (fun _ _ h => (h : False).elim)
set_option maxHeartbeats 4000000 in
set_option maxRecDepth 100000 in
theorem c_X9_except_t (L9 : Launch) (w9 : Wd) {σ : HS} {S : SP} (hw : WF S) (hc : CI S σ) {a0 : Nat} (ha0 : At σ (9, 0) a0) {l : Nat} (n1 : l < nL S) (n2 : th S l = 1) {c : Nat} (h3 : c < 8) : MJ L9 w9 yX9_except cX9_except 6 (some .boolean) ({ frames := 5, cells := 0, slots := 0, locals := 108 } : Room) [.ref a0, .int (nI l), .int (nI c), .int (bI true)] σ (fun a9 σ' => a9 = some (.int (bI (xc9 S l c).isSome)) ∧ CI (zR (noDraft S) 768 412 (8 * l + c) (some (dr S))) σ' ∧ Fr tgU σ σ') := by
  refine MJ.of (by decide +kernel) (Nat.le_of_ble_eq_true rfl) (fun X hX1 hX2 C Q hinit => ?_)
  subst hX1; subst hX2
  show J X 0 0 σ [(0, .ref a0), (1, .int (nI l)), (2, .int (nI c)), (3, .int (bI true))] [] 0
  obtain ⟨hp, he, hx, hf9, hd⟩ := id hc
  obtain ⟨z1, z2, z3, z4⟩ := id hf9
  obtain ⟨ef, e1, e2⟩ := id he
  have gS := hw.1.1
  have gC := hw.1.2.2.2.1
  have gR := hw.2.1.1
  have gL := hw.2.2.1.1
  have gW := hw.2.2.2.1.1
  have gD := hw.2.2.2.2.1
  have hX := (hx.2.2.1 l n1).t n2
  refine j_aload_n (pc := 0) C dX9_except_0 rfl 0 rfl ?_
  refine j_iload_n (pc := 1) C dX9_except_1 rfl 1 rfl ?_
  refine j_callV (pc := 2) C [.int (nI l)] [] (rm0 := ({ frames := 5, cells := 0, slots := 0, locals := 108 } : Room)) (k' := 0) (n' := 0) Q.1 (c_X9_lexemeNumbered_t (xl X) (xw X) hw hc ha0 n1 n2) mp_X9_lexemeNumbered wm_636 ha0 rfl rfl (by decide) rfl rfl (Nat.le_of_ble_eq_true rfl) dX9_except_2 ⟨by decide, by decide⟩ ⟨Nat.le_of_ble_eq_true rfl, Nat.le_of_ble_eq_true rfl⟩ rfl rfl (det1 ?_)
  refine j_getA (pc := 5) C fp_X9_163 (⟨hx.2.1.1.live n1, rfl⟩ : At _ (4, l) _) rfl (f := 259) rfl (1, l) (hG σ (1, l)) ((hx.2.1.2.1 l n1).2.2.2) (⟨((hx.2.2.1 l n1).t n2).1, rfl⟩ : At _ (1, l) _) dX9_except_5 ?_
  refine j_astore (pc := 8) C [(4, .ref (hG σ (1, l))), (0, .ref a0), (1, .int (nI l)), (2, .int (nI c)), (3, .int (bI true))] dX9_except_8 (by decide) rfl ?_
  refine j_iload_n (pc := 10) C dX9_except_10 rfl 3 rfl ?_
  refine j_callS (pc := 11) C [.int (nI c)] [] (rm0 := ({ frames := 5, cells := 0, slots := 0, locals := 108 } : Room)) (k' := 0) (n' := 0) Q.1 (c_X9_checkCell_t (xl X) (xw X) h3) mp_X9_checkCell wm_647 rfl rfl (Nat.le_of_ble_eq_true rfl) dX9_except_11 ⟨by decide, by decide⟩ ⟨Nat.le_of_ble_eq_true rfl, Nat.le_of_ble_eq_true rfl⟩ rfl rfl (det0 ?_)
  refine j_aload (pc := 14) C dX9_except_14 0 rfl ?_
  refine j_iload_n (pc := 16) C dX9_except_16 rfl 3 rfl ?_
  refine j_callV (pc := 17) C [.int (nI c)] [] (rm0 := ({ frames := 5, cells := 0, slots := 0, locals := 108 } : Room)) (k' := 0) (n' := 0) Q.1 (c_X0_has (xl X) (xw X) hX h3) mp_X0_has wm_359 (⟨((hx.2.2.1 l n1).t n2).1, rfl⟩ : At _ (1, l) _) rfl rfl (Nat.le_of_ble_eq_true rfl) rfl rfl (Nat.le_of_ble_eq_true rfl) dX9_except_17 ⟨by decide, by decide⟩ ⟨Nat.le_of_ble_eq_true rfl, Nat.le_of_ble_eq_true rfl⟩ rfl rfl (det1 ?_)
  refine j_istore (pc := 20) C [(5, .int (bI ((xc9 S l c).isSome))), (4, .ref (hG σ (1, l))), (0, .ref a0), (1, .int (nI l)), (2, .int (nI c)), (3, .int (bI true))] dX9_except_20 (by decide) rfl ?_
  refine j_iload_n (pc := 22) C dX9_except_22 rfl 5 rfl ?_
  refine j_if_eq (pc := 23) C 39 dX9_except_23 (by decide) (fun q => absurd q (by decide)) (fun _ => ?_)
  refine j_aload (pc := 26) C dX9_except_26 1 rfl ?_
  refine j_iload_n (pc := 28) C dX9_except_28 rfl 4 rfl ?_
  refine j_aload_n (pc := 29) C dX9_except_29 rfl 2 rfl ?_
  refine j_callV (pc := 30) C [] [.int (nI c), .ref (hG σ (1, l))] (rm0 := ({ frames := 5, cells := 0, slots := 0, locals := 108 } : Room)) (k' := 0) (n' := 0) Q.1 (k_take (xl X) (xw X) hw hc ha0) mp_X9_takeDraft wm_219 ha0 rfl rfl (by decide) rfl rfl (Nat.le_of_ble_eq_true rfl) dX9_except_30 ⟨by decide, by decide⟩ ⟨Nat.le_of_ble_eq_true rfl, Nat.le_of_ble_eq_true rfl⟩ rfl rfl (fun v9 σ1 hp9 => ?_)
  obtain ⟨rfl, hC1, hF1⟩ := hp9
  show J X 0 0 σ1 [(5, .int (bI ((xc9 S l c).isSome))), (4, .ref (hG σ (1, l))), (0, .ref a0), (1, .int (nI l)), (2, .int (nI c)), (3, .int (bI true))] [.long (enc5 (dr S)), .int (nI c), .ref (hG σ (1, l))] 33
  have hw1 := hw.noDraft
  have hX1 := hX.fr hF1 (fun t z => by simp only [tgC, tg99] at z ⊢; omega)
  refine j_callV (pc := 33) C [.int (nI c), .long (enc5 (dr S))] [] (rm0 := ({ frames := 5, cells := 0, slots := 0, locals := 108 } : Room)) (k' := 0) (n' := 0) Q.1 (c_X0_give (xl X) (xw X) hX1 (hF1.at ⟨hX.1, rfl⟩) h3 (dr S)) mp_X0_give wm_651 (hF1.at (⟨((hx.2.2.1 l n1).t n2).1, rfl⟩ : At _ (1, l) _)) rfl rfl (Nat.le_of_ble_eq_true rfl) rfl rfl (Nat.le_of_ble_eq_true rfl) dX9_except_33 ⟨by decide, by decide⟩ ⟨Nat.le_of_ble_eq_true rfl, Nat.le_of_ble_eq_true rfl⟩ rfl rfl (fun v9 σ2 hp9 => ?_)
  obtain ⟨rfl, hE2, hF2⟩ := hp9
  show J X 0 0 σ2 [(5, .int (bI ((xc9 S l c).isSome))), (4, .ref (hG σ (1, l))), (0, .ref a0), (1, .int (nI l)), (2, .int (nI c)), (3, .int (bI true))] [] 36
  refine j_goto (pc := 36) C 45 dX9_except_36 (by decide) ?_
  refine j_iload (pc := 45) C dX9_except_45 0 rfl ?_
  exact j_zreturn (pc := 47) C Q dX9_except_47 (bI_nar _) (Nat.le_of_ble_eq_true rfl) (Nat.le_of_ble_eq_true rfl) (⟨rfl, ci_tr hF1 (fun t z => tg99_U z) (hC1.lx hw1 (hC1.2.2.1.exc hw1 n1 n2 h3 hF2 hE2) hF2 (fun t z => Or.inl (Or.inr (Or.inr ⟨z.1, by have := z.2; omega⟩))) EqN.rf.zR (EqR.rf.zR rfl))⟩)
set_option maxHeartbeats 4000000 in
set_option maxRecDepth 100000 in
theorem c_X9_except_f (L9 : Launch) (w9 : Wd) {σ : HS} {S : SP} (hw : WF S) (hc : CI S σ) {a0 : Nat} (ha0 : At σ (9, 0) a0) {l : Nat} (n1 : l < nL S) (n2 : th S l = 1) {c : Nat} (h3 : c < 8) : MJ L9 w9 yX9_except cX9_except 6 (some .boolean) ({ frames := 5, cells := 0, slots := 0, locals := 108 } : Room) [.ref a0, .int (nI l), .int (nI c), .int (bI false)] σ (fun a9 σ' => a9 = some (.int (bI (xc9 S l c).isSome)) ∧ CI (zR S 768 412 (8 * l + c) none) σ' ∧ Fr tgU σ σ') := by
  refine MJ.of (by decide +kernel) (Nat.le_of_ble_eq_true rfl) (fun X hX1 hX2 C Q hinit => ?_)
  subst hX1; subst hX2
  show J X 0 0 σ [(0, .ref a0), (1, .int (nI l)), (2, .int (nI c)), (3, .int (bI false))] [] 0
  obtain ⟨hp, he, hx, hf9, hd⟩ := id hc
  obtain ⟨z1, z2, z3, z4⟩ := id hf9
  obtain ⟨ef, e1, e2⟩ := id he
  have gS := hw.1.1
  have gC := hw.1.2.2.2.1
  have gR := hw.2.1.1
  have gL := hw.2.2.1.1
  have gW := hw.2.2.2.1.1
  have gD := hw.2.2.2.2.1
  have hX := (hx.2.2.1 l n1).t n2
  refine j_aload_n (pc := 0) C dX9_except_0 rfl 0 rfl ?_
  refine j_iload_n (pc := 1) C dX9_except_1 rfl 1 rfl ?_
  refine j_callV (pc := 2) C [.int (nI l)] [] (rm0 := ({ frames := 5, cells := 0, slots := 0, locals := 108 } : Room)) (k' := 0) (n' := 0) Q.1 (c_X9_lexemeNumbered_t (xl X) (xw X) hw hc ha0 n1 n2) mp_X9_lexemeNumbered wm_636 ha0 rfl rfl (by decide) rfl rfl (Nat.le_of_ble_eq_true rfl) dX9_except_2 ⟨by decide, by decide⟩ ⟨Nat.le_of_ble_eq_true rfl, Nat.le_of_ble_eq_true rfl⟩ rfl rfl (det1 ?_)
  refine j_getA (pc := 5) C fp_X9_163 (⟨hx.2.1.1.live n1, rfl⟩ : At _ (4, l) _) rfl (f := 259) rfl (1, l) (hG σ (1, l)) ((hx.2.1.2.1 l n1).2.2.2) (⟨((hx.2.2.1 l n1).t n2).1, rfl⟩ : At _ (1, l) _) dX9_except_5 ?_
  refine j_astore (pc := 8) C [(4, .ref (hG σ (1, l))), (0, .ref a0), (1, .int (nI l)), (2, .int (nI c)), (3, .int (bI false))] dX9_except_8 (by decide) rfl ?_
  refine j_iload_n (pc := 10) C dX9_except_10 rfl 3 rfl ?_
  refine j_callS (pc := 11) C [.int (nI c)] [] (rm0 := ({ frames := 5, cells := 0, slots := 0, locals := 108 } : Room)) (k' := 0) (n' := 0) Q.1 (c_X9_checkCell_t (xl X) (xw X) h3) mp_X9_checkCell wm_647 rfl rfl (Nat.le_of_ble_eq_true rfl) dX9_except_11 ⟨by decide, by decide⟩ ⟨Nat.le_of_ble_eq_true rfl, Nat.le_of_ble_eq_true rfl⟩ rfl rfl (det0 ?_)
  refine j_aload (pc := 14) C dX9_except_14 0 rfl ?_
  refine j_iload_n (pc := 16) C dX9_except_16 rfl 3 rfl ?_
  refine j_callV (pc := 17) C [.int (nI c)] [] (rm0 := ({ frames := 5, cells := 0, slots := 0, locals := 108 } : Room)) (k' := 0) (n' := 0) Q.1 (c_X0_has (xl X) (xw X) hX h3) mp_X0_has wm_359 (⟨((hx.2.2.1 l n1).t n2).1, rfl⟩ : At _ (1, l) _) rfl rfl (Nat.le_of_ble_eq_true rfl) rfl rfl (Nat.le_of_ble_eq_true rfl) dX9_except_17 ⟨by decide, by decide⟩ ⟨Nat.le_of_ble_eq_true rfl, Nat.le_of_ble_eq_true rfl⟩ rfl rfl (det1 ?_)
  refine j_istore (pc := 20) C [(5, .int (bI ((xc9 S l c).isSome))), (4, .ref (hG σ (1, l))), (0, .ref a0), (1, .int (nI l)), (2, .int (nI c)), (3, .int (bI false))] dX9_except_20 (by decide) rfl ?_
  refine j_iload_n (pc := 22) C dX9_except_22 rfl 5 rfl ?_
  refine j_if_eq (pc := 23) C 39 dX9_except_23 (by decide) (fun _ => ?_) (fun q => absurd q (by decide))
  refine j_aload (pc := 39) C dX9_except_39 1 rfl ?_
  refine j_iload_n (pc := 41) C dX9_except_41 rfl 4 rfl ?_
  refine j_callV (pc := 42) C [.int (nI c)] [] (rm0 := ({ frames := 5, cells := 0, slots := 0, locals := 108 } : Room)) (k' := 0) (n' := 0) Q.1 (c_X0_drop (xl X) (xw X) hX ⟨hX.1, rfl⟩ h3) mp_X0_drop wm_810 (⟨((hx.2.2.1 l n1).t n2).1, rfl⟩ : At _ (1, l) _) rfl rfl (Nat.le_of_ble_eq_true rfl) rfl rfl (Nat.le_of_ble_eq_true rfl) dX9_except_42 ⟨by decide, by decide⟩ ⟨Nat.le_of_ble_eq_true rfl, Nat.le_of_ble_eq_true rfl⟩ rfl rfl (fun v9 σ2 hp9 => ?_)
  obtain ⟨rfl, hE2, hF2⟩ := hp9
  show J X 0 0 σ2 [(5, .int (bI ((xc9 S l c).isSome))), (4, .ref (hG σ (1, l))), (0, .ref a0), (1, .int (nI l)), (2, .int (nI c)), (3, .int (bI false))] [] 45
  refine j_iload (pc := 45) C dX9_except_45 0 rfl ?_
  exact j_zreturn (pc := 47) C Q dX9_except_47 (bI_nar _) (Nat.le_of_ble_eq_true rfl) (Nat.le_of_ble_eq_true rfl) (⟨rfl, hc.lx hw (hx.exc hw n1 n2 h3 hF2 hE2) hF2 (fun t z => Or.inl (Or.inr (Or.inr ⟨z.1, by have := z.2; omega⟩))) EqN.rf.zR (EqR.rf.zR rfl)⟩)
set_option maxHeartbeats 4000000 in
set_option maxRecDepth 100000 in
theorem c_X9_except_1 (L9 : Launch) (w9 : Wd) (hst9 : L9.stackTraces = false) {σ : HS} {S : SP} (hw : WF S) (hc : CI S σ) {a0 : Nat} (ha0 : At σ (9, 0) a0) {x c : Int32} {d : Bool} (h : (isLex S x && inI c 8) = false) : MX L9 w9 yX9_except cX9_except 6 (some .boolean) ({ frames := 7, cells := 1, slots := 6, locals := 108 } : Room) [.ref a0, .int x, .int c, .int (bI d)] σ (fun _ _ => False) (fun E σ' => E = "java/lang/IndexOutOfBoundsException" ∧ σ' = σ) := by
  refine MX.of (by decide +kernel) (Nat.le_of_ble_eq_true rfl) hst9 (fun X hX1 hX2 C Q NT => ?_)
  subst hX1; subst hX2
  show J X 0 0 σ [(0, .ref a0), (1, .int x), (2, .int c), (3, .int (bI d))] [] 0
  obtain ⟨hp, he, hx, hf9, hd⟩ := id hc
  obtain ⟨z1, z2, z3, z4⟩ := id hf9
  obtain ⟨ef, e1, e2⟩ := id he
  have gS := hw.1.1
  have gC := hw.1.2.2.2.1
  have gR := hw.2.1.1
  have gL := hw.2.2.1.1
  have gW := hw.2.2.2.1.1
  have gD := hw.2.2.2.2.1
  by_cases e1 : isLex S x = true
  · rw [e1, Bool.true_and] at h
    obtain ⟨n1, n2, n3⟩ := isLex_t e1
    generalize xN x = l at n1 n2 n3
    subst n3
    show J X 0 0 σ [(0, .ref a0), (1, .int (nI l)), (2, .int c), (3, .int (bI d))] [] 0
    refine j_aload_n (pc := 0) C dX9_except_0 rfl 0 rfl ?_
    refine j_iload_n (pc := 1) C dX9_except_1 rfl 1 rfl ?_
    refine j_callV (pc := 2) C [.int (nI l)] [] (rm0 := ({ frames := 7, cells := 1, slots := 6, locals := 108 } : Room)) (k' := 0) (n' := 0) Q.1 (c_X9_lexemeNumbered_t (xl X) (xw X) hw hc ha0 n1 n2) mp_X9_lexemeNumbered wm_636 ha0 rfl rfl (by decide) rfl rfl (Nat.le_of_ble_eq_true rfl) dX9_except_2 ⟨by decide, by decide⟩ ⟨Nat.le_of_ble_eq_true rfl, Nat.le_of_ble_eq_true rfl⟩ rfl rfl (det1 ?_)
    refine j_getA (pc := 5) C fp_X9_163 (⟨hx.2.1.1.live n1, rfl⟩ : At _ (4, l) _) rfl (f := 259) rfl (1, l) (hG σ (1, l)) ((hx.2.1.2.1 l n1).2.2.2) (⟨((hx.2.2.1 l n1).t n2).1, rfl⟩ : At _ (1, l) _) dX9_except_5 ?_
    refine j_astore (pc := 8) C [(4, .ref (hG σ (1, l))), (0, .ref a0), (1, .int (nI l)), (2, .int c), (3, .int (bI d))] dX9_except_8 (by decide) rfl ?_
    refine j_iload_n (pc := 10) C dX9_except_10 rfl 3 rfl ?_
    exact j_callSX (pc := 11) C [.int c] [] (rm0 := ({ frames := 7, cells := 1, slots := 6, locals := 108 } : Room)) (k' := 1) (n' := 6) Q NT (c_X9_checkCell_x (xl X) (xw X) hst9 h) mp_X9_checkCell wm_647 rfl rfl (Nat.le_of_ble_eq_true rfl) dX9_except_11 ⟨by decide, by decide⟩ ⟨Nat.le_of_ble_eq_true rfl, Nat.le_of_ble_eq_true rfl⟩ rfl rfl (fun _ _ h => h) (fun _ _ h => (h : False).elim)
  · refine j_aload_n (pc := 0) C dX9_except_0 rfl 0 rfl ?_
    refine j_iload_n (pc := 1) C dX9_except_1 rfl 1 rfl ?_
    exact j_callVX (pc := 2) C [.int x] [] (rm0 := ({ frames := 7, cells := 1, slots := 6, locals := 108 } : Room)) (k' := 1) (n' := 6) Q NT (c_X9_lexemeNumbered_x (xl X) (xw X) hst9 hw hc ha0 (ts_nt e1)) mp_X9_lexemeNumbered wm_636 ha0 rfl rfl (Nat.le_of_ble_eq_true rfl) rfl rfl (Nat.le_of_ble_eq_true rfl) dX9_except_2 ⟨by decide, by decide⟩ ⟨Nat.le_of_ble_eq_true rfl, Nat.le_of_ble_eq_true rfl⟩ rfl rfl (fun _ _ h => h) (fun _ _ h => (h : False).elim)
set_option maxHeartbeats 4000000 in
set_option maxRecDepth 100000 in
theorem c_X9_merge_0 (L9 : Launch) (w9 : Wd) {σ : HS} {S : SP} (hw : WF S) (hc : CI S σ) {a0 : Nat} (ha0 : At σ (9, 0) a0) {a b : Nat} (n1 : a < nL S) (n2 : th S a = 1) (m1 : b < nL S) (m2 : th S b = 1) (hab : a ≠ b) : MJ L9 w9 yX9_merge cX9_merge 5 (some .int) ({ frames := 9, cells := 4, slots := 64, locals := 238 } : Room) [.ref a0, .int (nI a), .int (nI b)] σ (fun a9 σ' => a9 = some (.int (nI (moveN S a 255 (nW S)))) ∧ CI (S_merge S a b) σ' ∧ Fr tgU σ σ') := by
  refine MJ.of (by decide +kernel) (Nat.le_of_ble_eq_true rfl) (fun X hX1 hX2 C Q hinit => ?_)
  subst hX1; subst hX2
  show J X 0 0 σ [(0, .ref a0), (1, .int (nI a)), (2, .int (nI b))] [] 0
  obtain ⟨hp, he, hx, hf9, hd⟩ := id hc
  obtain ⟨z1, z2, z3, z4⟩ := id hf9
  obtain ⟨ef, e1, e2⟩ := id he
  have gS := hw.1.1
  have gC := hw.1.2.2.2.1
  have gR := hw.2.1.1
  have gL := hw.2.2.1.1
  have gW := hw.2.2.2.1.1
  have gD := hw.2.2.2.2.1
  refine j_aload_n (pc := 0) C dX9_merge_0 rfl 0 rfl ?_
  refine j_iload_n (pc := 1) C dX9_merge_1 rfl 1 rfl ?_
  refine j_callV (pc := 2) C [.int (nI a)] [] (rm0 := ({ frames := 9, cells := 4, slots := 64, locals := 238 } : Room)) (k' := 0) (n' := 0) Q.1 (c_X9_lexemeNumbered_t (xl X) (xw X) hw hc ha0 n1 n2) mp_X9_lexemeNumbered wm_636 ha0 rfl rfl (by decide) rfl rfl (Nat.le_of_ble_eq_true rfl) dX9_merge_2 ⟨by decide, by decide⟩ ⟨Nat.le_of_ble_eq_true rfl, Nat.le_of_ble_eq_true rfl⟩ rfl rfl (det1 ?_)
  refine j_astore_n (pc := 5) C [(3, .ref (hG σ (4, a))), (0, .ref a0), (1, .int (nI a)), (2, .int (nI b))] dX9_merge_5 rfl (by decide) rfl ?_
  refine j_aload_n (pc := 6) C dX9_merge_6 rfl 1 rfl ?_
  refine j_iload_n (pc := 7) C dX9_merge_7 rfl 3 rfl ?_
  refine j_callV (pc := 8) C [.int (nI b)] [] (rm0 := ({ frames := 9, cells := 4, slots := 64, locals := 238 } : Room)) (k' := 0) (n' := 0) Q.1 (c_X9_lexemeNumbered_t (xl X) (xw X) hw hc ha0 m1 m2) mp_X9_lexemeNumbered wm_636 ha0 rfl rfl (by decide) rfl rfl (Nat.le_of_ble_eq_true rfl) dX9_merge_8 ⟨by decide, by decide⟩ ⟨Nat.le_of_ble_eq_true rfl, Nat.le_of_ble_eq_true rfl⟩ rfl rfl (det1 ?_)
  refine j_astore (pc := 11) C [(4, .ref (hG σ (4, b))), (3, .ref (hG σ (4, a))), (0, .ref a0), (1, .int (nI a)), (2, .int (nI b))] dX9_merge_11 (by decide) rfl ?_
  refine j_aload_n (pc := 13) C dX9_merge_13 rfl 1 rfl ?_
  refine j_aload (pc := 14) C dX9_merge_14 0 rfl ?_
  refine jt_acmp_ne (pc := 16) C 27 (⟨hx.2.1.1.live n1, rfl⟩ : At _ (4, a) _) (⟨hx.2.1.1.live m1, rfl⟩ : At _ (4, b) _) dX9_merge_16 (by decide) (fun c0 => ?_) (fun c0 => (hab (congrArg Prod.snd c0) : False).elim)
  refine j_aload_n (pc := 27) C dX9_merge_27 rfl 2 rfl ?_
  refine j_getA (pc := 28) C fp_X9_19 ha0 rfl (f := 577) rfl (5, 0) (hG σ (5, 0)) z3 (⟨hx.1.1, rfl⟩ : At _ (5, 0) _) dX9_merge_28 ?_
  refine j_aload_n (pc := 31) C dX9_merge_31 rfl 1 rfl ?_
  refine j_aload (pc := 32) C dX9_merge_32 0 rfl ?_
  refine j_callV (pc := 34) C [.ref (hG σ (4, a)), .ref (hG σ (4, b))] [] (rm0 := ({ frames := 9, cells := 4, slots := 64, locals := 238 } : Room)) (k' := 4) (n' := 64) Q.1 (c_X4_mergeInto (xl X) (xw X) hw hx (⟨hx.1.1, rfl⟩ : At _ (5, 0) _) n1 m1 hab n2 m2 ⟨hx.2.1.1.live n1, rfl⟩ ⟨hx.2.1.1.live m1, rfl⟩) mp_X4_mergeInto wm_821 (⟨hx.1.1, rfl⟩ : At _ (5, 0) _) rfl rfl (by decide) rfl rfl (Nat.le_of_ble_eq_true rfl) dX9_merge_34 ⟨by decide, by decide⟩ ⟨Nat.le_of_ble_eq_true rfl, Nat.le_of_ble_eq_true rfl⟩ rfl rfl (fun v9 σ1 hp9 => ?_)
  obtain ⟨rfl, hL1, hF1⟩ := hp9
  show J X 4 64 σ1 [(4, .ref (hG σ (4, b))), (3, .ref (hG σ (4, a))), (0, .ref a0), (1, .int (nI a)), (2, .int (nI b))] [.int (nI (moveN S a 255 (nW S)))] 37
  exact j_ireturn (pc := 37) C Q dX9_merge_37 (Nat.le_of_ble_eq_true rfl) (Nat.le_of_ble_eq_true rfl) (⟨rfl, hc.lx hw hL1 hF1 (fun t z => tgM_Y (by omega) (by omega) z) (eqn_merge rfl rfl rfl rfl rfl rfl (fun _ => rfl)) (fun f i j q => mg_R (fun z => by rw [z.1, z.2] at q; cases q) (fun z => by rw [z.1, z.2] at q; cases q))⟩)
set_option maxHeartbeats 4000000 in
set_option maxRecDepth 100000 in
theorem c_X9_merge_1 (L9 : Launch) (w9 : Wd) (hst9 : L9.stackTraces = false) {σ : HS} {S : SP} (hw : WF S) (hc : CI S σ) {a0 : Nat} (ha0 : At σ (9, 0) a0) {x y : Int32} (h : (isLex S x && isLex S y) = false) : MX L9 w9 yX9_merge cX9_merge 5 (some .int) ({ frames := 7, cells := 1, slots := 6, locals := 108 } : Room) [.ref a0, .int x, .int y] σ (fun _ _ => False) (fun E σ' => E = "java/lang/IndexOutOfBoundsException" ∧ σ' = σ) := by
  refine MX.of (by decide +kernel) (Nat.le_of_ble_eq_true rfl) hst9 (fun X hX1 hX2 C Q NT => ?_)
  subst hX1; subst hX2
  show J X 0 0 σ [(0, .ref a0), (1, .int x), (2, .int y)] [] 0
  obtain ⟨hp, he, hx, hf9, hd⟩ := id hc
  obtain ⟨z1, z2, z3, z4⟩ := id hf9
  obtain ⟨ef, e1, e2⟩ := id he
  have gS := hw.1.1
  have gC := hw.1.2.2.2.1
  have gR := hw.2.1.1
  have gL := hw.2.2.1.1
  have gW := hw.2.2.2.1.1
  have gD := hw.2.2.2.2.1
  by_cases e1 : isLex S x = true
  · rw [e1, Bool.true_and] at h
    obtain ⟨n1, n2, n3⟩ := isLex_t e1
    generalize xN x = l at n1 n2 n3
    subst n3
    show J X 0 0 σ [(0, .ref a0), (1, .int (nI l)), (2, .int y)] [] 0
    refine j_aload_n (pc := 0) C dX9_merge_0 rfl 0 rfl ?_
    refine j_iload_n (pc := 1) C dX9_merge_1 rfl 1 rfl ?_
    refine j_callV (pc := 2) C [.int (nI l)] [] (rm0 := ({ frames := 7, cells := 1, slots := 6, locals := 108 } : Room)) (k' := 0) (n' := 0) Q.1 (c_X9_lexemeNumbered_t (xl X) (xw X) hw hc ha0 n1 n2) mp_X9_lexemeNumbered wm_636 ha0 rfl rfl (by decide) rfl rfl (Nat.le_of_ble_eq_true rfl) dX9_merge_2 ⟨by decide, by decide⟩ ⟨Nat.le_of_ble_eq_true rfl, Nat.le_of_ble_eq_true rfl⟩ rfl rfl (det1 ?_)
    refine j_astore_n (pc := 5) C [(3, .ref (hG σ (4, l))), (0, .ref a0), (1, .int (nI l)), (2, .int y)] dX9_merge_5 rfl (by decide) rfl ?_
    refine j_aload_n (pc := 6) C dX9_merge_6 rfl 1 rfl ?_
    refine j_iload_n (pc := 7) C dX9_merge_7 rfl 3 rfl ?_
    exact j_callVX (pc := 8) C [.int y] [] (rm0 := ({ frames := 7, cells := 1, slots := 6, locals := 108 } : Room)) (k' := 1) (n' := 6) Q NT (c_X9_lexemeNumbered_x (xl X) (xw X) hst9 hw hc ha0 h) mp_X9_lexemeNumbered wm_636 ha0 rfl rfl (Nat.le_of_ble_eq_true rfl) rfl rfl (Nat.le_of_ble_eq_true rfl) dX9_merge_8 ⟨by decide, by decide⟩ ⟨Nat.le_of_ble_eq_true rfl, Nat.le_of_ble_eq_true rfl⟩ rfl rfl (fun _ _ h => h) (fun _ _ h => (h : False).elim)
  · refine j_aload_n (pc := 0) C dX9_merge_0 rfl 0 rfl ?_
    refine j_iload_n (pc := 1) C dX9_merge_1 rfl 1 rfl ?_
    exact j_callVX (pc := 2) C [.int x] [] (rm0 := ({ frames := 7, cells := 1, slots := 6, locals := 108 } : Room)) (k' := 1) (n' := 6) Q NT (c_X9_lexemeNumbered_x (xl X) (xw X) hst9 hw hc ha0 (ts_nt e1)) mp_X9_lexemeNumbered wm_636 ha0 rfl rfl (Nat.le_of_ble_eq_true rfl) rfl rfl (Nat.le_of_ble_eq_true rfl) dX9_merge_2 ⟨by decide, by decide⟩ ⟨Nat.le_of_ble_eq_true rfl, Nat.le_of_ble_eq_true rfl⟩ rfl rfl (fun _ _ h => h) (fun _ _ h => (h : False).elim)
set_option maxHeartbeats 4000000 in
set_option maxRecDepth 100000 in
theorem c_X9_merge_2 (L9 : Launch) (w9 : Wd) (hst9 : L9.stackTraces = false) {σ : HS} {S : SP} (hw : WF S) (hc : CI S σ) {a0 : Nat} (ha0 : At σ (9, 0) a0) {a : Nat} (n1 : a < nL S) (n2 : th S a = 1) : MX L9 w9 yX9_merge cX9_merge 5 (some .int) ({ frames := 6, cells := 1, slots := 6, locals := 108 } : Room) [.ref a0, .int (nI a), .int (nI a)] σ (fun _ _ => False) (fun E σ' => E = "java/lang/IllegalArgumentException" ∧ σ' = σ) := by
  refine MX.of (by decide +kernel) (Nat.le_of_ble_eq_true rfl) hst9 (fun X hX1 hX2 C Q NT => ?_)
  subst hX1; subst hX2
  show J X 0 0 σ [(0, .ref a0), (1, .int (nI a)), (2, .int (nI a))] [] 0
  obtain ⟨hp, he, hx, hf9, hd⟩ := id hc
  obtain ⟨z1, z2, z3, z4⟩ := id hf9
  obtain ⟨ef, e1, e2⟩ := id he
  have gS := hw.1.1
  have gC := hw.1.2.2.2.1
  have gR := hw.2.1.1
  have gL := hw.2.2.1.1
  have gW := hw.2.2.2.1.1
  have gD := hw.2.2.2.2.1
  refine j_aload_n (pc := 0) C dX9_merge_0 rfl 0 rfl ?_
  refine j_iload_n (pc := 1) C dX9_merge_1 rfl 1 rfl ?_
  refine j_callV (pc := 2) C [.int (nI a)] [] (rm0 := ({ frames := 6, cells := 1, slots := 6, locals := 108 } : Room)) (k' := 0) (n' := 0) Q.1 (c_X9_lexemeNumbered_t (xl X) (xw X) hw hc ha0 n1 n2) mp_X9_lexemeNumbered wm_636 ha0 rfl rfl (by decide) rfl rfl (Nat.le_of_ble_eq_true rfl) dX9_merge_2 ⟨by decide, by decide⟩ ⟨Nat.le_of_ble_eq_true rfl, Nat.le_of_ble_eq_true rfl⟩ rfl rfl (det1 ?_)
  refine j_astore_n (pc := 5) C [(3, .ref (hG σ (4, a))), (0, .ref a0), (1, .int (nI a)), (2, .int (nI a))] dX9_merge_5 rfl (by decide) rfl ?_
  refine j_aload_n (pc := 6) C dX9_merge_6 rfl 1 rfl ?_
  refine j_iload_n (pc := 7) C dX9_merge_7 rfl 3 rfl ?_
  refine j_callV (pc := 8) C [.int (nI a)] [] (rm0 := ({ frames := 6, cells := 1, slots := 6, locals := 108 } : Room)) (k' := 0) (n' := 0) Q.1 (c_X9_lexemeNumbered_t (xl X) (xw X) hw hc ha0 n1 n2) mp_X9_lexemeNumbered wm_636 ha0 rfl rfl (by decide) rfl rfl (Nat.le_of_ble_eq_true rfl) dX9_merge_8 ⟨by decide, by decide⟩ ⟨Nat.le_of_ble_eq_true rfl, Nat.le_of_ble_eq_true rfl⟩ rfl rfl (det1 ?_)
  refine j_astore (pc := 11) C [(4, .ref (hG σ (4, a))), (3, .ref (hG σ (4, a))), (0, .ref a0), (1, .int (nI a)), (2, .int (nI a))] dX9_merge_11 (by decide) rfl ?_
  refine j_aload_n (pc := 13) C dX9_merge_13 rfl 1 rfl ?_
  refine j_aload (pc := 14) C dX9_merge_14 0 rfl ?_
  refine jt_acmp_ne (pc := 16) C 27 (⟨hx.2.1.1.live n1, rfl⟩ : At _ (4, a) _) (⟨hx.2.1.1.live n1, rfl⟩ : At _ (4, a) _) dX9_merge_16 (by decide) (fun c0 => (c0 rfl : False).elim) (fun c0 => ?_)
  exact j_throw0 (pc := 19) C (rm := ({ frames := 6, cells := 1, slots := 6, locals := 108 } : Room)) Q NT tp_X9_172 dX9_merge_19 dX9_merge_22 dX9_merge_23 dX9_merge_26 ⟨by decide, by decide, by decide, by decide⟩ ⟨rfl, rfl⟩
set_option maxHeartbeats 4000000 in
set_option maxRecDepth 100000 in
theorem c_X9_split_0 (L9 : Launch) (w9 : Wd) {σ : HS} {S : SP} (hw : WF S) (hc : CI S σ) {a0 : Nat} (ha0 : At σ (9, 0) a0) {a m : Nat} (n1 : a < nL S) (n2 : th S a = 1) (h1 : 1 ≤ m) (h2 : m < 256) (h3 : nL S ≠ 16) : MJ L9 w9 yX9_split cX9_split 4 (some .int) ({ frames := 9, cells := 8, slots := 127, locals := 239 } : Room) [.ref a0, .int (nI a), .int (nI m)] σ (fun a9 σ' => a9 = some (.int (nI (nL S))) ∧ CI (S_spl (makes9 S (fo S a)) a (nL S) m) σ' ∧ Fr tgU σ σ') := by
  refine MJ.of (by decide +kernel) (Nat.le_of_ble_eq_true rfl) (fun X hX1 hX2 C Q hinit => ?_)
  subst hX1; subst hX2
  show J X 0 0 σ [(0, .ref a0), (1, .int (nI a)), (2, .int (nI m))] [] 0
  obtain ⟨hp, he, hx, hf9, hd⟩ := id hc
  obtain ⟨z1, z2, z3, z4⟩ := id hf9
  obtain ⟨ef, e1, e2⟩ := id he
  have gS := hw.1.1
  have gC := hw.1.2.2.2.1
  have gR := hw.2.1.1
  have gL := hw.2.2.1.1
  have gW := hw.2.2.2.1.1
  have gD := hw.2.2.2.2.1
  refine j_aload_n (pc := 0) C dX9_split_0 rfl 0 rfl ?_
  refine j_iload_n (pc := 1) C dX9_split_1 rfl 1 rfl ?_
  refine j_callV (pc := 2) C [.int (nI a)] [] (rm0 := ({ frames := 9, cells := 8, slots := 127, locals := 239 } : Room)) (k' := 0) (n' := 0) Q.1 (c_X9_lexemeNumbered_t (xl X) (xw X) hw hc ha0 n1 n2) mp_X9_lexemeNumbered wm_636 ha0 rfl rfl (by decide) rfl rfl (Nat.le_of_ble_eq_true rfl) dX9_split_2 ⟨by decide, by decide⟩ ⟨Nat.le_of_ble_eq_true rfl, Nat.le_of_ble_eq_true rfl⟩ rfl rfl (det1 ?_)
  refine j_astore_n (pc := 5) C [(3, .ref (hG σ (4, a))), (0, .ref a0), (1, .int (nI a)), (2, .int (nI m))] dX9_split_5 rfl (by decide) rfl ?_
  refine j_iload_n (pc := 6) C dX9_split_6 rfl 3 rfl ?_
  refine j_iconst (pc := 7) C (nI 1) dX9_split_7 (by decide) ?_
  refine jn_icmp_lt (pc := 8) C 18 (a := m) (b := 1) (by omega) (by omega) dX9_split_8 (by decide) (fun c0 => (absurd c0 (by omega) : False).elim) (fun c0 => ?_)
  refine j_iload_n (pc := 11) C dX9_split_11 rfl 3 rfl ?_
  refine j_sipush (pc := 12) C (nI 255) dX9_split_12 (by decide) ?_
  refine jn_icmp_le (pc := 15) C 26 (a := m) (b := 255) (by omega) (by omega) dX9_split_15 (by decide) (fun c0 => ?_) (fun c0 => (absurd c0 (by omega) : False).elim)
  refine j_aload_n (pc := 26) C dX9_split_26 rfl 1 rfl ?_
  refine j_callV (pc := 27) C [] [] (rm0 := ({ frames := 9, cells := 8, slots := 127, locals := 239 } : Room)) (k' := 0) (n' := 0) Q.1 (c_X9_checkLexemesLeft_t (xl X) (xw X) hw hc ha0 h3) mp_X9_checkLexemesLeft wm_589 ha0 rfl rfl (by decide) rfl rfl (Nat.le_of_ble_eq_true rfl) dX9_split_27 ⟨by decide, by decide⟩ ⟨Nat.le_of_ble_eq_true rfl, Nat.le_of_ble_eq_true rfl⟩ rfl rfl (det0 ?_)
  refine j_aload_n (pc := 30) C dX9_split_30 rfl 1 rfl ?_
  refine j_getA (pc := 31) C fp_X9_19 ha0 rfl (f := 577) rfl (5, 0) (hG σ (5, 0)) z3 (⟨hx.1.1, rfl⟩ : At _ (5, 0) _) dX9_split_31 ?_
  refine j_aload_n (pc := 34) C dX9_split_34 rfl 0 rfl ?_
  refine j_iload_n (pc := 35) C dX9_split_35 rfl 3 rfl ?_
  refine j_callV (pc := 36) C [.ref (hG σ (4, a)), .int (nI m)] [] (rm0 := ({ frames := 9, cells := 8, slots := 127, locals := 239 } : Room)) (k' := 8) (n' := 127) Q.1 (c_X4_splitOff (xl X) (xw X) hw hx (⟨hx.1.1, rfl⟩ : At _ (5, 0) _) n1 n2 (by omega) h2 ⟨hx.2.1.1.live n1, rfl⟩) mp_X4_splitOff wm_884 (⟨hx.1.1, rfl⟩ : At _ (5, 0) _) rfl rfl (by decide) rfl rfl (Nat.le_of_ble_eq_true rfl) dX9_split_36 ⟨by decide, by decide⟩ ⟨Nat.le_of_ble_eq_true rfl, Nat.le_of_ble_eq_true rfl⟩ rfl rfl (fun v9 σ1 hp9 => ?_)
  obtain ⟨rfl, hL1, hF1⟩ := hp9
  show J X 8 127 σ1 [(3, .ref (hG σ (4, a))), (0, .ref a0), (1, .int (nI a)), (2, .int (nI m))] [.int (nI (nL S))] 39
  exact j_ireturn (pc := 39) C Q dX9_split_39 (Nat.le_of_ble_eq_true rfl) (Nat.le_of_ble_eq_true rfl) (⟨rfl, hc.lx hw hL1 hF1 (fun t z => z) (EqN.tr (mk_N rfl rfl) (eqn_spl rfl rfl rfl rfl rfl (fun _ => rfl))) (EqR.tr (mk_R rfl) (fun f i j q => sp_R (fun z => by rw [z.1, z.2] at q; cases q) (fun z => by rw [z.1, z.2] at q; cases q)))⟩)
set_option maxHeartbeats 4000000 in
set_option maxRecDepth 100000 in
theorem c_X9_split_1 (L9 : Launch) (w9 : Wd) (hst9 : L9.stackTraces = false) {σ : HS} {S : SP} (hw : WF S) (hc : CI S σ) {a0 : Nat} (ha0 : At σ (9, 0) a0) {x y : Int32} (h : isLex S x = false) : MX L9 w9 yX9_split cX9_split 4 (some .int) ({ frames := 7, cells := 1, slots := 6, locals := 108 } : Room) [.ref a0, .int x, .int y] σ (fun _ _ => False) (fun E σ' => E = "java/lang/IndexOutOfBoundsException" ∧ σ' = σ) := by
  refine MX.of (by decide +kernel) (Nat.le_of_ble_eq_true rfl) hst9 (fun X hX1 hX2 C Q NT => ?_)
  subst hX1; subst hX2
  show J X 0 0 σ [(0, .ref a0), (1, .int x), (2, .int y)] [] 0
  obtain ⟨hp, he, hx, hf9, hd⟩ := id hc
  obtain ⟨z1, z2, z3, z4⟩ := id hf9
  obtain ⟨ef, e1, e2⟩ := id he
  have gS := hw.1.1
  have gC := hw.1.2.2.2.1
  have gR := hw.2.1.1
  have gL := hw.2.2.1.1
  have gW := hw.2.2.2.1.1
  have gD := hw.2.2.2.2.1
  refine j_aload_n (pc := 0) C dX9_split_0 rfl 0 rfl ?_
  refine j_iload_n (pc := 1) C dX9_split_1 rfl 1 rfl ?_
  exact j_callVX (pc := 2) C [.int x] [] (rm0 := ({ frames := 7, cells := 1, slots := 6, locals := 108 } : Room)) (k' := 1) (n' := 6) Q NT (c_X9_lexemeNumbered_x (xl X) (xw X) hst9 hw hc ha0 h) mp_X9_lexemeNumbered wm_636 ha0 rfl rfl (Nat.le_of_ble_eq_true rfl) rfl rfl (Nat.le_of_ble_eq_true rfl) dX9_split_2 ⟨by decide, by decide⟩ ⟨Nat.le_of_ble_eq_true rfl, Nat.le_of_ble_eq_true rfl⟩ rfl rfl (fun _ _ h => h) (fun _ _ h => (h : False).elim)
theorem cut_255 {y : Int32} (h : (inI y 256 && decide (xN y ≠ 0)) = false) : y < nI 1 ∨ nI 255 < y := by
  rw [← in_255] at h
  by_cases e : nI 1 ≤ y
  · rw [decide_eq_true e, Bool.true_and] at h
    exact Or.inr (Int32.not_le.mp (of_decide_eq_false h))
  · exact Or.inl (Int32.not_le.mp e)
set_option maxHeartbeats 4000000 in
set_option maxRecDepth 100000 in
theorem c_X9_split_2 (L9 : Launch) (w9 : Wd) (hst9 : L9.stackTraces = false) {σ : HS} {S : SP} (hw : WF S) (hc : CI S σ) {a0 : Nat} (ha0 : At σ (9, 0) a0) {a : Nat} {y : Int32} (n1 : a < nL S) (n2 : th S a = 1) (h : (inI y 256 && decide (xN y ≠ 0)) = false) : MX L9 w9 yX9_split cX9_split 4 (some .int) ({ frames := 6, cells := 1, slots := 6, locals := 108 } : Room) [.ref a0, .int (nI a), .int y] σ (fun _ _ => False) (fun E σ' => E = "java/lang/IllegalArgumentException" ∧ σ' = σ) := by
  refine MX.of (by decide +kernel) (Nat.le_of_ble_eq_true rfl) hst9 (fun X hX1 hX2 C Q NT => ?_)
  subst hX1; subst hX2
  show J X 0 0 σ [(0, .ref a0), (1, .int (nI a)), (2, .int y)] [] 0
  obtain ⟨hp, he, hx, hf9, hd⟩ := id hc
  obtain ⟨z1, z2, z3, z4⟩ := id hf9
  obtain ⟨ef, e1, e2⟩ := id he
  have gS := hw.1.1
  have gC := hw.1.2.2.2.1
  have gR := hw.2.1.1
  have gL := hw.2.2.1.1
  have gW := hw.2.2.2.1.1
  have gD := hw.2.2.2.2.1
  refine j_aload_n (pc := 0) C dX9_split_0 rfl 0 rfl ?_
  refine j_iload_n (pc := 1) C dX9_split_1 rfl 1 rfl ?_
  refine j_callV (pc := 2) C [.int (nI a)] [] (rm0 := ({ frames := 6, cells := 1, slots := 6, locals := 108 } : Room)) (k' := 0) (n' := 0) Q.1 (c_X9_lexemeNumbered_t (xl X) (xw X) hw hc ha0 n1 n2) mp_X9_lexemeNumbered wm_636 ha0 rfl rfl (by decide) rfl rfl (Nat.le_of_ble_eq_true rfl) dX9_split_2 ⟨by decide, by decide⟩ ⟨Nat.le_of_ble_eq_true rfl, Nat.le_of_ble_eq_true rfl⟩ rfl rfl (det1 ?_)
  refine j_astore_n (pc := 5) C [(3, .ref (hG σ (4, a))), (0, .ref a0), (1, .int (nI a)), (2, .int y)] dX9_split_5 rfl (by decide) rfl ?_
  refine j_iload_n (pc := 6) C dX9_split_6 rfl 3 rfl ?_
  refine j_iconst (pc := 7) C (nI 1) dX9_split_7 (by decide) ?_
  refine j_icmp_lt (pc := 8) C 18 dX9_split_8 (by decide) (fun c1 => ?_) (fun c1 => ?_)
  · exact j_throw0 (pc := 18) C (rm := ({ frames := 6, cells := 1, slots := 6, locals := 108 } : Room)) Q NT tp_X9_172 dX9_split_18 dX9_split_21 dX9_split_22 dX9_split_25 ⟨by decide, by decide, by decide, by decide⟩ ⟨rfl, rfl⟩
  · have h2 := (cut_255 h).resolve_left c1
    refine j_iload_n (pc := 11) C dX9_split_11 rfl 3 rfl ?_
    refine j_sipush (pc := 12) C (nI 255) dX9_split_12 (by decide) ?_
    refine j_icmp_le (pc := 15) C 26 dX9_split_15 (by decide) (fun c0 => (absurd h2 (Int32.not_lt.mpr c0) : False).elim) (fun c0 => ?_)
    exact j_throw0 (pc := 18) C (rm := ({ frames := 6, cells := 1, slots := 6, locals := 108 } : Room)) Q NT tp_X9_172 dX9_split_18 dX9_split_21 dX9_split_22 dX9_split_25 ⟨by decide, by decide, by decide, by decide⟩ ⟨rfl, rfl⟩
set_option maxHeartbeats 4000000 in
set_option maxRecDepth 100000 in
theorem c_X9_split_3 (L9 : Launch) (w9 : Wd) (hst9 : L9.stackTraces = false) {σ : HS} {S : SP} (hw : WF S) (hc : CI S σ) {a0 : Nat} (ha0 : At σ (9, 0) a0) {a m : Nat} (n1 : a < nL S) (n2 : th S a = 1) (h1 : 1 ≤ m) (h2 : m < 256) (h3 : nL S = 16) : MX L9 w9 yX9_split cX9_split 4 (some .int) ({ frames := 7, cells := 1, slots := 6, locals := 108 } : Room) [.ref a0, .int (nI a), .int (nI m)] σ (fun _ _ => False) (fun E σ' => E = "java/lang/IllegalStateException" ∧ σ' = σ) := by
  refine MX.of (by decide +kernel) (Nat.le_of_ble_eq_true rfl) hst9 (fun X hX1 hX2 C Q NT => ?_)
  subst hX1; subst hX2
  show J X 0 0 σ [(0, .ref a0), (1, .int (nI a)), (2, .int (nI m))] [] 0
  obtain ⟨hp, he, hx, hf9, hd⟩ := id hc
  obtain ⟨z1, z2, z3, z4⟩ := id hf9
  obtain ⟨ef, e1, e2⟩ := id he
  have gS := hw.1.1
  have gC := hw.1.2.2.2.1
  have gR := hw.2.1.1
  have gL := hw.2.2.1.1
  have gW := hw.2.2.2.1.1
  have gD := hw.2.2.2.2.1
  refine j_aload_n (pc := 0) C dX9_split_0 rfl 0 rfl ?_
  refine j_iload_n (pc := 1) C dX9_split_1 rfl 1 rfl ?_
  refine j_callV (pc := 2) C [.int (nI a)] [] (rm0 := ({ frames := 7, cells := 1, slots := 6, locals := 108 } : Room)) (k' := 0) (n' := 0) Q.1 (c_X9_lexemeNumbered_t (xl X) (xw X) hw hc ha0 n1 n2) mp_X9_lexemeNumbered wm_636 ha0 rfl rfl (by decide) rfl rfl (Nat.le_of_ble_eq_true rfl) dX9_split_2 ⟨by decide, by decide⟩ ⟨Nat.le_of_ble_eq_true rfl, Nat.le_of_ble_eq_true rfl⟩ rfl rfl (det1 ?_)
  refine j_astore_n (pc := 5) C [(3, .ref (hG σ (4, a))), (0, .ref a0), (1, .int (nI a)), (2, .int (nI m))] dX9_split_5 rfl (by decide) rfl ?_
  refine j_iload_n (pc := 6) C dX9_split_6 rfl 3 rfl ?_
  refine j_iconst (pc := 7) C (nI 1) dX9_split_7 (by decide) ?_
  refine jn_icmp_lt (pc := 8) C 18 (a := m) (b := 1) (by omega) (by omega) dX9_split_8 (by decide) (fun c0 => (absurd c0 (by omega) : False).elim) (fun c0 => ?_)
  refine j_iload_n (pc := 11) C dX9_split_11 rfl 3 rfl ?_
  refine j_sipush (pc := 12) C (nI 255) dX9_split_12 (by decide) ?_
  refine jn_icmp_le (pc := 15) C 26 (a := m) (b := 255) (by omega) (by omega) dX9_split_15 (by decide) (fun c0 => ?_) (fun c0 => (absurd c0 (by omega) : False).elim)
  refine j_aload_n (pc := 26) C dX9_split_26 rfl 1 rfl ?_
  exact j_callVX (pc := 27) C [] [] (rm0 := ({ frames := 7, cells := 1, slots := 6, locals := 108 } : Room)) (k' := 1) (n' := 6) Q NT (c_X9_checkLexemesLeft_x (xl X) (xw X) hst9 hw hc ha0 h3) mp_X9_checkLexemesLeft wm_589 ha0 rfl rfl (Nat.le_of_ble_eq_true rfl) rfl rfl (Nat.le_of_ble_eq_true rfl) dX9_split_27 ⟨by decide, by decide⟩ ⟨Nat.le_of_ble_eq_true rfl, Nat.le_of_ble_eq_true rfl⟩ rfl rfl (fun _ _ h => h) (fun _ _ h => (h : False).elim)
set_option maxHeartbeats 4000000 in
set_option maxRecDepth 100000 in
theorem c_X9_undo_0 (L9 : Launch) (w9 : Wd) {σ : HS} {S : SP} (hw : WF S) (hc : CI S σ) {a0 : Nat} (ha0 : At σ (9, 0) a0) (h : nD S ≠ 0) : MJ L9 w9 yX9_undo cX9_undo 1 (some .int) ({ frames := 4, cells := 0, slots := 0, locals := 91 } : Room) [.ref a0] σ (fun a9 σ' => a9 = some (.int (nI (nD S - 1))) ∧ CI (S_undo S) σ' ∧ Fr tgU σ σ') := by
  refine MJ.of (by decide +kernel) (Nat.le_of_ble_eq_true rfl) (fun X hX1 hX2 C Q hinit => ?_)
  subst hX1; subst hX2
  show J X 0 0 σ [(0, .ref a0)] [] 0
  obtain ⟨hp, he, hx, hf9, hd⟩ := id hc
  obtain ⟨z1, z2, z3, z4⟩ := id hf9
  obtain ⟨ef, e1, e2⟩ := id he
  have gS := hw.1.1
  have gC := hw.1.2.2.2.1
  have gR := hw.2.1.1
  have gL := hw.2.2.1.1
  have gW := hw.2.2.2.1.1
  have gD := hw.2.2.2.2.1
  refine j_aload_n (pc := 0) C dX9_undo_0 rfl 0 rfl ?_
  refine j_getA (pc := 1) C fp_X9_19 ha0 rfl (f := 577) rfl (5, 0) (hG σ (5, 0)) z3 (⟨hx.1.1, rfl⟩ : At _ (5, 0) _) dX9_undo_1 ?_
  refine j_callV (pc := 4) C [] [] (rm0 := ({ frames := 4, cells := 0, slots := 0, locals := 91 } : Room)) (k' := 0) (n' := 0) Q.1 (c_X4_changesLeft (xl X) (xw X) hw hx (⟨hx.1.1, rfl⟩ : At _ (5, 0) _)) mp_X4_changesLeft wm_901 (⟨hx.1.1, rfl⟩ : At _ (5, 0) _) rfl rfl (by decide) rfl rfl (Nat.le_of_ble_eq_true rfl) dX9_undo_4 ⟨by decide, by decide⟩ ⟨Nat.le_of_ble_eq_true rfl, Nat.le_of_ble_eq_true rfl⟩ rfl rfl (det1 ?_)
  refine jn_if_ne (pc := 7) C 18 (a := nD S) (by omega) dX9_undo_7 (by decide) (fun c0 => ?_) (fun c0 => (absurd c0 h : False).elim)
  refine j_aload_n (pc := 18) C dX9_undo_18 rfl 0 rfl ?_
  refine j_getA (pc := 19) C fp_X9_19 ha0 rfl (f := 577) rfl (5, 0) (hG σ (5, 0)) z3 (⟨hx.1.1, rfl⟩ : At _ (5, 0) _) dX9_undo_19 ?_
  refine j_callV (pc := 22) C [] [] (rm0 := ({ frames := 4, cells := 0, slots := 0, locals := 91 } : Room)) (k' := 0) (n' := 0) Q.1 (c_X4_takeBack (xl X) (xw X) hw hx (⟨hx.1.1, rfl⟩ : At _ (5, 0) _) h) mp_X4_takeBack wm_905 (⟨hx.1.1, rfl⟩ : At _ (5, 0) _) rfl rfl (by decide) rfl rfl (Nat.le_of_ble_eq_true rfl) dX9_undo_22 ⟨by decide, by decide⟩ ⟨Nat.le_of_ble_eq_true rfl, Nat.le_of_ble_eq_true rfl⟩ rfl rfl (fun v9 σ1 hp9 => ?_)
  obtain ⟨rfl, hL1, hF1⟩ := hp9
  show J X 0 0 σ1 [(0, .ref a0)] [.int (nI (nD S - 1))] 25
  exact j_ireturn (pc := 25) C Q dX9_undo_25 (Nat.le_of_ble_eq_true rfl) (Nat.le_of_ble_eq_true rfl) (⟨rfl, hc.lx hw hL1 hF1 (fun t z => z) (eqn_undo rfl rfl (fun _ => rfl)) (fun f i j q => un_R (fun z => by rw [z.1, z.2] at q; cases q))⟩)
set_option maxHeartbeats 4000000 in
set_option maxRecDepth 100000 in
theorem c_X9_undo_1 (L9 : Launch) (w9 : Wd) (hst9 : L9.stackTraces = false) {σ : HS} {S : SP} (hw : WF S) (hc : CI S σ) {a0 : Nat} (ha0 : At σ (9, 0) a0) (h : nD S = 0) : MX L9 w9 yX9_undo cX9_undo 1 (some .int) ({ frames := 6, cells := 1, slots := 6, locals := 81 } : Room) [.ref a0] σ (fun _ _ => False) (fun E σ' => E = "java/lang/IllegalStateException" ∧ σ' = σ) := by
  refine MX.of (by decide +kernel) (Nat.le_of_ble_eq_true rfl) hst9 (fun X hX1 hX2 C Q NT => ?_)
  subst hX1; subst hX2
  show J X 0 0 σ [(0, .ref a0)] [] 0
  obtain ⟨hp, he, hx, hf9, hd⟩ := id hc
  obtain ⟨z1, z2, z3, z4⟩ := id hf9
  obtain ⟨ef, e1, e2⟩ := id he
  have gS := hw.1.1
  have gC := hw.1.2.2.2.1
  have gR := hw.2.1.1
  have gL := hw.2.2.1.1
  have gW := hw.2.2.2.1.1
  have gD := hw.2.2.2.2.1
  refine j_aload_n (pc := 0) C dX9_undo_0 rfl 0 rfl ?_
  refine j_getA (pc := 1) C fp_X9_19 ha0 rfl (f := 577) rfl (5, 0) (hG σ (5, 0)) z3 (⟨hx.1.1, rfl⟩ : At _ (5, 0) _) dX9_undo_1 ?_
  refine j_callV (pc := 4) C [] [] (rm0 := ({ frames := 6, cells := 1, slots := 6, locals := 81 } : Room)) (k' := 0) (n' := 0) Q.1 (c_X4_changesLeft (xl X) (xw X) hw hx (⟨hx.1.1, rfl⟩ : At _ (5, 0) _)) mp_X4_changesLeft wm_901 (⟨hx.1.1, rfl⟩ : At _ (5, 0) _) rfl rfl (by decide) rfl rfl (Nat.le_of_ble_eq_true rfl) dX9_undo_4 ⟨by decide, by decide⟩ ⟨Nat.le_of_ble_eq_true rfl, Nat.le_of_ble_eq_true rfl⟩ rfl rfl (det1 ?_)
  refine jn_if_ne (pc := 7) C 18 (a := nD S) (by omega) dX9_undo_7 (by decide) (fun c0 => (absurd h c0 : False).elim) (fun c0 => ?_)
  exact j_throw0 (pc := 10) C (rm := ({ frames := 6, cells := 1, slots := 6, locals := 81 } : Room)) Q NT tp_X9_48 dX9_undo_10 dX9_undo_13 dX9_undo_14 dX9_undo_17 ⟨by decide, by decide, by decide, by decide⟩ ⟨rfl, rfl⟩
