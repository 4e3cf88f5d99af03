set_option maxHeartbeats 4000000 in
set_option maxRecDepth 100000 in
theorem c_X5_addRule (L9 : Launch) (w9 : Wd) {σ : HS} {S : SP} (hw : WF S) (hp : PH9 S σ) {a0 : Nat} (ha0 : At σ (6, 0) a0) {t u l r b b1 b2 : Nat} (hb : At σ (3, t) b) (hb1 : At σ (sideT l) b1) (hb2 : At σ (sideT r) b2) (hn : nR S < 6) : MJ L9 w9 yX5_addRule cX5_addRule 6 (some .int) ({ frames := 7, cells := 3, slots := 103, locals := 191 } : Room) [.ref a0, .ref b, .int (nI u), .ref b1, .ref b2] σ (fun a9 σ' => a9 = some (.int (nI (nR S))) ∧ PH9 (S_rule S t u l r) σ' ∧ Fr tgRl σ σ') := by
  refine MJ.of (by decide +kernel) (Nat.le_of_ble_eq_true rfl) (fun X hX1 hX2 C Q hinit => ?_)
  subst hX1; subst hX2
  show J X 0 0 σ [(0, .ref a0), (1, .ref b), (2, .int (nI u)), (3, .ref b1), (4, .ref b2)] [] 0
  have hpp := hp
  obtain ⟨hf, hq, hr9⟩ := hp
  have hf0 := hf
  obtain ⟨hp0, ⟨f1, f1v, f1n⟩, ⟨f2, f2v, f2n⟩, f3, ⟨f4, f4v, f4m⟩, ⟨f5, f5v, f5m⟩, f6, f7, ⟨f9, f9v, f9n⟩⟩ := hf
  have gS := hw.1.1
  have gC := hw.1.2.2.2.1
  have gR := hw.2.1.1
  have hv7 := hr9.2.2.2.2 (nR S) (Nat.le_refl _) (by omega)
  have g5 := hw.2.1.2.2.2.2
  have g6 : 2 ^ nR S ≤ 2 ^ 6 := Nat.pow_le_pow_right (by decide) gR
  refine j_new (pc := 0) C (k' := 1) (n' := 5) (rm0 := ({ frames := 7, cells := 3, slots := 103, locals := 191 } : Room)) (7, nR S) Q.1 np_X5_80 hv7 dX5_addRule_0 ⟨by decide, by decide⟩ rfl rfl (fun q => ?_)
  show J X 1 5 (sNew σ (7, nR S) q 0) [(0, .ref a0), (1, .ref b), (2, .int (nI u)), (3, .ref b1), (4, .ref b2)] [.ref q] 3
  have hF1 : Fr (fun t => t.1 = 7 ∧ t.2 = nR S) σ (sNew σ (7, nR S) q 0) := Fr.rf.new hv7 ⟨rfl, rfl⟩
  refine j_dup (pc := 3) C dX5_addRule_3 rfl ?_
  refine j_aload_n (pc := 4) C dX5_addRule_4 rfl 0 rfl ?_
  refine j_getA (pc := 5) C fp_X5_39 (hF1.at ha0) rfl (f := 390) rfl (0, 1) (hG (sNew σ (7, nR S) q 0) (0, 1)) ((hF1.rR (f := 390) (i := 0) (j := 0) (by simp)).trans f6) (⟨hF1.live hr9.2.1.self, rfl⟩ : At _ (0, 1) _) dX5_addRule_5 ?_
  refine j_callV (pc := 8) C [] [.ref q, .ref q] (rm0 := ({ frames := 7, cells := 3, slots := 103, locals := 191 } : Room)) (k' := 1) (n' := 5) Q.1 (k_size (xl X) (xw X) (hr9.2.1.fr hF1 (fun t z => by simp only [tgL] at z; omega)) (⟨hF1.live hr9.2.1.self, rfl⟩ : At _ (0, 1) _)) mp_Jx4a65c_size_8abf5 wm_238 (⟨hF1.live hr9.2.1.self, rfl⟩ : At _ (0, 1) _) rfl rfl (by decide) rfl rfl (Nat.le_of_ble_eq_true rfl) dX5_addRule_8 ⟨by decide, by decide⟩ ⟨Nat.le_of_ble_eq_true rfl, Nat.le_of_ble_eq_true rfl⟩ rfl rfl (det1 ?_)
  refine j_aload_n (pc := 11) C dX5_addRule_11 rfl 1 rfl ?_
  refine j_iload_n (pc := 12) C dX5_addRule_12 rfl 2 rfl ?_
  refine j_aload_n (pc := 13) C dX5_addRule_13 rfl 3 rfl ?_
  refine j_aload (pc := 14) C dX5_addRule_14 4 rfl ?_
  refine j_callI (pc := 16) C [.int (nI (nR S)), .ref b, .int (nI u), .ref b1, .ref b2] [.ref q] (rm0 := ({ frames := 7, cells := 3, slots := 103, locals := 191 } : Room)) (k' := 1) (n' := 5) Q.1 (c_X7_init (xl X) (xw X) (r := nR S) At.new (nI (nR S)) (nI u) (hF1.at hb) (hF1.at hb1) (hF1.at hb2)) mp_X7_init wm_676 rfl rfl (Nat.le_of_ble_eq_true rfl) dX5_addRule_16 ⟨by decide, by decide⟩ ⟨Nat.le_of_ble_eq_true rfl, Nat.le_of_ble_eq_true rfl⟩ rfl rfl (det0 ?_)
  have hF2 : Fr (fun t => t.1 = 7 ∧ t.2 = nR S) σ (sR (sR (sI (sR (sI (sNew σ (7, nR S) q 0) 448 (nR S) 0 (nI (nR S))) 449 (nR S) 0 (some (3, t))) 450 (nR S) 0 (nI u)) 451 (nR S) 0 (some (sideT l))) 452 (nR S) 0 (some (sideT r))) := ((((hF1.sI ⟨rfl, rfl⟩).sR ⟨rfl, rfl⟩).sI ⟨rfl, rfl⟩).sR ⟨rfl, rfl⟩).sR ⟨rfl, rfl⟩
  have hA7 : At (sR (sR (sI (sR (sI (sNew σ (7, nR S) q 0) 448 (nR S) 0 (nI (nR S))) 449 (nR S) 0 (some (3, t))) 450 (nR S) 0 (nI u)) 451 (nR S) 0 (some (sideT l))) 452 (nR S) 0 (some (sideT r))) (7, nR S) q := At.new
  have e448 : hI (sR (sR (sI (sR (sI (sNew σ (7, nR S) q 0) 448 (nR S) 0 (nI (nR S))) 449 (nR S) 0 (some (3, t))) 450 (nR S) 0 (nI u)) 451 (nR S) 0 (some (sideT l))) 452 (nR S) 0 (some (sideT r))) 448 (nR S) 0 = nI (nR S) := (show up3 (up3 (hI (sNew σ (7, nR S) q 0)) 448 (nR S) 0 (nI (nR S))) 450 (nR S) 0 (nI u) 448 (nR S) 0 = nI (nR S) from (up3_ne (fun z => absurd z.1 (by decide))).trans up3_eq)
  have e449 : hR (sR (sR (sI (sR (sI (sNew σ (7, nR S) q 0) 448 (nR S) 0 (nI (nR S))) 449 (nR S) 0 (some (3, t))) 450 (nR S) 0 (nI u)) 451 (nR S) 0 (some (sideT l))) 452 (nR S) 0 (some (sideT r))) 449 (nR S) 0 = some (3, t) := (sR_ne (fun z => absurd z.1 (by decide))).trans ((sR_ne (fun z => absurd z.1 (by decide))).trans sR_eq)
  have e450 : hI (sR (sR (sI (sR (sI (sNew σ (7, nR S) q 0) 448 (nR S) 0 (nI (nR S))) 449 (nR S) 0 (some (3, t))) 450 (nR S) 0 (nI u)) 451 (nR S) 0 (some (sideT l))) 452 (nR S) 0 (some (sideT r))) 450 (nR S) 0 = nI u := sI_eq
  have e451 : hR (sR (sR (sI (sR (sI (sNew σ (7, nR S) q 0) 448 (nR S) 0 (nI (nR S))) 449 (nR S) 0 (some (3, t))) 450 (nR S) 0 (nI u)) 451 (nR S) 0 (some (sideT l))) 452 (nR S) 0 (some (sideT r))) 451 (nR S) 0 = some (sideT l) := (sR_ne (fun z => absurd z.1 (by decide))).trans sR_eq
  have e452 : hR (sR (sR (sI (sR (sI (sNew σ (7, nR S) q 0) 448 (nR S) 0 (nI (nR S))) 449 (nR S) 0 (some (3, t))) 450 (nR S) 0 (nI u)) 451 (nR S) 0 (some (sideT l))) 452 (nR S) 0 (some (sideT r))) 452 (nR S) 0 = some (sideT r) := sR_eq
  have hl1 := hr9.2.1.fr hF2 (fun t z => by simp only [tgL] at z; omega)
  have hl2 := hr9.2.2.1.fr hF2 (fun t z => by simp only [tgL] at z; omega)
  generalize sR (sR (sI (sR (sI (sNew σ (7, nR S) q 0) 448 (nR S) 0 (nI (nR S))) 449 (nR S) 0 (some (3, t))) 450 (nR S) 0 (nI u)) 451 (nR S) 0 (some (sideT l))) 452 (nR S) 0 (some (sideT r)) = σ2 at hF2 hA7 e448 e449 e450 e451 e452 hl1 hl2 ⊢
  show J X 1 5 σ2 [(0, .ref a0), (1, .ref b), (2, .int (nI u)), (3, .ref b1), (4, .ref b2)] [.ref q] 19
  refine j_astore (pc := 19) C [(5, .ref q), (0, .ref a0), (1, .ref b), (2, .int (nI u)), (3, .ref b1), (4, .ref b2)] dX5_addRule_19 (by decide) rfl ?_
  refine j_aload_n (pc := 21) C dX5_addRule_21 rfl 1 rfl ?_
  refine j_getA (pc := 22) C fp_X5_39 (hF2.at ha0) rfl (f := 390) rfl (0, 1) (hG σ2 (0, 1)) ((hF2.rR (f := 390) (i := 0) (j := 0) (by simp)).trans f6) (⟨hF2.live hr9.2.1.self, rfl⟩ : At _ (0, 1) _) dX5_addRule_22 ?_
  refine j_aload (pc := 25) C dX5_addRule_25 0 rfl ?_
  refine j_callV (pc := 27) C [.ref q] [] (rm0 := ({ frames := 7, cells := 3, slots := 103, locals := 191 } : Room)) (k' := 2) (n' := 54) Q.1 (k_addS (xl X) (xw X) (g := fun r => (7, r)) hl1 (by omega) hA7 (show (7 : Nat) < 11 by decide) (fun _ _ => rfl) ⟨hl1.self, rfl⟩) mp_Jx4a65c_add_9ea2d wm_492 (⟨hF2.live hr9.2.1.self, rfl⟩ : At _ (0, 1) _) rfl rfl (by decide) rfl rfl (Nat.le_of_ble_eq_true rfl) dX5_addRule_27 ⟨by decide, by decide⟩ ⟨Nat.le_of_ble_eq_true rfl, Nat.le_of_ble_eq_true rfl⟩ rfl rfl (fun v8 σ3 hp8 => ?_)
  obtain ⟨rfl, hL3, hF3⟩ := hp8
  have hF23 : Fr (fun t => (t.1 = 7 ∧ t.2 = nR S) ∨ tgL 1 t) σ σ3 := (hF2.wide (fun t z => Or.inl z)).tr (hF3.wide (fun t z => Or.inr z))
  have hA3 := hF3.at hA7
  have hl23 := hl2.fr hF3 (fun t z => by simp only [tgL] at z ⊢; omega)
  show J X 2 54 σ3 [(5, .ref q), (0, .ref a0), (1, .ref b), (2, .int (nI u)), (3, .ref b1), (4, .ref b2)] [.int (bI true)] 30
  refine j_pop (pc := 30) C dX5_addRule_30 rfl ?_
  refine j_aload_n (pc := 31) C dX5_addRule_31 rfl 1 rfl ?_
  refine j_getA (pc := 32) C fp_X5_42 (hF23.at ha0) rfl (f := 391) rfl (0, 2) (hG σ3 (0, 2)) ((hF23.rR (f := 391) (i := 0) (j := 0) (by simp only [tgL]; omega)).trans f7) (⟨hF23.live hr9.2.2.1.self, rfl⟩ : At _ (0, 2) _) dX5_addRule_32 ?_
  refine j_aload (pc := 35) C dX5_addRule_35 0 rfl ?_
  refine j_callV (pc := 37) C [.ref q] [] (rm0 := ({ frames := 7, cells := 3, slots := 103, locals := 191 } : Room)) (k' := 3) (n' := 103) Q.1 (k_addS (xl X) (xw X) (g := fun p => (7, if p = nR S then nR S else orr S p)) hl23 (by omega) (by show At _ (7, if nR S = nR S then nR S else orr S (nR S)) _; rw [if_pos rfl]; exact hA3) (show (7 : Nat) < 11 by decide) (fun p hp => by show ((7 : Nat), orr S p) = (7, if p = nR S then nR S else orr S p); rw [if_neg (by omega)]) ⟨hl23.self, rfl⟩) mp_Jx4a65c_add_9ea2d wm_492 (⟨hF23.live hr9.2.2.1.self, rfl⟩ : At _ (0, 2) _) rfl rfl (by decide) rfl rfl (Nat.le_of_ble_eq_true rfl) dX5_addRule_37 ⟨by decide, by decide⟩ ⟨Nat.le_of_ble_eq_true rfl, Nat.le_of_ble_eq_true rfl⟩ rfl rfl (fun v8 σ4 hp8 => ?_)
  obtain ⟨rfl, hL4, hF4⟩ := hp8
  have hF24 : Fr tgRl σ σ4 := (hF23.wide (fun t z => by simp only [tgRl, tgR, tgL] at z ⊢; omega)).tr (hF4.wide (fun t z => by simp only [tgRl, tgR, tgL] at z ⊢; omega))
  have hF2t : Fr (fun t => tgL 1 t ∨ tgL 2 t) σ2 σ4 := (hF3.wide (fun t z => Or.inl z)).tr (hF4.wide (fun t z => Or.inr z))
  have hF25 : Fr (fun t => (t.1 = 7 ∧ t.2 = nR S) ∨ tgL 1 t ∨ tgL 2 t) σ σ4 := (hF2.wide (fun t z => Or.inl z)).tr (hF2t.wide (fun t z => Or.inr z))
  have hA4 := hF4.at hA3
  have hL34 := hL3.fr hF4 (fun t z => by simp only [tgL] at z ⊢; omega)
  have d448 := (hF2t.rI (f := 448) (i := nR S) (j := 0) (by simp only [tgL]; omega)).trans e448
  have d449 := (hF2t.rR (f := 449) (i := nR S) (j := 0) (by simp only [tgL]; omega)).trans e449
  have d450 := (hF2t.rI (f := 450) (i := nR S) (j := 0) (by simp only [tgL]; omega)).trans e450
  have d451 := (hF2t.rR (f := 451) (i := nR S) (j := 0) (by simp only [tgL]; omega)).trans e451
  have d452 := (hF2t.rR (f := 452) (i := nR S) (j := 0) (by simp only [tgL]; omega)).trans e452
  show J X 3 103 σ4 [(5, .ref q), (0, .ref a0), (1, .ref b), (2, .int (nI u)), (3, .ref b1), (4, .ref b2)] [.int (bI true)] 40
  refine j_pop (pc := 40) C dX5_addRule_40 rfl ?_
  refine j_aload_n (pc := 41) C dX5_addRule_41 rfl 1 rfl ?_
  refine j_dup (pc := 42) C dX5_addRule_42 rfl ?_
  refine j_getI (pc := 43) C fp_X5_57 (hF25.at ha0) rfl (f := 392) rfl dX5_addRule_43 ?_
  refine j_topi (nI (on9 S)) ((hF25.rI (f := 392) (i := 0) (j := 0) (by simp only [tgL]; omega)).trans hr9.1) ?_
  refine j_aload (pc := 46) C dX5_addRule_46 0 rfl ?_
  refine j_callV (pc := 48) C [] [.int (nI (on9 S)), .ref a0] (rm0 := ({ frames := 7, cells := 3, slots := 103, locals := 191 } : Room)) (k' := 3) (n' := 103) Q.1 (c_X7_bit (xl X) (xw X) hA4 d448 (by omega)) mp_X7_bit wm_296 hA4 rfl rfl (Nat.le_of_ble_eq_true rfl) rfl rfl (Nat.le_of_ble_eq_true rfl) dX5_addRule_48 ⟨by decide, by decide⟩ ⟨Nat.le_of_ble_eq_true rfl, Nat.le_of_ble_eq_true rfl⟩ rfl rfl (det1 ?_)
  refine j_ior (pc := 51) C dX5_addRule_51 ?_
  refine j_topi (nI ((on9 S) ||| (2 ^ nR S))) (nx_or (on9 S) (2 ^ nR S)) ?_
  refine j_putI (pc := 52) C fp_X5_57 (hF25.at ha0) rfl rfl (Or.inl rfl) rfl (by decide) (f := 392) rfl dX5_addRule_52 ?_
  refine j_aload (pc := 55) C dX5_addRule_55 0 rfl ?_
  have k6 : Fr (fun t => t.1 = 6 ∧ t.2 = 0) σ4 (sI σ4 392 0 0 (nI ((on9 S) ||| (2 ^ nR S)))) := Fr.rf.sI ⟨rfl, rfl⟩
  have d8 : hI (sI σ4 392 0 0 (nI ((on9 S) ||| (2 ^ nR S)))) 448 (nR S) 0 = nI (nR S) := (k6.rI (f := 448) (by simp)).trans d448
  refine j_getI (pc := 57) C fp_X5_88 hA4 rfl (f := 448) rfl dX5_addRule_57 ?_
  refine j_topi (nI (nR S)) d8 ?_
  exact j_ireturn (pc := 60) C Q dX5_addRule_60 (Nat.le_of_ble_eq_true rfl) (Nat.le_of_ble_eq_true rfl) (⟨rfl, ph_rule hw hpp (hF24.sI (Or.inl ⟨rfl, rfl⟩)) (fun f hf => hF25.rR (by simp only [tgL]; omega)) ((sI_ne (fun z => absurd z.1 (by decide))).trans (hF25.rI (f := 386) (by simp only [tgL]; omega))) sI_eq (LS9.fr (f := fun r => (7, r)) hL34 k6 (fun t z => by simp only [tgL] at z; omega)) (LS9.fr (f := fun p => (7, if p = nR S then nR S else orr S p)) hL4 k6 (fun t z => by simp only [tgL] at z; omega)) (fun q' hq' => ((hr9.2.2.2.1 q' hq').fr hF25 (by simp only [tgL]; omega)).fr k6 (by simp)) ⟨d8, (k6.rR (f := 449) (by simp)).trans d449, (k6.rI (f := 450) (by simp)).trans d450, (k6.rR (f := 451) (by simp)).trans d451, (k6.rR (f := 452) (by simp)).trans d452⟩ (fun q' h1 h2 => (hF25.rV (t := (7, q')) (by simp only [tgL]; omega)).trans (hr9.2.2.2.2 q' (by omega) h2)), hF24.sI (Or.inl ⟨rfl, rfl⟩)⟩)
set_option maxHeartbeats 4000000 in
set_option maxRecDepth 100000 in
theorem c_X5_setOn (L9 : Launch) (w9 : Wd) {σ : HS} {S : SP} (hw : WF S) (hp : PH9 S σ) {a0 : Nat} (ha0 : At σ (6, 0) a0) {r b : Nat} (hr : r < nR S) (hb : At σ (7, r) b) (d : Bool) : MJ L9 w9 yX5_setOn cX5_setOn 4 (some .boolean) ({ frames := 2, cells := 0, slots := 0, locals := 41 } : Room) [.ref a0, .ref b, .int (bI d)] σ (fun a9 σ' => a9 = some (.int (bI (decide ((on9 S).testBit r ≠ d)))) ∧ PH9 (zN S 658 0 0 (setOn (on9 S) r d)) σ' ∧ Fr (fun t => t.1 = 6 ∧ t.2 = 0) σ σ') := by
  refine MJ.of (by decide +kernel) (Nat.le_of_ble_eq_true rfl) (fun X hX1 hX2 C Q hinit => ?_)
  subst hX1; subst hX2
  show J X 0 0 σ [(0, .ref a0), (1, .ref b), (2, .int (bI d))] [] 0
  have hpp := hp
  obtain ⟨hf, hq, hr9⟩ := hp
  have hf0 := hf
  obtain ⟨hp0, ⟨f1, f1v, f1n⟩, ⟨f2, f2v, f2n⟩, f3, ⟨f4, f4v, f4m⟩, ⟨f5, f5v, f5m⟩, f6, f7, ⟨f9, f9v, f9n⟩⟩ := hf
  have gS := hw.1.1
  have gC := hw.1.2.2.2.1
  have gR := hw.2.1.1
  obtain ⟨d1, d2, d3, d4, d5⟩ := hr9.2.2.2.1 r hr
  have g5 := hw.2.1.2.2.2.2
  have g6 : 2 ^ nR S ≤ 2 ^ 6 := Nat.pow_le_pow_right (by decide) gR
  refine j_aload_n (pc := 0) C dX5_setOn_0 rfl 1 rfl ?_
  refine j_aload_n (pc := 1) C dX5_setOn_1 rfl 0 rfl ?_
  refine j_getI (pc := 2) C fp_X5_57 ha0 rfl (f := 392) rfl dX5_setOn_2 ?_
  refine j_topi (nI (on9 S)) hr9.1 ?_
  refine j_callV (pc := 5) C [.int (nI (on9 S))] [] (rm0 := ({ frames := 2, cells := 0, slots := 0, locals := 41 } : Room)) (k' := 0) (n' := 0) Q.1 (c_X7_isIn (xl X) (xw X) hb d1 (by omega) (by omega)) mp_X7_isIn wm_717 hb rfl rfl (Nat.le_of_ble_eq_true rfl) rfl rfl (Nat.le_of_ble_eq_true rfl) dX5_setOn_5 ⟨by decide, by decide⟩ ⟨Nat.le_of_ble_eq_true rfl, Nat.le_of_ble_eq_true rfl⟩ rfl rfl (det1 ?_)
  refine j_iload_n (pc := 8) C dX5_setOn_8 rfl 2 rfl ?_
  have hbb : (bI ((on9 S).testBit r) = bI d) ↔ ((on9 S).testBit r = d) := by cases (on9 S).testBit r <;> cases d <;> decide
  refine j_icmp_eq (pc := 9) C 16 dX5_setOn_9 (by decide) (fun c1 => ?_) (fun c1 => ?_)
  · refine j_iconst (pc := 16) C (nI 0) dX5_setOn_16 (by decide) ?_
    refine j_topi (bI (decide ((on9 S).testBit r ≠ d))) (by rw [decide_eq_false (fun z => z (hbb.mp c1))]; rfl) ?_
    refine j_istore_n (pc := 17) C [(3, .int (bI (decide ((on9 S).testBit r ≠ d)))), (0, .ref a0), (1, .ref b), (2, .int (bI d))] dX5_setOn_17 rfl (by decide) rfl ?_
    refine j_aload_n (pc := 18) C dX5_setOn_18 rfl 1 rfl ?_
    refine j_iload_n (pc := 19) C dX5_setOn_19 rfl 3 rfl ?_
    cases d with
    | true =>
      show J X 0 0 σ [(3, .int (bI (decide ((on9 S).testBit r ≠ true)))), (0, .ref a0), (1, .ref b), (2, .int (bI true))] [.int (bI true), .ref a0] 20
      refine j_if_eq (pc := 20) C 35 dX5_setOn_20 (by decide) (fun q => absurd q (by decide)) (fun _ => ?_)
      refine j_aload_n (pc := 23) C dX5_setOn_23 rfl 1 rfl ?_
      refine j_getI (pc := 24) C fp_X5_57 ha0 rfl (f := 392) rfl dX5_setOn_24 ?_
      refine j_topi (nI (on9 S)) hr9.1 ?_
      refine j_aload_n (pc := 27) C dX5_setOn_27 rfl 2 rfl ?_
      refine j_callV (pc := 28) C [] [.int (nI (on9 S)), .ref a0] (rm0 := ({ frames := 2, cells := 0, slots := 0, locals := 41 } : Room)) (k' := 0) (n' := 0) Q.1 (c_X7_bit (xl X) (xw X) hb d1 (by omega)) mp_X7_bit wm_296 hb rfl rfl (Nat.le_of_ble_eq_true rfl) rfl rfl (Nat.le_of_ble_eq_true rfl) dX5_setOn_28 ⟨by decide, by decide⟩ ⟨Nat.le_of_ble_eq_true rfl, Nat.le_of_ble_eq_true rfl⟩ rfl rfl (det1 ?_)
      refine j_ior (pc := 31) C dX5_setOn_31 ?_
      refine j_topi (nI ((on9 S) ||| (2 ^ r))) (nx_or (on9 S) (2 ^ r)) ?_
      refine j_goto (pc := 32) C 46 dX5_setOn_32 (by decide) ?_
      refine j_topi (nI (setOn (on9 S) r true)) rfl ?_
      refine j_putI (pc := 46) C fp_X5_57 ha0 rfl rfl (Or.inl rfl) rfl (by decide) (f := 392) rfl dX5_setOn_46 ?_
      refine j_iload_n (pc := 49) C dX5_setOn_49 rfl 0 rfl ?_
      exact j_zreturn (pc := 50) C Q dX5_setOn_50 (bI_nar _) (Nat.le_of_ble_eq_true rfl) (Nat.le_of_ble_eq_true rfl) (⟨rfl, ph_on hpp, Fr.rf.sI ⟨rfl, rfl⟩⟩)
    | false =>
      show J X 0 0 σ [(3, .int (bI (decide ((on9 S).testBit r ≠ false)))), (0, .ref a0), (1, .ref b), (2, .int (bI false))] [.int (bI false), .ref a0] 20
      refine j_if_eq (pc := 20) C 35 dX5_setOn_20 (by decide) (fun _ => ?_) (fun q => absurd q (by decide))
      refine j_aload_n (pc := 35) C dX5_setOn_35 rfl 1 rfl ?_
      refine j_getI (pc := 36) C fp_X5_57 ha0 rfl (f := 392) rfl dX5_setOn_36 ?_
      refine j_topi (nI (on9 S)) hr9.1 ?_
      refine j_aload_n (pc := 39) C dX5_setOn_39 rfl 2 rfl ?_
      refine j_callV (pc := 40) C [] [.int (nI (on9 S)), .ref a0] (rm0 := ({ frames := 2, cells := 0, slots := 0, locals := 41 } : Room)) (k' := 0) (n' := 0) Q.1 (c_X7_bit (xl X) (xw X) hb d1 (by omega)) mp_X7_bit wm_296 hb rfl rfl (Nat.le_of_ble_eq_true rfl) rfl rfl (Nat.le_of_ble_eq_true rfl) dX5_setOn_40 ⟨by decide, by decide⟩ ⟨Nat.le_of_ble_eq_true rfl, Nat.le_of_ble_eq_true rfl⟩ rfl rfl (det1 ?_)
      refine j_iconst (pc := 43) C (-1) dX5_setOn_43 (by decide) ?_
      refine j_ixor (pc := 44) C dX5_setOn_44 ?_
      refine j_iand (pc := 45) C dX5_setOn_45 ?_
      refine j_topi (nI (setOn (on9 S) r false)) (setOn_off (by omega)) ?_
      refine j_putI (pc := 46) C fp_X5_57 ha0 rfl rfl (Or.inl rfl) rfl (by decide) (f := 392) rfl dX5_setOn_46 ?_
      refine j_iload_n (pc := 49) C dX5_setOn_49 rfl 0 rfl ?_
      exact j_zreturn (pc := 50) C Q dX5_setOn_50 (bI_nar _) (Nat.le_of_ble_eq_true rfl) (Nat.le_of_ble_eq_true rfl) (⟨rfl, ph_on hpp, Fr.rf.sI ⟨rfl, rfl⟩⟩)
  · refine j_iconst (pc := 12) C (nI 1) dX5_setOn_12 (by decide) ?_
    refine j_goto (pc := 13) C 17 dX5_setOn_13 (by decide) ?_
    refine j_topi (bI (decide ((on9 S).testBit r ≠ d))) (by rw [decide_eq_true (show (on9 S).testBit r ≠ d from fun z => c1 (hbb.mpr z))]; rfl) ?_
    refine j_istore_n (pc := 17) C [(3, .int (bI (decide ((on9 S).testBit r ≠ d)))), (0, .ref a0), (1, .ref b), (2, .int (bI d))] dX5_setOn_17 rfl (by decide) rfl ?_
    refine j_aload_n (pc := 18) C dX5_setOn_18 rfl 1 rfl ?_
    refine j_iload_n (pc := 19) C dX5_setOn_19 rfl 3 rfl ?_
    cases d with
    | true =>
      show J X 0 0 σ [(3, .int (bI (decide ((on9 S).testBit r ≠ true)))), (0, .ref a0), (1, .ref b), (2, .int (bI true))] [.int (bI true), .ref a0] 20
      refine j_if_eq (pc := 20) C 35 dX5_setOn_20 (by decide) (fun q => absurd q (by decide)) (fun _ => ?_)
      refine j_aload_n (pc := 23) C dX5_setOn_23 rfl 1 rfl ?_
      refine j_getI (pc := 24) C fp_X5_57 ha0 rfl (f := 392) rfl dX5_setOn_24 ?_
      refine j_topi (nI (on9 S)) hr9.1 ?_
      refine j_aload_n (pc := 27) C dX5_setOn_27 rfl 2 rfl ?_
      refine j_callV (pc := 28) C [] [.int (nI (on9 S)), .ref a0] (rm0 := ({ frames := 2, cells := 0, slots := 0, locals := 41 } : Room)) (k' := 0) (n' := 0) Q.1 (c_X7_bit (xl X) (xw X) hb d1 (by omega)) mp_X7_bit wm_296 hb rfl rfl (Nat.le_of_ble_eq_true rfl) rfl rfl (Nat.le_of_ble_eq_true rfl) dX5_setOn_28 ⟨by decide, by decide⟩ ⟨Nat.le_of_ble_eq_true rfl, Nat.le_of_ble_eq_true rfl⟩ rfl rfl (det1 ?_)
      refine j_ior (pc := 31) C dX5_setOn_31 ?_
      refine j_topi (nI ((on9 S) ||| (2 ^ r))) (nx_or (on9 S) (2 ^ r)) ?_
      refine j_goto (pc := 32) C 46 dX5_setOn_32 (by decide) ?_
      refine j_topi (nI (setOn (on9 S) r true)) rfl ?_
      refine j_putI (pc := 46) C fp_X5_57 ha0 rfl rfl (Or.inl rfl) rfl (by decide) (f := 392) rfl dX5_setOn_46 ?_
      refine j_iload_n (pc := 49) C dX5_setOn_49 rfl 0 rfl ?_
      exact j_zreturn (pc := 50) C Q dX5_setOn_50 (bI_nar _) (Nat.le_of_ble_eq_true rfl) (Nat.le_of_ble_eq_true rfl) (⟨rfl, ph_on hpp, Fr.rf.sI ⟨rfl, rfl⟩⟩)
    | false =>
      show J X 0 0 σ [(3, .int (bI (decide ((on9 S).testBit r ≠ false)))), (0, .ref a0), (1, .ref b), (2, .int (bI false))] [.int (bI false), .ref a0] 20
      refine j_if_eq (pc := 20) C 35 dX5_setOn_20 (by decide) (fun _ => ?_) (fun q => absurd q (by decide))
      refine j_aload_n (pc := 35) C dX5_setOn_35 rfl 1 rfl ?_
      refine j_getI (pc := 36) C fp_X5_57 ha0 rfl (f := 392) rfl dX5_setOn_36 ?_
      refine j_topi (nI (on9 S)) hr9.1 ?_
      refine j_aload_n (pc := 39) C dX5_setOn_39 rfl 2 rfl ?_
      refine j_callV (pc := 40) C [] [.int (nI (on9 S)), .ref a0] (rm0 := ({ frames := 2, cells := 0, slots := 0, locals := 41 } : Room)) (k' := 0) (n' := 0) Q.1 (c_X7_bit (xl X) (xw X) hb d1 (by omega)) mp_X7_bit wm_296 hb rfl rfl (Nat.le_of_ble_eq_true rfl) rfl rfl (Nat.le_of_ble_eq_true rfl) dX5_setOn_40 ⟨by decide, by decide⟩ ⟨Nat.le_of_ble_eq_true rfl, Nat.le_of_ble_eq_true rfl⟩ rfl rfl (det1 ?_)
      refine j_iconst (pc := 43) C (-1) dX5_setOn_43 (by decide) ?_
      refine j_ixor (pc := 44) C dX5_setOn_44 ?_
      refine j_iand (pc := 45) C dX5_setOn_45 ?_
      refine j_topi (nI (setOn (on9 S) r false)) (setOn_off (by omega)) ?_
      refine j_putI (pc := 46) C fp_X5_57 ha0 rfl rfl (Or.inl rfl) rfl (by decide) (f := 392) rfl dX5_setOn_46 ?_
      refine j_iload_n (pc := 49) C dX5_setOn_49 rfl 0 rfl ?_
      exact j_zreturn (pc := 50) C Q dX5_setOn_50 (bI_nar _) (Nat.le_of_ble_eq_true rfl) (Nat.le_of_ble_eq_true rfl) (⟨rfl, ph_on hpp, Fr.rf.sI ⟨rfl, rfl⟩⟩)
set_option maxHeartbeats 4000000 in
set_option maxRecDepth 100000 in
theorem c_X5_moveAhead (L9 : Launch) (w9 : Wd) {σ : HS} {S : SP} (hw : WF S) (hp : PH9 S σ) {a0 : Nat} (ha0 : At σ (6, 0) a0) {r b : Nat} (hr : r < nR S) (hb : At σ (7, r) b) : MJ L9 w9 yX5_moveAhead cX5_moveAhead 3 (some .int) ({ frames := 3, cells := 0, slots := 0, locals := 66 } : Room) [.ref a0, .ref b] σ (fun a9 σ' => a9 = some (.int (nI (pos9 S r - 1))) ∧ PH9 (S_raise S r) σ' ∧ Fr (tgL 2) σ σ') := by
  refine MJ.of (by decide +kernel) (Nat.le_of_ble_eq_true rfl) (fun X hX1 hX2 C Q hinit => ?_)
  subst hX1; subst hX2
  show J X 0 0 σ [(0, .ref a0), (1, .ref b)] [] 0
  have hpp := hp
  obtain ⟨hf, hq, hr9⟩ := hp
  have hf0 := hf
  obtain ⟨hp0, ⟨f1, f1v, f1n⟩, ⟨f2, f2v, f2n⟩, f3, ⟨f4, f4v, f4m⟩, ⟨f5, f5v, f5m⟩, f6, f7, ⟨f9, f9v, f9n⟩⟩ := hf
  have gS := hw.1.1
  have gC := hw.1.2.2.2.1
  have gR := hw.2.1.1
  obtain ⟨p1, p2, p3⟩ := pos_spec hw hr
  refine j_iconst (pc := 0) C (nI 1) dX5_moveAhead_0 (by decide) ?_
  refine j_istore_n (pc := 1) C [(2, .int (nI 1)), (0, .ref a0), (1, .ref b)] dX5_moveAhead_1 rfl (by decide) rfl ?_
  have loop : ∀ (f : Nat) (p : Nat), (1 ≤ p) → (p ≤ nR S) → (nR S < p + f) → (pos9 S r = 0 ∨ p ≤ pos9 S r) → J X 0 0 σ [(2, .int (nI p)), (0, .ref a0), (1, .ref b)] [] 2 := by
    intro f
    induction f with
    | zero => intro p h0 h1 h2 h3; exact absurd h2 (by omega)
    | succ f ih =>
      intro p h0 h1 h2 h3
      refine j_iload_n (pc := 2) C dX5_moveAhead_2 rfl 0 rfl ?_
      refine j_aload_n (pc := 3) C dX5_moveAhead_3 rfl 1 rfl ?_
      refine j_getA (pc := 4) C fp_X5_42 ha0 rfl (f := 391) rfl (0, 2) (hG σ (0, 2)) f7 (⟨hr9.2.2.1.self, rfl⟩ : At _ (0, 2) _) dX5_moveAhead_4 ?_
      refine j_callV (pc := 7) C [] [.int (nI p)] (rm0 := ({ frames := 3, cells := 0, slots := 0, locals := 66 } : Room)) (k' := 0) (n' := 0) Q.1 (k_size (xl X) (xw X) hr9.2.2.1 (⟨hr9.2.2.1.self, rfl⟩ : At _ (0, 2) _)) mp_Jx4a65c_size_8abf5 wm_238 (⟨hr9.2.2.1.self, rfl⟩ : At _ (0, 2) _) rfl rfl (by decide) rfl rfl (Nat.le_of_ble_eq_true rfl) dX5_moveAhead_7 ⟨by decide, by decide⟩ ⟨Nat.le_of_ble_eq_true rfl, Nat.le_of_ble_eq_true rfl⟩ rfl rfl (det1 ?_)
      refine jn_icmp_ge (pc := 10) C 69 (a := p) (b := nR S) (by omega) (by omega) dX5_moveAhead_10 (by decide) (fun c1 => ?_) (fun c1 => ?_)
      · have e0 : pos9 S r = 0 := by omega
        refine j_iconst (pc := 69) C (nI 0) dX5_moveAhead_69 (by decide) ?_
        refine j_topi (nI (pos9 S r - 1)) (congrArg nI (by omega)) ?_
        exact j_ireturn (pc := 70) C Q dX5_moveAhead_70 (Nat.le_of_ble_eq_true rfl) (Nat.le_of_ble_eq_true rfl) (⟨rfl, by unfold S_raise; rw [if_pos e0]; exact hpp, Fr.rf⟩)
      · have ho := hw.2.1.2.2.1 p c1
        refine j_aload_n (pc := 13) C dX5_moveAhead_13 rfl 1 rfl ?_
        refine j_getA (pc := 14) C fp_X5_42 ha0 rfl (f := 391) rfl (0, 2) (hG σ (0, 2)) f7 (⟨hr9.2.2.1.self, rfl⟩ : At _ (0, 2) _) dX5_moveAhead_14 ?_
        refine j_iload_n (pc := 17) C dX5_moveAhead_17 rfl 0 rfl ?_
        refine j_callV (pc := 18) C [.int (nI p)] [] (rm0 := ({ frames := 3, cells := 0, slots := 0, locals := 66 } : Room)) (k' := 0) (n' := 0) Q.1 (k_get (xl X) (xw X) hr9.2.2.1 c1 (⟨hr9.2.2.1.self, rfl⟩ : At _ (0, 2) _)) mp_Jx4a65c_get_915e3 wm_294 (⟨hr9.2.2.1.self, rfl⟩ : At _ (0, 2) _) rfl rfl (by decide) rfl rfl (Nat.le_of_ble_eq_true rfl) dX5_moveAhead_18 ⟨by decide, by decide⟩ ⟨Nat.le_of_ble_eq_true rfl, Nat.le_of_ble_eq_true rfl⟩ rfl rfl (det1 ?_)
        refine j_aload_n (pc := 21) C dX5_moveAhead_21 rfl 2 rfl ?_
        refine jt_acmp_ne (pc := 22) C 63 (⟨hr9.2.2.1.live c1, rfl⟩ : At _ (7, orr S p) _) hb dX5_moveAhead_22 (by decide) (fun c2 => ?_) (fun c2 => ?_)
        · refine j_iinc (pc := 63) C (nI (p + 1)) [(2, .int (nI (p + 1))), (0, .ref a0), (1, .ref b)] dX5_moveAhead_63 0 rfl (nI_add p 1) (by decide) rfl ?_
          refine j_goto (pc := 66) C 2 dX5_moveAhead_66 (by decide) ?_
          exact J.to [0, 1, 2] rfl (ih (p + 1) (by omega) (by omega) (by omega) (by
            rcases h3 with q | q
            · exact Or.inl q
            · rcases Nat.lt_or_ge p (pos9 S r) with q2 | q2
              · exact Or.inr q2
              · exact absurd (by rw [Nat.le_antisymm q q2, p2]) c2))
        · have he : orr S p = r := congrArg Prod.snd c2
          have hpp2 : p = pos9 S r := by
            rcases Nat.lt_or_ge p (pos9 S r) with q | q
            · exact absurd he (p3 p q)
            · rcases Nat.lt_or_ge (pos9 S r) p with q2 | q2
              · exact absurd (hw.2.1.2.2.2.1 p (pos9 S r) c1 p1 (he.trans p2.symm)) (by omega)
              · exact Nat.le_antisymm q2 q
          refine j_aload_n (pc := 25) C dX5_moveAhead_25 rfl 1 rfl ?_
          refine j_getA (pc := 26) C fp_X5_42 ha0 rfl (f := 391) rfl (0, 2) (hG σ (0, 2)) f7 (⟨hr9.2.2.1.self, rfl⟩ : At _ (0, 2) _) dX5_moveAhead_26 ?_
          refine j_iload_n (pc := 29) C dX5_moveAhead_29 rfl 0 rfl ?_
          refine j_aload_n (pc := 30) C dX5_moveAhead_30 rfl 1 rfl ?_
          refine j_getA (pc := 31) C fp_X5_42 ha0 rfl (f := 391) rfl (0, 2) (hG σ (0, 2)) f7 (⟨hr9.2.2.1.self, rfl⟩ : At _ (0, 2) _) dX5_moveAhead_31 ?_
          refine j_iload_n (pc := 34) C dX5_moveAhead_34 rfl 0 rfl ?_
          refine j_iconst (pc := 35) C (nI 1) dX5_moveAhead_35 (by decide) ?_
          refine j_isub (pc := 36) C dX5_moveAhead_36 ?_
          refine j_topi (nI (p - 1)) (pk_sub (a := p) (b := 1) h0) ?_
          refine j_callV (pc := 37) C [.int (nI (p - 1))] [.int (nI p), .ref (hG σ (0, 2))] (rm0 := ({ frames := 3, cells := 0, slots := 0, locals := 66 } : Room)) (k' := 0) (n' := 0) Q.1 (k_get (xl X) (xw X) hr9.2.2.1 (p := p - 1) (by omega) (⟨hr9.2.2.1.self, rfl⟩ : At _ (0, 2) _)) mp_Jx4a65c_get_915e3 wm_294 (⟨hr9.2.2.1.self, rfl⟩ : At _ (0, 2) _) rfl rfl (by decide) rfl rfl (Nat.le_of_ble_eq_true rfl) dX5_moveAhead_37 ⟨by decide, by decide⟩ ⟨Nat.le_of_ble_eq_true rfl, Nat.le_of_ble_eq_true rfl⟩ rfl rfl (det1 ?_)
          refine j_cast (pc := 40) C cp_X5_80 (⟨hr9.2.2.1.live (by omega), rfl⟩ : At _ (7, orr S (p - 1)) _) dX5_moveAhead_40 ?_
          refine j_callV (pc := 43) C [.int (nI p), .ref (hG σ (7, orr S (p - 1)))] [] (rm0 := ({ frames := 3, cells := 0, slots := 0, locals := 66 } : Room)) (k' := 0) (n' := 0) Q.1 (k_setS (xl X) (xw X) hr9.2.2.1 c1 (y := (7, orr S (p - 1))) ⟨hr9.2.2.1.live (p := p - 1) (by omega), rfl⟩ (show (7 : Nat) < 11 by decide) ⟨hr9.2.2.1.self, rfl⟩) mp_Jx4a65c_set_bcc79 wm_733 (⟨hr9.2.2.1.self, rfl⟩ : At _ (0, 2) _) rfl rfl (by decide) rfl rfl (Nat.le_of_ble_eq_true rfl) dX5_moveAhead_43 ⟨by decide, by decide⟩ ⟨Nat.le_of_ble_eq_true rfl, Nat.le_of_ble_eq_true rfl⟩ rfl rfl (fun v8 σ1 hp8 => ?_)
          obtain ⟨⟨q9, rfl⟩, hL1, hF1⟩ := hp8
          show J X 0 0 σ1 [(2, .int (nI p)), (0, .ref a0), (1, .ref b)] [.ref q9] 46
          refine j_pop (pc := 46) C dX5_moveAhead_46 rfl ?_
          refine j_aload_n (pc := 47) C dX5_moveAhead_47 rfl 1 rfl ?_
          refine j_getA (pc := 48) C fp_X5_42 (hF1.at ha0) rfl (f := 391) rfl (0, 2) (hG σ1 (0, 2)) ((hF1.rR (f := 391) (i := 0) (j := 0) (by simp only [tgL]; omega)).trans f7) (⟨hF1.live hr9.2.2.1.self, rfl⟩ : At _ (0, 2) _) dX5_moveAhead_48 ?_
          refine j_iload_n (pc := 51) C dX5_moveAhead_51 rfl 0 rfl ?_
          refine j_iconst (pc := 52) C (nI 1) dX5_moveAhead_52 (by decide) ?_
          refine j_isub (pc := 53) C dX5_moveAhead_53 ?_
          refine j_topi (nI (p - 1)) (pk_sub (a := p) (b := 1) h0) ?_
          refine j_aload_n (pc := 54) C dX5_moveAhead_54 rfl 2 rfl ?_
          refine j_callV (pc := 55) C [.int (nI (p - 1)), .ref b] [] (rm0 := ({ frames := 3, cells := 0, slots := 0, locals := 66 } : Room)) (k' := 0) (n' := 0) Q.1 (k_setS (xl X) (xw X) hL1 (i := p - 1) (by omega) (hF1.at hb) (show (7 : Nat) < 11 by decide) ⟨hL1.self, rfl⟩) mp_Jx4a65c_set_bcc79 wm_733 (⟨hF1.live hr9.2.2.1.self, rfl⟩ : At _ (0, 2) _) rfl rfl (by decide) rfl rfl (Nat.le_of_ble_eq_true rfl) dX5_moveAhead_55 ⟨by decide, by decide⟩ ⟨Nat.le_of_ble_eq_true rfl, Nat.le_of_ble_eq_true rfl⟩ rfl rfl (fun v8 σ2 hp8 => ?_)
          obtain ⟨⟨q8, rfl⟩, hL2, hF2⟩ := hp8
          show J X 0 0 σ2 [(2, .int (nI p)), (0, .ref a0), (1, .ref b)] [.ref q8] 58
          refine j_pop (pc := 58) C dX5_moveAhead_58 rfl ?_
          refine j_iload_n (pc := 59) C dX5_moveAhead_59 rfl 0 rfl ?_
          refine j_iconst (pc := 60) C (nI 1) dX5_moveAhead_60 (by decide) ?_
          refine j_isub (pc := 61) C dX5_moveAhead_61 ?_
          refine j_topi (nI (pos9 S r - 1)) (by rw [← hpp2]; exact pk_sub (a := p) (b := 1) h0) ?_
          exact j_ireturn (pc := 62) C Q dX5_moveAhead_62 (Nat.le_of_ble_eq_true rfl) (Nat.le_of_ble_eq_true rfl) (⟨rfl, by
            unfold S_raise
            rw [if_neg (by omega), ← hpp2]
            refine ph_order hw hpp (hF1.tr hF2) ?_
            have e9 : (fun z => ((7 : Nat), orr (zN (zN S 704 27 p (orr S (p - 1))) 704 27 (p - 1) r) z)) = (fun q => if q = p - 1 then (7, r) else if q = p then (7, orr S (p - 1)) else (7, orr S q)) := by
              funext z
              show ((7 : Nat), (zN (zN S 704 27 p (orr S (p - 1))) 704 27 (p - 1) r).1 704 27 z) = _
              rw [zN_row, zN_row]
              by_cases z1 : z = p - 1
              · rw [if_pos z1, if_pos z1]
              · rw [if_neg z1, if_neg z1]
                by_cases z2 : z = p
                · rw [if_pos z2, if_pos z2]
                · rw [if_neg z2, if_neg z2]
            rw [e9]
            exact hL2, hF1.tr hF2⟩)
  exact J.to [0, 1, 2] rfl (loop (nR S + 1) 1 (Nat.le_refl _) (by omega) (by omega) (by omega))
