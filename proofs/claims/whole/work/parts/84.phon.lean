set_option maxHeartbeats 4000000 in
set_option maxRecDepth 100000 in
theorem c_X5_soundCount (L9 : Launch) (w9 : Wd) {σ : HS} {S : SP} (hw : WF S) (hp : PH9 S σ) {a0 : Nat} (ha0 : At σ (6, 0) a0) : MJ L9 w9 yX5_soundCount cX5_soundCount 1 (some .int) ({ frames := 0, cells := 0, slots := 0, locals := 0 } : Room) [.ref a0] σ (fun a9 σ' => a9 = some (.int (nI (nS S))) ∧ σ' = σ) := by
  refine MJ.of (by decide +kernel) (Nat.le_of_ble_eq_true rfl) (fun X hX1 hX2 C Q hinit => ?_)
  subst hX1; subst hX2
  show J X 0 0 σ [(0, .ref a0)] [] 0
  obtain ⟨hf, hq, hr9⟩ := hp
  have hf0 := hf
  obtain ⟨hp0, ⟨f1, f1v, f1n⟩, ⟨f2, f2v, f2n⟩, f3, ⟨f4, f4v, f4m⟩, ⟨f5, f5v, f5m⟩, f6, f7, ⟨f9, f9v, f9n⟩⟩ := hf
  have gS := hw.1.1
  have gC := hw.1.2.2.2.1
  have gR := hw.2.1.1
  refine j_aload_n (pc := 0) C dX5_soundCount_0 rfl 0 rfl ?_
  refine j_getI (pc := 1) C fp_X5_49 ha0 rfl (f := 386) rfl dX5_soundCount_1 ?_
  refine j_topi (nI (nS S)) hq.1 ?_
  exact j_ireturn (pc := 4) C Q dX5_soundCount_4 (Nat.le_of_ble_eq_true rfl) (Nat.le_of_ble_eq_true rfl) (⟨rfl, rfl⟩)
set_option maxHeartbeats 4000000 in
set_option maxRecDepth 100000 in
theorem c_X5_setOfOn (L9 : Launch) (w9 : Wd) {σ : HS} {S : SP} (hw : WF S) (hp : PH9 S σ) {a0 : Nat} (ha0 : At σ (6, 0) a0) : MJ L9 w9 yX5_setOfOn cX5_setOfOn 1 (some .int) ({ frames := 0, cells := 0, slots := 0, locals := 0 } : Room) [.ref a0] σ (fun a9 σ' => a9 = some (.int (nI (on9 S))) ∧ σ' = σ) := by
  refine MJ.of (by decide +kernel) (Nat.le_of_ble_eq_true rfl) (fun X hX1 hX2 C Q hinit => ?_)
  subst hX1; subst hX2
  show J X 0 0 σ [(0, .ref a0)] [] 0
  obtain ⟨hf, hq, hr9⟩ := hp
  have hf0 := hf
  obtain ⟨hp0, ⟨f1, f1v, f1n⟩, ⟨f2, f2v, f2n⟩, f3, ⟨f4, f4v, f4m⟩, ⟨f5, f5v, f5m⟩, f6, f7, ⟨f9, f9v, f9n⟩⟩ := hf
  have gS := hw.1.1
  have gC := hw.1.2.2.2.1
  have gR := hw.2.1.1
  refine j_aload_n (pc := 0) C dX5_setOfOn_0 rfl 0 rfl ?_
  refine j_getI (pc := 1) C fp_X5_57 ha0 rfl (f := 392) rfl dX5_setOfOn_1 ?_
  refine j_topi (nI (on9 S)) hr9.1 ?_
  exact j_ireturn (pc := 4) C Q dX5_setOfOn_4 (Nat.le_of_ble_eq_true rfl) (Nat.le_of_ble_eq_true rfl) (⟨rfl, rfl⟩)
set_option maxHeartbeats 4000000 in
set_option maxRecDepth 100000 in
theorem c_X5_kindCount (L9 : Launch) (w9 : Wd) {σ : HS} {S : SP} (hw : WF S) (hp : PH9 S σ) {a0 : Nat} (ha0 : At σ (6, 0) a0) : MJ L9 w9 yX5_kindCount cX5_kindCount 1 (some .int) ({ frames := 1, cells := 0, slots := 0, locals := 20 } : Room) [.ref a0] σ (fun a9 σ' => a9 = some (.int (nI (nC S))) ∧ σ' = σ) := by
  refine MJ.of (by decide +kernel) (Nat.le_of_ble_eq_true rfl) (fun X hX1 hX2 C Q hinit => ?_)
  subst hX1; subst hX2
  show J X 0 0 σ [(0, .ref a0)] [] 0
  obtain ⟨hf, hq, hr9⟩ := hp
  have hf0 := hf
  obtain ⟨hp0, ⟨f1, f1v, f1n⟩, ⟨f2, f2v, f2n⟩, f3, ⟨f4, f4v, f4m⟩, ⟨f5, f5v, f5m⟩, f6, f7, ⟨f9, f9v, f9n⟩⟩ := hf
  have gS := hw.1.1
  have gC := hw.1.2.2.2.1
  have gR := hw.2.1.1
  refine j_aload_n (pc := 0) C dX5_kindCount_0 rfl 0 rfl ?_
  refine j_getA (pc := 1) C fp_X5_23 ha0 rfl (f := 387) rfl (0, 0) (hG σ (0, 0)) f3 (⟨hq.2.2.2.1.self, rfl⟩ : At _ (0, 0) _) dX5_kindCount_1 ?_
  refine j_callV (pc := 4) C [] [] (rm0 := ({ frames := 1, cells := 0, slots := 0, locals := 20 } : Room)) (k' := 0) (n' := 0) Q.1 (k_size (xl X) (xw X) hq.2.2.2.1 (⟨hq.2.2.2.1.self, rfl⟩ : At _ (0, 0) _)) mp_Jx4a65c_size_8abf5 wm_238 (⟨hq.2.2.2.1.self, rfl⟩ : At _ (0, 0) _) rfl rfl (by decide) rfl rfl (Nat.le_of_ble_eq_true rfl) dX5_kindCount_4 ⟨by decide, by decide⟩ ⟨Nat.le_of_ble_eq_true rfl, Nat.le_of_ble_eq_true rfl⟩ rfl rfl (det1 ?_)
  exact j_ireturn (pc := 7) C Q dX5_kindCount_7 (Nat.le_of_ble_eq_true rfl) (Nat.le_of_ble_eq_true rfl) (⟨rfl, rfl⟩)
set_option maxHeartbeats 4000000 in
set_option maxRecDepth 100000 in
theorem c_X5_ruleCount (L9 : Launch) (w9 : Wd) {σ : HS} {S : SP} (hw : WF S) (hp : PH9 S σ) {a0 : Nat} (ha0 : At σ (6, 0) a0) : MJ L9 w9 yX5_ruleCount cX5_ruleCount 1 (some .int) ({ frames := 1, cells := 0, slots := 0, locals := 20 } : Room) [.ref a0] σ (fun a9 σ' => a9 = some (.int (nI (nR S))) ∧ σ' = σ) := by
  refine MJ.of (by decide +kernel) (Nat.le_of_ble_eq_true rfl) (fun X hX1 hX2 C Q hinit => ?_)
  subst hX1; subst hX2
  show J X 0 0 σ [(0, .ref a0)] [] 0
  obtain ⟨hf, hq, hr9⟩ := hp
  have hf0 := hf
  obtain ⟨hp0, ⟨f1, f1v, f1n⟩, ⟨f2, f2v, f2n⟩, f3, ⟨f4, f4v, f4m⟩, ⟨f5, f5v, f5m⟩, f6, f7, ⟨f9, f9v, f9n⟩⟩ := hf
  have gS := hw.1.1
  have gC := hw.1.2.2.2.1
  have gR := hw.2.1.1
  refine j_aload_n (pc := 0) C dX5_ruleCount_0 rfl 0 rfl ?_
  refine j_getA (pc := 1) C fp_X5_39 ha0 rfl (f := 390) rfl (0, 1) (hG σ (0, 1)) f6 (⟨hr9.2.1.self, rfl⟩ : At _ (0, 1) _) dX5_ruleCount_1 ?_
  refine j_callV (pc := 4) C [] [] (rm0 := ({ frames := 1, cells := 0, slots := 0, locals := 20 } : Room)) (k' := 0) (n' := 0) Q.1 (k_size (xl X) (xw X) hr9.2.1 (⟨hr9.2.1.self, rfl⟩ : At _ (0, 1) _)) mp_Jx4a65c_size_8abf5 wm_238 (⟨hr9.2.1.self, rfl⟩ : At _ (0, 1) _) rfl rfl (by decide) rfl rfl (Nat.le_of_ble_eq_true rfl) dX5_ruleCount_4 ⟨by decide, by decide⟩ ⟨Nat.le_of_ble_eq_true rfl, Nat.le_of_ble_eq_true rfl⟩ rfl rfl (det1 ?_)
  exact j_ireturn (pc := 7) C Q dX5_ruleCount_7 (Nat.le_of_ble_eq_true rfl) (Nat.le_of_ble_eq_true rfl) (⟨rfl, rfl⟩)
set_option maxHeartbeats 4000000 in
set_option maxRecDepth 100000 in
theorem c_X5_hasSoundWith (L9 : Launch) (w9 : Wd) {σ : HS} {S : SP} (hw : WF S) (hp : PH9 S σ) {a0 : Nat} (ha0 : At σ (6, 0) a0) {x : Nat} (hx : x < 64) : MJ L9 w9 yX5_hasSoundWith cX5_hasSoundWith 2 (some .boolean) ({ frames := 0, cells := 0, slots := 0, locals := 0 } : Room) [.ref a0, .int (nI x)] σ (fun a9 σ' => a9 = some (.int (bI (decide (wi S x ≠ 0)))) ∧ σ' = σ) := by
  refine MJ.of (by decide +kernel) (Nat.le_of_ble_eq_true rfl) (fun X hX1 hX2 C Q hinit => ?_)
  subst hX1; subst hX2
  show J X 0 0 σ [(0, .ref a0), (1, .int (nI x))] [] 0
  obtain ⟨hf, hq, hr9⟩ := hp
  have hf0 := hf
  obtain ⟨hp0, ⟨f1, f1v, f1n⟩, ⟨f2, f2v, f2n⟩, f3, ⟨f4, f4v, f4m⟩, ⟨f5, f5v, f5m⟩, f6, f7, ⟨f9, f9v, f9n⟩⟩ := hf
  have gS := hw.1.1
  have gC := hw.1.2.2.2.1
  have gR := hw.2.1.1
  have gw := (hw.1.2.1 x hx).1
  refine j_aload_n (pc := 0) C dX5_hasSoundWith_0 rfl 0 rfl ?_
  refine j_getA (pc := 1) C fp_X5_17 ha0 rfl (f := 385) rfl (11, 1) (hG σ (11, 1)) f2 (⟨f2v, rfl⟩ : At _ (11, 1) _) dX5_hasSoundWith_1 ?_
  refine j_iload_n (pc := 4) C dX5_hasSoundWith_4 rfl 1 rfl ?_
  refine j_bipush (pc := 5) C (nI 63) dX5_hasSoundWith_5 (by decide) ?_
  refine j_iand (pc := 7) C dX5_hasSoundWith_7 ?_
  refine j_topi (nI (x &&& 63)) (nx_and x 63) ?_
  refine j_topi (nI x) (congrArg nI (and63 hx)) ?_
  refine j_iald (pc := 8) C (p := x) (M := 64) (⟨f2v, rfl⟩ : At _ (11, 1) _) rfl f2n (by first | omega | assumption) (by decide) dX5_hasSoundWith_8 ?_
  refine j_topi (nI (wi S x)) (hq.2.2.1 x hx) ?_
  refine jn_if_eq (pc := 9) C 16 (a := wi S x) (by omega) dX5_hasSoundWith_9 (by decide) (fun c1 => ?_) (fun c1 => ?_)
  · refine j_iconst (pc := 16) C (nI 0) dX5_hasSoundWith_16 (by decide) ?_
    refine j_topi (bI (decide (wi S x ≠ 0))) (by rw [decide_eq_false (fun z => z c1)]; rfl) ?_
    exact j_zreturn (pc := 17) C Q dX5_hasSoundWith_17 (bI_nar _) (Nat.le_of_ble_eq_true rfl) (Nat.le_of_ble_eq_true rfl) (⟨rfl, rfl⟩)
  · refine j_iconst (pc := 12) C (nI 1) dX5_hasSoundWith_12 (by decide) ?_
    refine j_goto (pc := 13) C 17 dX5_hasSoundWith_13 (by decide) ?_
    refine j_topi (bI (decide (wi S x ≠ 0))) (by rw [decide_eq_true c1]; rfl) ?_
    exact j_zreturn (pc := 17) C Q dX5_hasSoundWith_17 (bI_nar _) (Nat.le_of_ble_eq_true rfl) (Nat.le_of_ble_eq_true rfl) (⟨rfl, rfl⟩)
set_option maxHeartbeats 4000000 in
set_option maxRecDepth 100000 in
theorem c_X5_wordBySet (L9 : Launch) (w9 : Wd) {σ : HS} (hf : PHf σ) {a0 : Nat} (ha0 : At σ (6, 0) a0) {s : Nat} (hs : s < 64) {l : List Nat} (hl : hL σ 768 101 s = enc5 l) : MJ L9 w9 yX5_wordBySet cX5_wordBySet 2 (some .long) ({ frames := 0, cells := 0, slots := 0, locals := 0 } : Room) [.ref a0, .int (nI s)] σ (fun a9 σ' => a9 = some (.long (enc5 l)) ∧ σ' = σ) := by
  refine MJ.of (by decide +kernel) (Nat.le_of_ble_eq_true rfl) (fun X hX1 hX2 C Q hinit => ?_)
  subst hX1; subst hX2
  show J X 0 0 σ [(0, .ref a0), (1, .int (nI s))] [] 0
  obtain ⟨hp0, ⟨f1, f1v, f1n⟩, ⟨f2, f2v, f2n⟩, f3, ⟨f4, f4v, f4m⟩, ⟨f5, f5v, f5m⟩, f6, f7, ⟨f9, f9v, f9n⟩⟩ := hf
  refine j_aload_n (pc := 0) C dX5_wordBySet_0 rfl 0 rfl ?_
  refine j_getA (pc := 1) C fp_X5_45 ha0 rfl (f := 393) rfl (12, 101) (hG σ (12, 101)) f9 (⟨f9v, rfl⟩ : At _ (12, 101) _) dX5_wordBySet_1 ?_
  refine j_iload_n (pc := 4) C dX5_wordBySet_4 rfl 1 rfl ?_
  refine j_bipush (pc := 5) C (nI 63) dX5_wordBySet_5 (by decide) ?_
  refine j_iand (pc := 7) C dX5_wordBySet_7 ?_
  refine j_topi (nI (s &&& 63)) (nx_and s 63) ?_
  refine j_topi (nI s) (congrArg nI (and63 hs)) ?_
  refine j_lald (pc := 8) C (p := s) (M := 64) (⟨f9v, rfl⟩ : At _ (12, 101) _) rfl f9n (by first | omega | assumption) (by decide) dX5_wordBySet_8 ?_
  refine j_topl (enc5 l) hl ?_
  exact j_lreturn (pc := 9) C Q dX5_wordBySet_9 (Nat.le_of_ble_eq_true rfl) (Nat.le_of_ble_eq_true rfl) (⟨rfl, rfl⟩)
set_option maxHeartbeats 4000000 in
set_option maxRecDepth 100000 in
theorem c_X5_kindNumbered_t (L9 : Launch) (w9 : Wd) {σ : HS} {S : SP} (hw : WF S) (hp : PH9 S σ) {a0 : Nat} (ha0 : At σ (6, 0) a0) {n : Nat} (n1 : n < nC S) : MJ L9 w9 yX5_kindNumbered cX5_kindNumbered 2 (some (.object "Fieldgrammar$Kind")) ({ frames := 3, cells := 0, slots := 0, locals := 64 } : Room) [.ref a0, .int (nI n)] σ (fun a9 σ' => a9 = some (.ref (hG σ (3, n))) ∧ σ' = σ) := by
  refine MJ.of (by decide +kernel) (Nat.le_of_ble_eq_true rfl) (fun X hX1 hX2 C Q hinit => ?_)
  subst hX1; subst hX2
  show J X 0 0 σ [(0, .ref a0), (1, .int (nI n))] [] 0
  obtain ⟨hf, hq, hr9⟩ := hp
  have hf0 := hf
  obtain ⟨hp0, ⟨f1, f1v, f1n⟩, ⟨f2, f2v, f2n⟩, f3, ⟨f4, f4v, f4m⟩, ⟨f5, f5v, f5m⟩, f6, f7, ⟨f9, f9v, f9n⟩⟩ := hf
  have gS := hw.1.1
  have gC := hw.1.2.2.2.1
  have gR := hw.2.1.1
  refine j_iload_n (pc := 0) C dX5_kindNumbered_0 rfl 1 rfl ?_
  refine jn_if_lt (pc := 1) C 29 (a := n) (by omega) dX5_kindNumbered_1 (by decide) (fun c0 => (c0 : False).elim) (fun c0 => ?_)
  refine j_iload_n (pc := 4) C dX5_kindNumbered_4 rfl 1 rfl ?_
  refine j_aload_n (pc := 5) C dX5_kindNumbered_5 rfl 0 rfl ?_
  refine j_getA (pc := 6) C fp_X5_23 ha0 rfl (f := 387) rfl (0, 0) (hG σ (0, 0)) f3 (⟨hq.2.2.2.1.self, rfl⟩ : At _ (0, 0) _) dX5_kindNumbered_6 ?_
  refine j_callV (pc := 9) C [] [.int (nI n)] (rm0 := ({ frames := 3, cells := 0, slots := 0, locals := 64 } : Room)) (k' := 0) (n' := 0) Q.1 (k_size (xl X) (xw X) hq.2.2.2.1 (⟨hq.2.2.2.1.self, rfl⟩ : At _ (0, 0) _)) mp_Jx4a65c_size_8abf5 wm_238 (⟨hq.2.2.2.1.self, rfl⟩ : At _ (0, 0) _) rfl rfl (by decide) rfl rfl (Nat.le_of_ble_eq_true rfl) dX5_kindNumbered_9 ⟨by decide, by decide⟩ ⟨Nat.le_of_ble_eq_true rfl, Nat.le_of_ble_eq_true rfl⟩ rfl rfl (det1 ?_)
  refine jn_icmp_ge (pc := 12) C 29 (a := n) (b := nC S) (by omega) (by omega) dX5_kindNumbered_12 (by decide) (fun c0 => (absurd c0 (by omega) : False).elim) (fun c0 => ?_)
  refine j_aload_n (pc := 15) C dX5_kindNumbered_15 rfl 0 rfl ?_
  refine j_getA (pc := 16) C fp_X5_23 ha0 rfl (f := 387) rfl (0, 0) (hG σ (0, 0)) f3 (⟨hq.2.2.2.1.self, rfl⟩ : At _ (0, 0) _) dX5_kindNumbered_16 ?_
  refine j_iload_n (pc := 19) C dX5_kindNumbered_19 rfl 1 rfl ?_
  refine j_callV (pc := 20) C [.int (nI n)] [] (rm0 := ({ frames := 3, cells := 0, slots := 0, locals := 64 } : Room)) (k' := 0) (n' := 0) Q.1 (k_get (xl X) (xw X) hq.2.2.2.1 n1 (⟨hq.2.2.2.1.self, rfl⟩ : At _ (0, 0) _)) mp_Jx4a65c_get_915e3 wm_294 (⟨hq.2.2.2.1.self, rfl⟩ : At _ (0, 0) _) rfl rfl (by decide) rfl rfl (Nat.le_of_ble_eq_true rfl) dX5_kindNumbered_20 ⟨by decide, by decide⟩ ⟨Nat.le_of_ble_eq_true rfl, Nat.le_of_ble_eq_true rfl⟩ rfl rfl (det1 ?_)
  refine j_cast (pc := 23) C cp_X5_27 (⟨hq.2.2.2.1.live n1, rfl⟩ : At _ (3, n) _) dX5_kindNumbered_23 ?_
  refine j_goto (pc := 26) C 30 dX5_kindNumbered_26 (by decide) ?_
  exact j_areturn (pc := 30) C Q (Or.inl ⟨_, rfl⟩) (Or.inr ⟨_, rfl⟩) dX5_kindNumbered_30 (Nat.le_of_ble_eq_true rfl) (Nat.le_of_ble_eq_true rfl) (⟨rfl, rfl⟩)
set_option maxHeartbeats 4000000 in
set_option maxRecDepth 100000 in
theorem c_X5_kindNumbered_f (L9 : Launch) (w9 : Wd) {σ : HS} {S : SP} (hw : WF S) (hp : PH9 S σ) {a0 : Nat} (ha0 : At σ (6, 0) a0) {x : Int32} (hx : inI x (nC S) = false) : MJ L9 w9 yX5_kindNumbered cX5_kindNumbered 2 (some (.object "Fieldgrammar$Kind")) ({ frames := 1, cells := 0, slots := 0, locals := 20 } : Room) [.ref a0, .int x] σ (fun a9 σ' => a9 = some (.null) ∧ σ' = σ) := by
  refine MJ.of (by decide +kernel) (Nat.le_of_ble_eq_true rfl) (fun X hX1 hX2 C Q hinit => ?_)
  subst hX1; subst hX2
  show J X 0 0 σ [(0, .ref a0), (1, .int x)] [] 0
  obtain ⟨hf, hq, hr9⟩ := hp
  have hf0 := hf
  obtain ⟨hp0, ⟨f1, f1v, f1n⟩, ⟨f2, f2v, f2n⟩, f3, ⟨f4, f4v, f4m⟩, ⟨f5, f5v, f5m⟩, f6, f7, ⟨f9, f9v, f9n⟩⟩ := hf
  have gS := hw.1.1
  have gC := hw.1.2.2.2.1
  have gR := hw.2.1.1
  refine j_iload_n (pc := 0) C dX5_kindNumbered_0 rfl 1 rfl ?_
  refine j_if_lt (pc := 1) C 29 dX5_kindNumbered_1 (by decide) (fun c1 => ?_) (fun c1 => ?_)
  · refine j_null (pc := 29) C dX5_kindNumbered_29 ?_
    exact j_areturn (pc := 30) C Q (Or.inl ⟨_, rfl⟩) (Or.inl rfl) dX5_kindNumbered_30 (Nat.le_of_ble_eq_true rfl) (Nat.le_of_ble_eq_true rfl) (⟨rfl, rfl⟩)
  · have c3 : 0 ≤ x.toInt := Decidable.byContradiction (fun z => c1 (lt0_iff.mpr z))
    obtain ⟨n1, n2⟩ := nn_t c3
    rw [n2, inI_nI n1] at hx
    have hx2 := of_decide_eq_false hx
    rw [n2]
    refine j_iload_n (pc := 4) C dX5_kindNumbered_4 rfl 1 rfl ?_
    refine j_aload_n (pc := 5) C dX5_kindNumbered_5 rfl 0 rfl ?_
    refine j_getA (pc := 6) C fp_X5_23 ha0 rfl (f := 387) rfl (0, 0) (hG σ (0, 0)) f3 (⟨hq.2.2.2.1.self, rfl⟩ : At _ (0, 0) _) dX5_kindNumbered_6 ?_
    refine j_callV (pc := 9) C [] [.int (nI (xN x))] (rm0 := ({ frames := 1, cells := 0, slots := 0, locals := 20 } : Room)) (k' := 0) (n' := 0) Q.1 (k_size (xl X) (xw X) hq.2.2.2.1 (⟨hq.2.2.2.1.self, rfl⟩ : At _ (0, 0) _)) mp_Jx4a65c_size_8abf5 wm_238 (⟨hq.2.2.2.1.self, rfl⟩ : At _ (0, 0) _) rfl rfl (by decide) rfl rfl (Nat.le_of_ble_eq_true rfl) dX5_kindNumbered_9 ⟨by decide, by decide⟩ ⟨Nat.le_of_ble_eq_true rfl, Nat.le_of_ble_eq_true rfl⟩ rfl rfl (det1 ?_)
    refine jn_icmp_ge (pc := 12) C 29 (a := xN x) (b := nC S) (by omega) (by omega) dX5_kindNumbered_12 (by decide) (fun c0 => ?_) (fun c0 => (absurd c0 (by omega) : False).elim)
    refine j_null (pc := 29) C dX5_kindNumbered_29 ?_
    exact j_areturn (pc := 30) C Q (Or.inl ⟨_, rfl⟩) (Or.inl rfl) dX5_kindNumbered_30 (Nat.le_of_ble_eq_true rfl) (Nat.le_of_ble_eq_true rfl) (⟨rfl, rfl⟩)
set_option maxHeartbeats 4000000 in
set_option maxRecDepth 100000 in
theorem c_X5_ruleNumbered_t (L9 : Launch) (w9 : Wd) {σ : HS} {S : SP} (hw : WF S) (hp : PH9 S σ) {a0 : Nat} (ha0 : At σ (6, 0) a0) {n : Nat} (n1 : n < nR S) : MJ L9 w9 yX5_ruleNumbered cX5_ruleNumbered 2 (some (.object "Fieldgrammar$Rule")) ({ frames := 3, cells := 0, slots := 0, locals := 64 } : Room) [.ref a0, .int (nI n)] σ (fun a9 σ' => a9 = some (.ref (hG σ (7, n))) ∧ σ' = σ) := by
  refine MJ.of (by decide +kernel) (Nat.le_of_ble_eq_true rfl) (fun X hX1 hX2 C Q hinit => ?_)
  subst hX1; subst hX2
  show J X 0 0 σ [(0, .ref a0), (1, .int (nI n))] [] 0
  obtain ⟨hf, hq, hr9⟩ := hp
  have hf0 := hf
  obtain ⟨hp0, ⟨f1, f1v, f1n⟩, ⟨f2, f2v, f2n⟩, f3, ⟨f4, f4v, f4m⟩, ⟨f5, f5v, f5m⟩, f6, f7, ⟨f9, f9v, f9n⟩⟩ := hf
  have gS := hw.1.1
  have gC := hw.1.2.2.2.1
  have gR := hw.2.1.1
  refine j_iload_n (pc := 0) C dX5_ruleNumbered_0 rfl 1 rfl ?_
  refine jn_if_lt (pc := 1) C 29 (a := n) (by omega) dX5_ruleNumbered_1 (by decide) (fun c0 => (c0 : False).elim) (fun c0 => ?_)
  refine j_iload_n (pc := 4) C dX5_ruleNumbered_4 rfl 1 rfl ?_
  refine j_aload_n (pc := 5) C dX5_ruleNumbered_5 rfl 0 rfl ?_
  refine j_getA (pc := 6) C fp_X5_39 ha0 rfl (f := 390) rfl (0, 1) (hG σ (0, 1)) f6 (⟨hr9.2.1.self, rfl⟩ : At _ (0, 1) _) dX5_ruleNumbered_6 ?_
  refine j_callV (pc := 9) C [] [.int (nI n)] (rm0 := ({ frames := 3, cells := 0, slots := 0, locals := 64 } : Room)) (k' := 0) (n' := 0) Q.1 (k_size (xl X) (xw X) hr9.2.1 (⟨hr9.2.1.self, rfl⟩ : At _ (0, 1) _)) mp_Jx4a65c_size_8abf5 wm_238 (⟨hr9.2.1.self, rfl⟩ : At _ (0, 1) _) rfl rfl (by decide) rfl rfl (Nat.le_of_ble_eq_true rfl) dX5_ruleNumbered_9 ⟨by decide, by decide⟩ ⟨Nat.le_of_ble_eq_true rfl, Nat.le_of_ble_eq_true rfl⟩ rfl rfl (det1 ?_)
  refine jn_icmp_ge (pc := 12) C 29 (a := n) (b := nR S) (by omega) (by omega) dX5_ruleNumbered_12 (by decide) (fun c0 => (absurd c0 (by omega) : False).elim) (fun c0 => ?_)
  refine j_aload_n (pc := 15) C dX5_ruleNumbered_15 rfl 0 rfl ?_
  refine j_getA (pc := 16) C fp_X5_39 ha0 rfl (f := 390) rfl (0, 1) (hG σ (0, 1)) f6 (⟨hr9.2.1.self, rfl⟩ : At _ (0, 1) _) dX5_ruleNumbered_16 ?_
  refine j_iload_n (pc := 19) C dX5_ruleNumbered_19 rfl 1 rfl ?_
  refine j_callV (pc := 20) C [.int (nI n)] [] (rm0 := ({ frames := 3, cells := 0, slots := 0, locals := 64 } : Room)) (k' := 0) (n' := 0) Q.1 (k_get (xl X) (xw X) hr9.2.1 n1 (⟨hr9.2.1.self, rfl⟩ : At _ (0, 1) _)) mp_Jx4a65c_get_915e3 wm_294 (⟨hr9.2.1.self, rfl⟩ : At _ (0, 1) _) rfl rfl (by decide) rfl rfl (Nat.le_of_ble_eq_true rfl) dX5_ruleNumbered_20 ⟨by decide, by decide⟩ ⟨Nat.le_of_ble_eq_true rfl, Nat.le_of_ble_eq_true rfl⟩ rfl rfl (det1 ?_)
  refine j_cast (pc := 23) C cp_X5_80 (⟨hr9.2.1.live n1, rfl⟩ : At _ (7, n) _) dX5_ruleNumbered_23 ?_
  refine j_goto (pc := 26) C 30 dX5_ruleNumbered_26 (by decide) ?_
  exact j_areturn (pc := 30) C Q (Or.inl ⟨_, rfl⟩) (Or.inr ⟨_, rfl⟩) dX5_ruleNumbered_30 (Nat.le_of_ble_eq_true rfl) (Nat.le_of_ble_eq_true rfl) (⟨rfl, rfl⟩)
set_option maxHeartbeats 4000000 in
set_option maxRecDepth 100000 in
theorem c_X5_ruleNumbered_f (L9 : Launch) (w9 : Wd) {σ : HS} {S : SP} (hw : WF S) (hp : PH9 S σ) {a0 : Nat} (ha0 : At σ (6, 0) a0) {x : Int32} (hx : inI x (nR S) = false) : MJ L9 w9 yX5_ruleNumbered cX5_ruleNumbered 2 (some (.object "Fieldgrammar$Rule")) ({ frames := 1, cells := 0, slots := 0, locals := 20 } : Room) [.ref a0, .int x] σ (fun a9 σ' => a9 = some (.null) ∧ σ' = σ) := by
  refine MJ.of (by decide +kernel) (Nat.le_of_ble_eq_true rfl) (fun X hX1 hX2 C Q hinit => ?_)
  subst hX1; subst hX2
  show J X 0 0 σ [(0, .ref a0), (1, .int x)] [] 0
  obtain ⟨hf, hq, hr9⟩ := hp
  have hf0 := hf
  obtain ⟨hp0, ⟨f1, f1v, f1n⟩, ⟨f2, f2v, f2n⟩, f3, ⟨f4, f4v, f4m⟩, ⟨f5, f5v, f5m⟩, f6, f7, ⟨f9, f9v, f9n⟩⟩ := hf
  have gS := hw.1.1
  have gC := hw.1.2.2.2.1
  have gR := hw.2.1.1
  refine j_iload_n (pc := 0) C dX5_ruleNumbered_0 rfl 1 rfl ?_
  refine j_if_lt (pc := 1) C 29 dX5_ruleNumbered_1 (by decide) (fun c1 => ?_) (fun c1 => ?_)
  · refine j_null (pc := 29) C dX5_ruleNumbered_29 ?_
    exact j_areturn (pc := 30) C Q (Or.inl ⟨_, rfl⟩) (Or.inl rfl) dX5_ruleNumbered_30 (Nat.le_of_ble_eq_true rfl) (Nat.le_of_ble_eq_true rfl) (⟨rfl, rfl⟩)
  · have c3 : 0 ≤ x.toInt := Decidable.byContradiction (fun z => c1 (lt0_iff.mpr z))
    obtain ⟨n1, n2⟩ := nn_t c3
    rw [n2, inI_nI n1] at hx
    have hx2 := of_decide_eq_false hx
    rw [n2]
    refine j_iload_n (pc := 4) C dX5_ruleNumbered_4 rfl 1 rfl ?_
    refine j_aload_n (pc := 5) C dX5_ruleNumbered_5 rfl 0 rfl ?_
    refine j_getA (pc := 6) C fp_X5_39 ha0 rfl (f := 390) rfl (0, 1) (hG σ (0, 1)) f6 (⟨hr9.2.1.self, rfl⟩ : At _ (0, 1) _) dX5_ruleNumbered_6 ?_
    refine j_callV (pc := 9) C [] [.int (nI (xN x))] (rm0 := ({ frames := 1, cells := 0, slots := 0, locals := 20 } : Room)) (k' := 0) (n' := 0) Q.1 (k_size (xl X) (xw X) hr9.2.1 (⟨hr9.2.1.self, rfl⟩ : At _ (0, 1) _)) mp_Jx4a65c_size_8abf5 wm_238 (⟨hr9.2.1.self, rfl⟩ : At _ (0, 1) _) rfl rfl (by decide) rfl rfl (Nat.le_of_ble_eq_true rfl) dX5_ruleNumbered_9 ⟨by decide, by decide⟩ ⟨Nat.le_of_ble_eq_true rfl, Nat.le_of_ble_eq_true rfl⟩ rfl rfl (det1 ?_)
    refine jn_icmp_ge (pc := 12) C 29 (a := xN x) (b := nR S) (by omega) (by omega) dX5_ruleNumbered_12 (by decide) (fun c0 => ?_) (fun c0 => (absurd c0 (by omega) : False).elim)
    refine j_null (pc := 29) C dX5_ruleNumbered_29 ?_
    exact j_areturn (pc := 30) C Q (Or.inl ⟨_, rfl⟩) (Or.inl rfl) dX5_ruleNumbered_30 (Nat.le_of_ble_eq_true rfl) (Nat.le_of_ble_eq_true rfl) (⟨rfl, rfl⟩)
set_option maxHeartbeats 4000000 in
set_option maxRecDepth 100000 in
theorem c_X5_sideNumbered_t (L9 : Launch) (w9 : Wd) {σ : HS} {S : SP} (hw : WF S) (hp : PH9 S σ) {a0 : Nat} (ha0 : At σ (6, 0) a0) {x : Int32} (hx : isSide9 S x = true) : MJ L9 w9 yX5_sideNumbered cX5_sideNumbered 2 (some (.object "Fieldgrammar$Kind")) ({ frames := 4, cells := 0, slots := 0, locals := 85 } : Room) [.ref a0, .int x] σ (fun a9 σ' => a9 = some (.ref (hG σ (sideT (sideN x)))) ∧ σ' = σ) := by
  refine MJ.of (by decide +kernel) (Nat.le_of_ble_eq_true rfl) (fun X hX1 hX2 C Q hinit => ?_)
  subst hX1; subst hX2
  show J X 0 0 σ [(0, .ref a0), (1, .int x)] [] 0
  obtain ⟨hf, hq, hr9⟩ := hp
  have hf0 := hf
  obtain ⟨hp0, ⟨f1, f1v, f1n⟩, ⟨f2, f2v, f2n⟩, f3, ⟨f4, f4v, f4m⟩, ⟨f5, f5v, f5m⟩, f6, f7, ⟨f9, f9v, f9n⟩⟩ := hf
  have gS := hw.1.1
  have gC := hw.1.2.2.2.1
  have gR := hw.2.1.1
  refine j_iload_n (pc := 0) C dX5_sideNumbered_0 rfl 1 rfl ?_
  refine j_iconst (pc := 1) C (-1) dX5_sideNumbered_1 (by decide) ?_
  refine j_icmp_ne (pc := 2) C 10 dX5_sideNumbered_2 (by decide) (fun c1 => ?_) (fun c1 => ?_)
  · have e1 : sideT (sideN x) = if x = -2 then (3, 101) else (3, xN x) := by
      unfold sideN sideT
      rw [if_neg c1]
      by_cases c2 : x = -2
      · rw [if_pos c2, if_pos c2, if_pos rfl]
      · rw [if_neg c2, if_neg c2, if_neg (by omega), if_neg (by omega), Nat.add_sub_cancel]
    refine j_iload_n (pc := 10) C dX5_sideNumbered_10 rfl 1 rfl ?_
    refine j_bipush (pc := 11) C (-2) dX5_sideNumbered_11 (by decide) ?_
    refine j_icmp_ne (pc := 13) C 23 dX5_sideNumbered_13 (by decide) (fun c2 => ?_) (fun c2 => ?_)
    · rw [if_neg c2] at e1
      have hi : inI x (nC S) = true := by
        unfold isSide9 at hx
        rw [decide_eq_false c1, decide_eq_false c2] at hx
        exact hx
      obtain ⟨n1, n2⟩ := inI_t hi
      refine j_aload_n (pc := 23) C dX5_sideNumbered_23 rfl 0 rfl ?_
      refine j_iload_n (pc := 24) C dX5_sideNumbered_24 rfl 1 rfl ?_
      refine j_topi (nI (xN x)) n2 ?_
      refine j_callV (pc := 25) C [.int (nI (xN x))] [] (rm0 := ({ frames := 4, cells := 0, slots := 0, locals := 85 } : Room)) (k' := 0) (n' := 0) Q.1 (c_X5_kindNumbered_t (xl X) (xw X) hw ⟨hf0, hq, hr9⟩ ha0 n1) mp_X5_kindNumbered wm_670 ha0 rfl rfl (by decide) rfl rfl (Nat.le_of_ble_eq_true rfl) dX5_sideNumbered_25 ⟨by decide, by decide⟩ ⟨Nat.le_of_ble_eq_true rfl, Nat.le_of_ble_eq_true rfl⟩ rfl rfl (det1 ?_)
      exact j_areturn (pc := 28) C Q (Or.inl ⟨_, rfl⟩) (Or.inr ⟨_, rfl⟩) dX5_sideNumbered_28 (Nat.le_of_ble_eq_true rfl) (Nat.le_of_ble_eq_true rfl) (⟨by rw [e1], rfl⟩)
    · rw [if_pos c2] at e1
      refine j_aload_n (pc := 16) C dX5_sideNumbered_16 rfl 0 rfl ?_
      refine j_getA (pc := 17) C fp_X5_36 ha0 rfl (f := 389) rfl (3, 101) (hG σ (3, 101)) f5 (⟨f5v, rfl⟩ : At _ (3, 101) _) dX5_sideNumbered_17 ?_
      refine j_goto (pc := 20) C 28 dX5_sideNumbered_20 (by decide) ?_
      exact j_areturn (pc := 28) C Q (Or.inl ⟨_, rfl⟩) (Or.inr ⟨_, rfl⟩) dX5_sideNumbered_28 (Nat.le_of_ble_eq_true rfl) (Nat.le_of_ble_eq_true rfl) (⟨by rw [e1], rfl⟩)
  · have e1 : sideT (sideN x) = (3, 100) := by
      unfold sideN sideT
      rw [if_pos c1, if_neg (by decide), if_pos rfl]
    refine j_aload_n (pc := 5) C dX5_sideNumbered_5 rfl 0 rfl ?_
    refine j_getA (pc := 6) C fp_X5_32 ha0 rfl (f := 388) rfl (3, 100) (hG σ (3, 100)) f4 (⟨f4v, rfl⟩ : At _ (3, 100) _) dX5_sideNumbered_6 ?_
    exact j_areturn (pc := 9) C Q (Or.inl ⟨_, rfl⟩) (Or.inr ⟨_, rfl⟩) dX5_sideNumbered_9 (Nat.le_of_ble_eq_true rfl) (Nat.le_of_ble_eq_true rfl) (⟨by rw [e1], rfl⟩)
set_option maxHeartbeats 4000000 in
set_option maxRecDepth 100000 in
theorem c_X5_sideNumbered_f (L9 : Launch) (w9 : Wd) {σ : HS} {S : SP} (hw : WF S) (hp : PH9 S σ) {a0 : Nat} (ha0 : At σ (6, 0) a0) {x : Int32} (hx : isSide9 S x = false) : MJ L9 w9 yX5_sideNumbered cX5_sideNumbered 2 (some (.object "Fieldgrammar$Kind")) ({ frames := 4, cells := 0, slots := 0, locals := 85 } : Room) [.ref a0, .int x] σ (fun a9 σ' => a9 = some (.null) ∧ σ' = σ) := by
  refine MJ.of (by decide +kernel) (Nat.le_of_ble_eq_true rfl) (fun X hX1 hX2 C Q hinit => ?_)
  subst hX1; subst hX2
  show J X 0 0 σ [(0, .ref a0), (1, .int x)] [] 0
  obtain ⟨hf, hq, hr9⟩ := hp
  have hf0 := hf
  obtain ⟨hp0, ⟨f1, f1v, f1n⟩, ⟨f2, f2v, f2n⟩, f3, ⟨f4, f4v, f4m⟩, ⟨f5, f5v, f5m⟩, f6, f7, ⟨f9, f9v, f9n⟩⟩ := hf
  have gS := hw.1.1
  have gC := hw.1.2.2.2.1
  have gR := hw.2.1.1
  unfold isSide9 at hx
  rw [Bool.or_eq_false_iff, Bool.or_eq_false_iff] at hx
  obtain ⟨⟨x1, x2⟩, x3⟩ := hx
  refine j_iload_n (pc := 0) C dX5_sideNumbered_0 rfl 1 rfl ?_
  refine j_iconst (pc := 1) C (-1) dX5_sideNumbered_1 (by decide) ?_
  refine j_icmp_ne (pc := 2) C 10 dX5_sideNumbered_2 (by decide) (fun c1 => ?_) (fun c1 => ?_)
  · refine j_iload_n (pc := 10) C dX5_sideNumbered_10 rfl 1 rfl ?_
    refine j_bipush (pc := 11) C (-2) dX5_sideNumbered_11 (by decide) ?_
    refine j_icmp_ne (pc := 13) C 23 dX5_sideNumbered_13 (by decide) (fun c2 => ?_) (fun c2 => ?_)
    · refine j_aload_n (pc := 23) C dX5_sideNumbered_23 rfl 0 rfl ?_
      refine j_iload_n (pc := 24) C dX5_sideNumbered_24 rfl 1 rfl ?_
      refine j_callV (pc := 25) C [.int x] [] (rm0 := ({ frames := 4, cells := 0, slots := 0, locals := 85 } : Room)) (k' := 0) (n' := 0) Q.1 (c_X5_kindNumbered_f (xl X) (xw X) hw ⟨hf0, hq, hr9⟩ ha0 x3) mp_X5_kindNumbered wm_670 ha0 rfl rfl (by decide) rfl rfl (Nat.le_of_ble_eq_true rfl) dX5_sideNumbered_25 ⟨by decide, by decide⟩ ⟨Nat.le_of_ble_eq_true rfl, Nat.le_of_ble_eq_true rfl⟩ rfl rfl (det1 ?_)
      exact j_areturn (pc := 28) C Q (Or.inl ⟨_, rfl⟩) (Or.inl rfl) dX5_sideNumbered_28 (Nat.le_of_ble_eq_true rfl) (Nat.le_of_ble_eq_true rfl) (⟨rfl, rfl⟩)
    · exact absurd c2 (of_decide_eq_false x2)
  · exact absurd c1 (of_decide_eq_false x1)
set_option maxHeartbeats 4000000 in
set_option maxRecDepth 100000 in
theorem c_X5_turnedCode (L9 : Launch) (w9 : Wd) {σ : HS} {S : SP} (hw : WF S) (hp : PH9 S σ) {a0 : Nat} (ha0 : At σ (6, 0) a0) {s u : Nat} (hs : s < nS S) (hu : u < 64) : MJ L9 w9 yX5_turnedCode cX5_turnedCode 5 (some .int) ({ frames := 0, cells := 0, slots := 0, locals := 0 } : Room) [.ref a0, .int (nI (s + 1)), .int (nI u)] σ (fun a9 σ' => a9 = some (.int (nI (tcod S s u))) ∧ σ' = σ) := by
  refine MJ.of (by decide +kernel) (Nat.le_of_ble_eq_true rfl) (fun X hX1 hX2 C Q hinit => ?_)
  subst hX1; subst hX2
  show J X 0 0 σ [(0, .ref a0), (1, .int (nI (s + 1))), (2, .int (nI u))] [] 0
  obtain ⟨hf, hq, hr9⟩ := hp
  have hf0 := hf
  obtain ⟨hp0, ⟨f1, f1v, f1n⟩, ⟨f2, f2v, f2n⟩, f3, ⟨f4, f4v, f4m⟩, ⟨f5, f5v, f5m⟩, f6, f7, ⟨f9, f9v, f9n⟩⟩ := hf
  have gS := hw.1.1
  have gC := hw.1.2.2.2.1
  have gR := hw.2.1.1
  have g1 := (hw.1.2.2.1 s hs).1
  have gx := xor_64 g1 hu
  have gw := (hw.1.2.1 _ gx).1
  refine j_iload_n (pc := 0) C dX5_turnedCode_0 rfl 2 rfl ?_
  refine jn_if_ne (pc := 1) C 6 (a := u) (by omega) dX5_turnedCode_1 (by decide) (fun c1 => ?_) (fun c1 => ?_)
  · refine j_aload_n (pc := 6) C dX5_turnedCode_6 rfl 0 rfl ?_
    refine j_getA (pc := 7) C fp_X5_11 ha0 rfl (f := 384) rfl (11, 0) (hG σ (11, 0)) f1 (⟨f1v, rfl⟩ : At _ (11, 0) _) dX5_turnedCode_7 ?_
    refine j_iload_n (pc := 10) C dX5_turnedCode_10 rfl 1 rfl ?_
    refine j_bipush (pc := 11) C (nI 31) dX5_turnedCode_11 (by decide) ?_
    refine j_iand (pc := 13) C dX5_turnedCode_13 ?_
    refine j_topi (nI ((s + 1) &&& 31)) (nx_and (s + 1) 31) ?_
    refine j_topi (nI (s + 1)) (congrArg nI (and31 (by omega))) ?_
    refine j_iald (pc := 14) C (p := s + 1) (M := 32) (⟨f1v, rfl⟩ : At _ (11, 0) _) rfl f1n (by omega) (by decide) dX5_turnedCode_14 ?_
    refine j_topi (nI (fe S s)) (hq.2.1 s hs) ?_
    refine j_iload_n (pc := 15) C dX5_turnedCode_15 rfl 2 rfl ?_
    refine j_ixor (pc := 16) C dX5_turnedCode_16 ?_
    refine j_topi (nI ((fe S s) ^^^ u)) (nx_xor (fe S s) u) ?_
    refine j_istore_n (pc := 17) C [(3, .int (nI ((fe S s) ^^^ u))), (0, .ref a0), (1, .int (nI (s + 1))), (2, .int (nI u))] dX5_turnedCode_17 rfl (by decide) rfl ?_
    refine j_aload_n (pc := 18) C dX5_turnedCode_18 rfl 1 rfl ?_
    refine j_getA (pc := 19) C fp_X5_17 ha0 rfl (f := 385) rfl (11, 1) (hG σ (11, 1)) f2 (⟨f2v, rfl⟩ : At _ (11, 1) _) dX5_turnedCode_19 ?_
    refine j_iload_n (pc := 22) C dX5_turnedCode_22 rfl 0 rfl ?_
    refine j_bipush (pc := 23) C (nI 63) dX5_turnedCode_23 (by decide) ?_
    refine j_iand (pc := 25) C dX5_turnedCode_25 ?_
    refine j_topi (nI (((fe S s) ^^^ u) &&& 63)) (nx_and ((fe S s) ^^^ u) 63) ?_
    refine j_topi (nI (fe S s ^^^ u)) (congrArg nI (and63 gx)) ?_
    refine j_iald (pc := 26) C (p := fe S s ^^^ u) (M := 64) (⟨f2v, rfl⟩ : At _ (11, 1) _) rfl f2n (by first | omega | assumption) (by decide) dX5_turnedCode_26 ?_
    refine j_topi (nI (wi S (fe S s ^^^ u))) (hq.2.2.1 (fe S s ^^^ u) gx) ?_
    refine j_istore (pc := 27) C [(4, .int (nI (wi S (fe S s ^^^ u)))), (3, .int (nI ((fe S s) ^^^ u))), (0, .ref a0), (1, .int (nI (s + 1))), (2, .int (nI u))] dX5_turnedCode_27 (by decide) rfl ?_
    refine j_iload (pc := 29) C dX5_turnedCode_29 0 rfl ?_
    refine jn_if_ne (pc := 31) C 38 (a := wi S (fe S s ^^^ u)) (by omega) dX5_turnedCode_31 (by decide) (fun c2 => ?_) (fun c2 => ?_)
    · refine j_iload (pc := 38) C dX5_turnedCode_38 0 rfl ?_
      refine j_topi (nI (tcod S s u)) (by unfold tcod; rw [if_neg c1, if_neg c2]) ?_
      exact j_ireturn (pc := 40) C Q dX5_turnedCode_40 (Nat.le_of_ble_eq_true rfl) (Nat.le_of_ble_eq_true rfl) (⟨rfl, rfl⟩)
    · refine j_iload_n (pc := 34) C dX5_turnedCode_34 rfl 3 rfl ?_
      refine j_goto (pc := 35) C 40 dX5_turnedCode_35 (by decide) ?_
      refine j_topi (nI (tcod S s u)) (by unfold tcod; rw [if_neg c1, if_pos c2]) ?_
      exact j_ireturn (pc := 40) C Q dX5_turnedCode_40 (Nat.le_of_ble_eq_true rfl) (Nat.le_of_ble_eq_true rfl) (⟨rfl, rfl⟩)
  · refine j_iconst (pc := 4) C (nI 0) dX5_turnedCode_4 (by decide) ?_
    refine j_topi (nI (tcod S s u)) (by unfold tcod; rw [if_pos c1]) ?_
    exact j_ireturn (pc := 5) C Q dX5_turnedCode_5 (Nat.le_of_ble_eq_true rfl) (Nat.le_of_ble_eq_true rfl) (⟨rfl, rfl⟩)
set_option maxHeartbeats 4000000 in
set_option maxRecDepth 100000 in
theorem c_X5_goOver (L9 : Launch) (w9 : Wd) {σ : HS} {S : SP} (hw : WF S) (hp : PH9 S σ) {a0 : Nat} (ha0 : At σ (6, 0) a0) {r b : Nat} (hr : r < nR S) (hb : At σ (7, r) b) {row : List Nat} (hrow : okS S row) : MJ L9 w9 yX5_goOver cX5_goOver 10 (some .long) ({ frames := 1, cells := 0, slots := 0, locals := 24 } : Room) [.ref a0, .long (enc5 row), .ref b] σ (fun a9 σ' => a9 = some (.long (enc5 (gone S r row).1)) ∧ σ' = σ) := by
  refine MJ.of (by decide +kernel) (Nat.le_of_ble_eq_true rfl) (fun X hX1 hX2 C Q hinit => ?_)
  subst hX1; subst hX2
  show J X 0 0 σ [(0, .ref a0), (1, .long (enc5 row)), (3, .ref b)] [] 0
  obtain ⟨hf, hq, hr9⟩ := hp
  have hf0 := hf
  obtain ⟨hp0, ⟨f1, f1v, f1n⟩, ⟨f2, f2v, f2n⟩, f3, ⟨f4, f4v, f4m⟩, ⟨f5, f5v, f5m⟩, f6, f7, ⟨f9, f9v, f9n⟩⟩ := hf
  have gS := hw.1.1
  have gC := hw.1.2.2.2.1
  have gR := hw.2.1.1
  obtain ⟨d1, d2, d3, d4, d5⟩ := hr9.2.2.2.1 r hr
  obtain ⟨t1, t2, t3, t4⟩ := hw.2.1.2.1 r hr
  have hR0 := okS.R hw.1 hrow
  have r8 := hrow.1
  refine j_lconst (pc := 0) C (lN 0) dX5_goOver_0 (by decide) ?_
  refine j_lstore (pc := 1) C [(4, .long (lN 0)), (0, .ref a0), (1, .long (enc5 row)), (3, .ref b)] dX5_goOver_1 (by decide) rfl ?_
  refine j_iconst (pc := 3) C (nI 0) dX5_goOver_3 (by decide) ?_
  refine j_istore (pc := 4) C [(6, .int (nI 0)), (4, .long (lN 0)), (0, .ref a0), (1, .long (enc5 row)), (3, .ref b)] dX5_goOver_4 (by decide) rfl ?_
  refine j_iconst (pc := 6) C (nI 0) dX5_goOver_6 (by decide) ?_
  refine j_istore (pc := 7) C [(7, .int (nI 0)), (6, .int (nI 0)), (4, .long (lN 0)), (0, .ref a0), (1, .long (enc5 row)), (3, .ref b)] dX5_goOver_7 (by decide) rfl ?_
  refine j_iconst (pc := 9) C (nI 0) dX5_goOver_9 (by decide) ?_
  refine j_istore (pc := 10) C [(8, .int (nI 0)), (7, .int (nI 0)), (6, .int (nI 0)), (4, .long (lN 0)), (0, .ref a0), (1, .long (enc5 row)), (3, .ref b)] dX5_goOver_10 (by decide) rfl ?_
  have loop : ∀ (f : Nat) (p : Nat), (p ≤ 8) → (8 < p + f) → J X 0 0 σ [(8, .int (nI p)), (7, .int (nI (cdO (gol S r row p).1.getLast?))), (6, .int (nI ((gol S r row p).1.length))), (4, .long (enc5 (gol S r row p).1)), (0, .ref a0), (1, .long (enc5 row)), (3, .ref b)] [] 12 := by
    intro f
    induction f with
    | zero => intro p h1 h2; exact absurd h2 (by omega)
    | succ f ih =>
      intro p h1 h2
      obtain ⟨q1, q2, q3⟩ := gol_ok hw.1 t2 hrow p
      have hG0 : okR (gol S r row p).1 := ⟨by omega, fun s hs => Nat.lt_of_lt_of_le (q2 s hs) gS⟩
      have hl9 := cdO_le (last_lt q2)
      refine j_iload (pc := 12) C dX5_goOver_12 0 rfl ?_
      refine j_bipush (pc := 14) C (nI 8) dX5_goOver_14 (by decide) ?_
      refine jn_icmp_ge (pc := 16) C 95 (a := p) (b := 8) (by omega) (by omega) dX5_goOver_16 (by decide) (fun c1 => ?_) (fun c1 => ?_)
      · have e9 := gol_end (S := S) (r := r) (row := row) (p := p) (by omega)
        refine j_lload (pc := 95) C dX5_goOver_95 3 rfl ?_
        refine j_topl (enc5 (gone S r row).1) (by rw [e9]) ?_
        exact j_lreturn (pc := 97) C Q dX5_goOver_97 (Nat.le_of_ble_eq_true rfl) (Nat.le_of_ble_eq_true rfl) (⟨rfl, rfl⟩)
      · refine j_lload_n (pc := 19) C dX5_goOver_19 rfl 5 rfl ?_
        refine j_iload (pc := 20) C dX5_goOver_20 0 rfl ?_
        refine j_callS (pc := 22) C [.long (enc5 row), .int (nI p)] [] (rm0 := ({ frames := 1, cells := 0, slots := 0, locals := 24 } : Room)) (k' := 0) (n' := 0) Q.1 (c_X6_codeAt (xl X) (xw X) hR0 (by omega)) mp_X6_codeAt wm_304 rfl rfl (Nat.le_of_ble_eq_true rfl) dX5_goOver_22 ⟨by decide, by decide⟩ ⟨Nat.le_of_ble_eq_true rfl, Nat.le_of_ble_eq_true rfl⟩ rfl rfl (det1 ?_)
        have l1 := cd_lt hR0.2 p
        refine j_istore (pc := 25) C [(9, .int (nI (cd row p))), (8, .int (nI p)), (7, .int (nI (cdO (gol S r row p).1.getLast?))), (6, .int (nI ((gol S r row p).1.length))), (4, .long (enc5 (gol S r row p).1)), (0, .ref a0), (1, .long (enc5 row)), (3, .ref b)] dX5_goOver_25 (by decide) rfl ?_
        refine j_iload (pc := 27) C dX5_goOver_27 0 rfl ?_
        refine jn_if_ne (pc := 29) C 35 (a := cd row p) (by omega) dX5_goOver_29 (by decide) (fun c2 => ?_) (fun c2 => ?_)
        · obtain ⟨s, hs⟩ : ∃ s, row[p]? = some s := by
            cases e : row[p]? with
            | none => exact absurd (by unfold cd; rw [e]; rfl) c2
            | some s => exact ⟨s, rfl⟩
          have hsn := get_lt hrow.2 s hs
          have ec : cd row p = s + 1 := cd_eq hs
          rw [ec]
          have hlp := (List.getElem?_eq_some_iff.mp hs).1
          have l2 := cdO_le (get_lt (p := p + 1) hrow.2)
          show J X 0 0 σ [(9, .int (nI (s + 1))), (8, .int (nI p)), (7, .int (nI (cdO (gol S r row p).1.getLast?))), (6, .int (nI ((gol S r row p).1.length))), (4, .long (enc5 (gol S r row p).1)), (0, .ref a0), (1, .long (enc5 row)), (3, .ref b)] [] 35
          refine j_aload_n (pc := 35) C dX5_goOver_35 rfl 7 rfl ?_
          refine j_iload (pc := 36) C dX5_goOver_36 2 rfl ?_
          refine j_iload (pc := 38) C dX5_goOver_38 0 rfl ?_
          refine j_lload_n (pc := 40) C dX5_goOver_40 rfl 6 rfl ?_
          refine j_iload (pc := 41) C dX5_goOver_41 1 rfl ?_
          refine j_iconst (pc := 43) C (nI 1) dX5_goOver_43 (by decide) ?_
          refine j_iadd (pc := 44) C dX5_goOver_44 ?_
          refine j_topi (nI (p + 1)) (nI_add p 1) ?_
          refine j_callS (pc := 45) C [.long (enc5 row), .int (nI (p + 1))] [.int (nI (s + 1)), .int (nI (cdO (gol S r row p).1.getLast?)), .ref b] (rm0 := ({ frames := 1, cells := 0, slots := 0, locals := 24 } : Room)) (k' := 0) (n' := 0) Q.1 (c_X6_codeAt (xl X) (xw X) hR0 (by omega)) mp_X6_codeAt wm_304 rfl rfl (Nat.le_of_ble_eq_true rfl) dX5_goOver_45 ⟨by decide, by decide⟩ ⟨Nat.le_of_ble_eq_true rfl, Nat.le_of_ble_eq_true rfl⟩ rfl rfl (det1 ?_)
          obtain ⟨b1, v1⟩ := side_code hf0 hq t3 (j := cdO (gol S r row p).1.getLast?) (by omega)
          obtain ⟨b2, v2⟩ := side_code hf0 hq t4 (j := cd row (p + 1)) (by have := cd_lt hR0.2 (p + 1); omega)
          have b3 := (hq.2.2.2.2.1 _ t1).bt (j := s + 1) (by omega)
          have v3 := hq.2.2.2.1.live t1
          refine j_callV (pc := 48) C [.int (nI (cdO (gol S r row p).1.getLast?)), .int (nI (s + 1)), .int (nI (cd row (p + 1)))] [] (rm0 := ({ frames := 1, cells := 0, slots := 0, locals := 24 } : Room)) (k' := 0) (n' := 0) Q.1 (c_X7_meets (xl X) (xw X) hb d2 (by rw [d4]; exact congrArg some (sideT_3 _)) (by rw [d5]; exact congrArg some (sideT_3 _)) v3 v1 v2 (by omega) (by omega) (by have := cd_lt hR0.2 (p + 1); omega)) mp_X7_meets wm_307 hb rfl rfl (Nat.le_of_ble_eq_true rfl) rfl rfl (Nat.le_of_ble_eq_true rfl) dX5_goOver_48 ⟨by decide, by decide⟩ ⟨Nat.le_of_ble_eq_true rfl, Nat.le_of_ble_eq_true rfl⟩ rfl rfl (det1 ?_)
          refine j_topi (bI (met S r (gol S r row p).1.getLast? s row[p + 1]?)) (by rw [b1, b2, b3]; exact congrArg bI (met_code hsn (last_lt q2) (get_lt hrow.2))) ?_
          have gs := gol_succ (S := S) (r := r) (row := row) (k := p) hs
          refine jb_if_eq (pc := 51) C 66 (b := met S r (gol S r row p).1.getLast? s row[p + 1]?) dX5_goOver_51 (by decide) (fun c3 => ?_) (fun c3 => ?_)
          · have e9 : (gol S r row (p + 1)).1 = (gol S r row p).1 ++ [s] := by rw [gs]; rw [if_neg (by rw [c3]; decide)]
            refine j_iload (pc := 66) C dX5_goOver_66 0 rfl ?_
            refine jn_if_eq (pc := 68) C 89 (a := s + 1) (by omega) dX5_goOver_68 (by decide) (fun c0 => (absurd c0 (by omega) : False).elim) (fun c0 => ?_)
            refine j_lload (pc := 71) C dX5_goOver_71 4 rfl ?_
            refine j_iload (pc := 73) C dX5_goOver_73 3 rfl ?_
            refine j_iload (pc := 75) C dX5_goOver_75 0 rfl ?_
            refine j_callS (pc := 77) C [.long (enc5 (gol S r row p).1), .int (nI ((gol S r row p).1.length)), .int (nI (s + 1))] [] (rm0 := ({ frames := 1, cells := 0, slots := 0, locals := 24 } : Room)) (k' := 0) (n' := 0) Q.1 (c_X6_with (xl X) (xw X) hG0 (s := s) (by omega) (by omega)) mp_X6_with wm_315 rfl rfl (Nat.le_of_ble_eq_true rfl) dX5_goOver_77 ⟨by decide, by decide⟩ ⟨Nat.le_of_ble_eq_true rfl, Nat.le_of_ble_eq_true rfl⟩ rfl rfl (det1 ?_)
            refine j_lstore (pc := 80) C [(4, .long (enc5 ((gol S r row p).1 ++ [s]))), (9, .int (nI (s + 1))), (8, .int (nI p)), (7, .int (nI (cdO (gol S r row p).1.getLast?))), (6, .int (nI ((gol S r row p).1.length))), (0, .ref a0), (1, .long (enc5 row)), (3, .ref b)] dX5_goOver_80 (by decide) rfl ?_
            refine j_iinc (pc := 82) C (nI ((gol S r row p).1.length + 1)) [(6, .int (nI ((gol S r row p).1.length + 1))), (4, .long (enc5 ((gol S r row p).1 ++ [s]))), (9, .int (nI (s + 1))), (8, .int (nI p)), (7, .int (nI (cdO (gol S r row p).1.getLast?))), (0, .ref a0), (1, .long (enc5 row)), (3, .ref b)] dX5_goOver_82 4 rfl (nI_add ((gol S r row p).1.length) 1) (by decide) rfl ?_
            refine j_iload (pc := 85) C dX5_goOver_85 2 rfl ?_
            refine j_istore (pc := 87) C [(7, .int (nI (s + 1))), (6, .int (nI ((gol S r row p).1.length + 1))), (4, .long (enc5 ((gol S r row p).1 ++ [s]))), (9, .int (nI (s + 1))), (8, .int (nI p)), (0, .ref a0), (1, .long (enc5 row)), (3, .ref b)] dX5_goOver_87 (by decide) rfl ?_
            refine j_iinc (pc := 89) C (nI (p + 1)) [(8, .int (nI (p + 1))), (7, .int (nI (s + 1))), (6, .int (nI ((gol S r row p).1.length + 1))), (4, .long (enc5 ((gol S r row p).1 ++ [s]))), (9, .int (nI (s + 1))), (0, .ref a0), (1, .long (enc5 row)), (3, .ref b)] dX5_goOver_89 4 rfl (nI_add p 1) (by decide) rfl ?_
            refine j_goto (pc := 92) C 12 dX5_goOver_92 (by decide) ?_
            have l0 := ih (p + 1) (by omega) (by omega)
            rw [e9, last_app, List.length_append, List.length_singleton] at l0
            exact J.to [0, 1, 2, 3, 5, 6, 7] rfl l0
          · rw [if_pos c3] at gs
            refine j_aload_n (pc := 54) C dX5_goOver_54 rfl 5 rfl ?_
            refine j_iload (pc := 55) C dX5_goOver_55 0 rfl ?_
            refine j_aload_n (pc := 57) C dX5_goOver_57 rfl 7 rfl ?_
            refine j_getI (pc := 58) C fp_X5_107 hb rfl (f := 450) rfl dX5_goOver_58 ?_
            refine j_topi (nI (tu S r)) d3 ?_
            refine j_callV (pc := 61) C [.int (nI (s + 1)), .int (nI (tu S r))] [] (rm0 := ({ frames := 1, cells := 0, slots := 0, locals := 24 } : Room)) (k' := 0) (n' := 0) Q.1 (c_X5_turnedCode (xl X) (xw X) hw ⟨hf0, hq, hr9⟩ ha0 hsn t2) mp_X5_turnedCode wm_311 ha0 rfl rfl (by decide) rfl rfl (Nat.le_of_ble_eq_true rfl) dX5_goOver_61 ⟨by decide, by decide⟩ ⟨Nat.le_of_ble_eq_true rfl, Nat.le_of_ble_eq_true rfl⟩ rfl rfl (det1 ?_)
            have g1 := (hw.1.2.2.1 s hsn).1
            have gx := xor_64 g1 t2
            have gw := (hw.1.2.1 _ gx).1
            by_cases k1 : tu S r = 0
            · refine j_topi (nI 0) (by unfold tcod; rw [if_pos k1]) ?_
              have e9 : (gol S r row (p + 1)).1 = (gol S r row p).1 := by rw [gs]; rw [if_pos k1]
              refine j_istore (pc := 64) C [(9, .int (nI 0)), (8, .int (nI p)), (7, .int (nI (cdO (gol S r row p).1.getLast?))), (6, .int (nI ((gol S r row p).1.length))), (4, .long (enc5 (gol S r row p).1)), (0, .ref a0), (1, .long (enc5 row)), (3, .ref b)] dX5_goOver_64 (by decide) rfl ?_
              refine j_iload (pc := 66) C dX5_goOver_66 0 rfl ?_
              refine j_if_eq (pc := 68) C 89 dX5_goOver_68 (by decide) (fun _ => ?_) (fun q => absurd q (by decide))
              refine j_iinc (pc := 89) C (nI (p + 1)) [(8, .int (nI (p + 1))), (9, .int (nI 0)), (7, .int (nI (cdO (gol S r row p).1.getLast?))), (6, .int (nI ((gol S r row p).1.length))), (4, .long (enc5 (gol S r row p).1)), (0, .ref a0), (1, .long (enc5 row)), (3, .ref b)] dX5_goOver_89 1 rfl (nI_add p 1) (by decide) rfl ?_
              refine j_goto (pc := 92) C 12 dX5_goOver_92 (by decide) ?_
              have l0 := ih (p + 1) (by omega) (by omega)
              rw [e9] at l0
              exact J.to [0, 2, 3, 4, 5, 6, 7] rfl l0
            · by_cases k2 : wi S (fe S s ^^^ tu S r) = 0
              · refine j_topi (nI (s + 1)) (by unfold tcod; rw [if_neg k1, if_pos k2]) ?_
                have e9 : (gol S r row (p + 1)).1 = (gol S r row p).1 ++ [s] := by rw [gs]; rw [if_neg k1, if_pos k2]
                refine j_istore (pc := 64) C [(9, .int (nI (s + 1))), (8, .int (nI p)), (7, .int (nI (cdO (gol S r row p).1.getLast?))), (6, .int (nI ((gol S r row p).1.length))), (4, .long (enc5 (gol S r row p).1)), (0, .ref a0), (1, .long (enc5 row)), (3, .ref b)] dX5_goOver_64 (by decide) rfl ?_
                refine j_iload (pc := 66) C dX5_goOver_66 0 rfl ?_
                refine jn_if_eq (pc := 68) C 89 (a := s + 1) (by omega) dX5_goOver_68 (by decide) (fun c0 => (absurd c0 (by omega) : False).elim) (fun c0 => ?_)
                refine j_lload (pc := 71) C dX5_goOver_71 4 rfl ?_
                refine j_iload (pc := 73) C dX5_goOver_73 3 rfl ?_
                refine j_iload (pc := 75) C dX5_goOver_75 0 rfl ?_
                refine j_callS (pc := 77) C [.long (enc5 (gol S r row p).1), .int (nI ((gol S r row p).1.length)), .int (nI (s + 1))] [] (rm0 := ({ frames := 1, cells := 0, slots := 0, locals := 24 } : Room)) (k' := 0) (n' := 0) Q.1 (c_X6_with (xl X) (xw X) hG0 (s := s) (by omega) (by omega)) mp_X6_with wm_315 rfl rfl (Nat.le_of_ble_eq_true rfl) dX5_goOver_77 ⟨by decide, by decide⟩ ⟨Nat.le_of_ble_eq_true rfl, Nat.le_of_ble_eq_true rfl⟩ rfl rfl (det1 ?_)
                refine j_lstore (pc := 80) C [(4, .long (enc5 ((gol S r row p).1 ++ [s]))), (9, .int (nI (s + 1))), (8, .int (nI p)), (7, .int (nI (cdO (gol S r row p).1.getLast?))), (6, .int (nI ((gol S r row p).1.length))), (0, .ref a0), (1, .long (enc5 row)), (3, .ref b)] dX5_goOver_80 (by decide) rfl ?_
                refine j_iinc (pc := 82) C (nI ((gol S r row p).1.length + 1)) [(6, .int (nI ((gol S r row p).1.length + 1))), (4, .long (enc5 ((gol S r row p).1 ++ [s]))), (9, .int (nI (s + 1))), (8, .int (nI p)), (7, .int (nI (cdO (gol S r row p).1.getLast?))), (0, .ref a0), (1, .long (enc5 row)), (3, .ref b)] dX5_goOver_82 4 rfl (nI_add ((gol S r row p).1.length) 1) (by decide) rfl ?_
                refine j_iload (pc := 85) C dX5_goOver_85 2 rfl ?_
                refine j_istore (pc := 87) C [(7, .int (nI (s + 1))), (6, .int (nI ((gol S r row p).1.length + 1))), (4, .long (enc5 ((gol S r row p).1 ++ [s]))), (9, .int (nI (s + 1))), (8, .int (nI p)), (0, .ref a0), (1, .long (enc5 row)), (3, .ref b)] dX5_goOver_87 (by decide) rfl ?_
                refine j_iinc (pc := 89) C (nI (p + 1)) [(8, .int (nI (p + 1))), (7, .int (nI (s + 1))), (6, .int (nI ((gol S r row p).1.length + 1))), (4, .long (enc5 ((gol S r row p).1 ++ [s]))), (9, .int (nI (s + 1))), (0, .ref a0), (1, .long (enc5 row)), (3, .ref b)] dX5_goOver_89 4 rfl (nI_add p 1) (by decide) rfl ?_
                refine j_goto (pc := 92) C 12 dX5_goOver_92 (by decide) ?_
                have l0 := ih (p + 1) (by omega) (by omega)
                rw [e9, last_app, List.length_append, List.length_singleton] at l0
                exact J.to [0, 1, 2, 3, 5, 6, 7] rfl l0
              · obtain ⟨v, hv⟩ : ∃ v, wi S (fe S s ^^^ tu S r) = v + 1 := ⟨_, (Nat.succ_pred_eq_of_ne_zero k2).symm⟩
                refine j_topi (nI (v + 1)) (by unfold tcod; rw [if_neg k1, if_neg k2, hv]) ?_
                have e9 : (gol S r row (p + 1)).1 = (gol S r row p).1 ++ [v] := by rw [gs]; rw [if_neg k1, if_neg k2, hv, Nat.add_sub_cancel]
                refine j_istore (pc := 64) C [(9, .int (nI (v + 1))), (8, .int (nI p)), (7, .int (nI (cdO (gol S r row p).1.getLast?))), (6, .int (nI ((gol S r row p).1.length))), (4, .long (enc5 (gol S r row p).1)), (0, .ref a0), (1, .long (enc5 row)), (3, .ref b)] dX5_goOver_64 (by decide) rfl ?_
                refine j_iload (pc := 66) C dX5_goOver_66 0 rfl ?_
                refine jn_if_eq (pc := 68) C 89 (a := v + 1) (by omega) dX5_goOver_68 (by decide) (fun c0 => (absurd c0 (by omega) : False).elim) (fun c0 => ?_)
                refine j_lload (pc := 71) C dX5_goOver_71 4 rfl ?_
                refine j_iload (pc := 73) C dX5_goOver_73 3 rfl ?_
                refine j_iload (pc := 75) C dX5_goOver_75 0 rfl ?_
                refine j_callS (pc := 77) C [.long (enc5 (gol S r row p).1), .int (nI ((gol S r row p).1.length)), .int (nI (v + 1))] [] (rm0 := ({ frames := 1, cells := 0, slots := 0, locals := 24 } : Room)) (k' := 0) (n' := 0) Q.1 (c_X6_with (xl X) (xw X) hG0 (s := v) (by omega) (by omega)) mp_X6_with wm_315 rfl rfl (Nat.le_of_ble_eq_true rfl) dX5_goOver_77 ⟨by decide, by decide⟩ ⟨Nat.le_of_ble_eq_true rfl, Nat.le_of_ble_eq_true rfl⟩ rfl rfl (det1 ?_)
                refine j_lstore (pc := 80) C [(4, .long (enc5 ((gol S r row p).1 ++ [v]))), (9, .int (nI (v + 1))), (8, .int (nI p)), (7, .int (nI (cdO (gol S r row p).1.getLast?))), (6, .int (nI ((gol S r row p).1.length))), (0, .ref a0), (1, .long (enc5 row)), (3, .ref b)] dX5_goOver_80 (by decide) rfl ?_
                refine j_iinc (pc := 82) C (nI ((gol S r row p).1.length + 1)) [(6, .int (nI ((gol S r row p).1.length + 1))), (4, .long (enc5 ((gol S r row p).1 ++ [v]))), (9, .int (nI (v + 1))), (8, .int (nI p)), (7, .int (nI (cdO (gol S r row p).1.getLast?))), (0, .ref a0), (1, .long (enc5 row)), (3, .ref b)] dX5_goOver_82 4 rfl (nI_add ((gol S r row p).1.length) 1) (by decide) rfl ?_
                refine j_iload (pc := 85) C dX5_goOver_85 2 rfl ?_
                refine j_istore (pc := 87) C [(7, .int (nI (v + 1))), (6, .int (nI ((gol S r row p).1.length + 1))), (4, .long (enc5 ((gol S r row p).1 ++ [v]))), (9, .int (nI (v + 1))), (8, .int (nI p)), (0, .ref a0), (1, .long (enc5 row)), (3, .ref b)] dX5_goOver_87 (by decide) rfl ?_
                refine j_iinc (pc := 89) C (nI (p + 1)) [(8, .int (nI (p + 1))), (7, .int (nI (v + 1))), (6, .int (nI ((gol S r row p).1.length + 1))), (4, .long (enc5 ((gol S r row p).1 ++ [v]))), (9, .int (nI (v + 1))), (0, .ref a0), (1, .long (enc5 row)), (3, .ref b)] dX5_goOver_89 4 rfl (nI_add p 1) (by decide) rfl ?_
                refine j_goto (pc := 92) C 12 dX5_goOver_92 (by decide) ?_
                have l0 := ih (p + 1) (by omega) (by omega)
                rw [e9, last_app, List.length_append, List.length_singleton] at l0
                exact J.to [0, 1, 2, 3, 5, 6, 7] rfl l0
        · have hle : row.length ≤ p := by
            rcases Nat.lt_or_ge p row.length with q | q
            · exact absurd (cd_pos q) (by omega)
            · exact q
          have e9 := gol_end (S := S) (r := r) (row := row) (p := p) hle
          refine j_goto (pc := 32) C 95 dX5_goOver_32 (by decide) ?_
          refine j_lload (pc := 95) C dX5_goOver_95 4 rfl ?_
          refine j_topl (enc5 (gone S r row).1) (by rw [e9]) ?_
          exact j_lreturn (pc := 97) C Q dX5_goOver_97 (Nat.le_of_ble_eq_true rfl) (Nat.le_of_ble_eq_true rfl) (⟨rfl, rfl⟩)
  exact J.to [0, 1, 2, 3, 4, 5, 6] rfl (loop 9 0 (Nat.zero_le _) (by omega))
set_option maxHeartbeats 4000000 in
set_option maxRecDepth 100000 in
theorem c_X5_derive (L9 : Launch) (w9 : Wd) {σ : HS} {S : SP} (hw : WF S) (hp : PH9 S σ) {a0 : Nat} (ha0 : At σ (6, 0) a0) {row : List Nat} (hrow : okS S row) {set : Nat} (hset : set < 2 ^ 31) : MJ L9 w9 yX5_derive cX5_derive 8 (some .long) ({ frames := 3, cells := 0, slots := 0, locals := 64 } : Room) [.ref a0, .long (enc5 row), .int (nI set)] σ (fun a9 σ' => a9 = some (.long (enc5 (der S set row))) ∧ σ' = σ) := by
  refine MJ.of (by decide +kernel) (Nat.le_of_ble_eq_true rfl) (fun X hX1 hX2 C Q hinit => ?_)
  subst hX1; subst hX2
  show J X 0 0 σ [(0, .ref a0), (1, .long (enc5 row)), (3, .int (nI set))] [] 0
  obtain ⟨hf, hq, hr9⟩ := hp
  have hf0 := hf
  obtain ⟨hp0, ⟨f1, f1v, f1n⟩, ⟨f2, f2v, f2n⟩, f3, ⟨f4, f4v, f4m⟩, ⟨f5, f5v, f5m⟩, f6, f7, ⟨f9, f9v, f9n⟩⟩ := hf
  have gS := hw.1.1
  have gC := hw.1.2.2.2.1
  have gR := hw.2.1.1
  refine j_lload_n (pc := 0) C dX5_derive_0 rfl 1 rfl ?_
  refine j_lstore (pc := 1) C [(4, .long (enc5 row)), (0, .ref a0), (1, .long (enc5 row)), (3, .int (nI set))] dX5_derive_1 (by decide) rfl ?_
  refine j_iconst (pc := 3) C (nI 0) dX5_derive_3 (by decide) ?_
  refine j_istore (pc := 4) C [(6, .int (nI 0)), (4, .long (enc5 row)), (0, .ref a0), (1, .long (enc5 row)), (3, .int (nI set))] dX5_derive_4 (by decide) rfl ?_
  have loop : ∀ (f : Nat) (p : Nat), (p ≤ nR S) → (nR S < p + f) → J X 0 0 σ [(6, .int (nI p)), (4, .long (enc5 (derP S set row p))), (0, .ref a0), (3, .int (nI set))] [] 6 := by
    intro f
    induction f with
    | zero => intro p h1 h2; exact absurd h2 (by omega)
    | succ f ih =>
      intro p h1 h2
      refine j_iload (pc := 6) C dX5_derive_6 0 rfl ?_
      refine j_aload_n (pc := 8) C dX5_derive_8 rfl 2 rfl ?_
      refine j_getA (pc := 9) C fp_X5_42 ha0 rfl (f := 391) rfl (0, 2) (hG σ (0, 2)) f7 (⟨hr9.2.2.1.self, rfl⟩ : At _ (0, 2) _) dX5_derive_9 ?_
      refine j_callV (pc := 12) C [] [.int (nI p)] (rm0 := ({ frames := 3, cells := 0, slots := 0, locals := 64 } : Room)) (k' := 0) (n' := 0) Q.1 (k_size (xl X) (xw X) hr9.2.2.1 (⟨hr9.2.2.1.self, rfl⟩ : At _ (0, 2) _)) mp_Jx4a65c_size_8abf5 wm_238 (⟨hr9.2.2.1.self, rfl⟩ : At _ (0, 2) _) rfl rfl (by decide) rfl rfl (Nat.le_of_ble_eq_true rfl) dX5_derive_12 ⟨by decide, by decide⟩ ⟨Nat.le_of_ble_eq_true rfl, Nat.le_of_ble_eq_true rfl⟩ rfl rfl (det1 ?_)
      refine jn_icmp_ge (pc := 15) C 57 (a := p) (b := nR S) (by omega) (by omega) dX5_derive_15 (by decide) (fun c1 => ?_) (fun c1 => ?_)
      · have e9 : p = nR S := Nat.le_antisymm h1 c1
        refine j_lload (pc := 57) C dX5_derive_57 1 rfl ?_
        refine j_topl (enc5 (der S set row)) (by rw [e9]; rfl) ?_
        exact j_lreturn (pc := 59) C Q dX5_derive_59 (Nat.le_of_ble_eq_true rfl) (Nat.le_of_ble_eq_true rfl) (⟨rfl, rfl⟩)
      · have ho := hw.2.1.2.2.1 p c1
        have hd := (hr9.2.2.2.1 _ ho).1
        have hk := derP_ok hw (set := set) hrow p h1
        refine j_aload_n (pc := 18) C dX5_derive_18 rfl 2 rfl ?_
        refine j_getA (pc := 19) C fp_X5_42 ha0 rfl (f := 391) rfl (0, 2) (hG σ (0, 2)) f7 (⟨hr9.2.2.1.self, rfl⟩ : At _ (0, 2) _) dX5_derive_19 ?_
        refine j_iload (pc := 22) C dX5_derive_22 0 rfl ?_
        refine j_callV (pc := 24) C [.int (nI p)] [] (rm0 := ({ frames := 3, cells := 0, slots := 0, locals := 64 } : Room)) (k' := 0) (n' := 0) Q.1 (k_get (xl X) (xw X) hr9.2.2.1 c1 (⟨hr9.2.2.1.self, rfl⟩ : At _ (0, 2) _)) mp_Jx4a65c_get_915e3 wm_294 (⟨hr9.2.2.1.self, rfl⟩ : At _ (0, 2) _) rfl rfl (by decide) rfl rfl (Nat.le_of_ble_eq_true rfl) dX5_derive_24 ⟨by decide, by decide⟩ ⟨Nat.le_of_ble_eq_true rfl, Nat.le_of_ble_eq_true rfl⟩ rfl rfl (det1 ?_)
        refine j_cast (pc := 27) C cp_X5_80 (⟨hr9.2.2.1.live c1, rfl⟩ : At _ (7, orr S p) _) dX5_derive_27 ?_
        refine j_astore (pc := 30) C [(7, .ref (hG σ (7, orr S p))), (6, .int (nI p)), (4, .long (enc5 (derP S set row p))), (0, .ref a0), (3, .int (nI set))] dX5_derive_30 (by decide) rfl ?_
        refine j_aload (pc := 32) C dX5_derive_32 0 rfl ?_
        refine j_iload_n (pc := 34) C dX5_derive_34 rfl 4 rfl ?_
        refine j_callV (pc := 35) C [.int (nI set)] [] (rm0 := ({ frames := 3, cells := 0, slots := 0, locals := 64 } : Room)) (k' := 0) (n' := 0) Q.1 (c_X7_isIn (xl X) (xw X) ⟨hr9.2.2.1.live c1, rfl⟩ hd (by omega) hset) mp_X7_isIn wm_717 (⟨hr9.2.2.1.live c1, rfl⟩ : At _ (7, orr S p) _) rfl rfl (Nat.le_of_ble_eq_true rfl) rfl rfl (Nat.le_of_ble_eq_true rfl) dX5_derive_35 ⟨by decide, by decide⟩ ⟨Nat.le_of_ble_eq_true rfl, Nat.le_of_ble_eq_true rfl⟩ rfl rfl (det1 ?_)
        refine jb_if_eq (pc := 38) C 51 (b := set.testBit (orr S p)) dX5_derive_38 (by decide) (fun c2 => ?_) (fun c2 => ?_)
        · refine j_iinc (pc := 51) C (nI (p + 1)) [(6, .int (nI (p + 1))), (7, .ref (hG σ (7, orr S p))), (4, .long (enc5 (derP S set row p))), (0, .ref a0), (3, .int (nI set))] dX5_derive_51 1 rfl (nI_add p 1) (by decide) rfl ?_
          refine j_goto (pc := 54) C 6 dX5_derive_54 (by decide) ?_
          have l0 := ih (p + 1) (by omega) (by omega)
          rw [derP_f c2] at l0
          exact J.to [0, 2, 3, 4] rfl l0
        · refine j_aload_n (pc := 41) C dX5_derive_41 rfl 3 rfl ?_
          refine j_lload (pc := 42) C dX5_derive_42 2 rfl ?_
          refine j_aload (pc := 44) C dX5_derive_44 0 rfl ?_
          refine j_callV (pc := 46) C [.long (enc5 (derP S set row p)), .ref (hG σ (7, orr S p))] [] (rm0 := ({ frames := 3, cells := 0, slots := 0, locals := 64 } : Room)) (k' := 0) (n' := 0) Q.1 (c_X5_goOver (xl X) (xw X) hw ⟨hf0, hq, hr9⟩ ha0 ho ⟨hr9.2.2.1.live c1, rfl⟩ hk) mp_X5_goOver wm_300 ha0 rfl rfl (by decide) rfl rfl (Nat.le_of_ble_eq_true rfl) dX5_derive_46 ⟨by decide, by decide⟩ ⟨Nat.le_of_ble_eq_true rfl, Nat.le_of_ble_eq_true rfl⟩ rfl rfl (det1 ?_)
          refine j_lstore (pc := 49) C [(4, .long (enc5 (gone S (orr S p) (derP S set row p)).1)), (7, .ref (hG σ (7, orr S p))), (6, .int (nI p)), (0, .ref a0), (3, .int (nI set))] dX5_derive_49 (by decide) rfl ?_
          refine j_iinc (pc := 51) C (nI (p + 1)) [(6, .int (nI (p + 1))), (4, .long (enc5 (gone S (orr S p) (derP S set row p)).1)), (7, .ref (hG σ (7, orr S p))), (0, .ref a0), (3, .int (nI set))] dX5_derive_51 2 rfl (nI_add p 1) (by decide) rfl ?_
          refine j_goto (pc := 54) C 6 dX5_derive_54 (by decide) ?_
          have l0 := ih (p + 1) (by omega) (by omega)
          rw [derP_t c2] at l0
          exact J.to [0, 1, 3, 4] rfl l0
  exact J.to [0, 1, 2, 4] rfl (loop (nR S + 1) 0 (Nat.zero_le _) (by omega))
set_option maxHeartbeats 4000000 in
set_option maxRecDepth 100000 in
theorem c_X5_changesBy (L9 : Launch) (w9 : Wd) {σ : HS} {S : SP} (hw : WF S) (hp : PH9 S σ) {a0 : Nat} (ha0 : At σ (6, 0) a0) {r b : Nat} (hr : r < nR S) (hb : At σ (7, r) b) {row : List Nat} (hrow : okS S row) : MJ L9 w9 yX5_changesBy cX5_changesBy 10 (some .int) ({ frames := 3, cells := 0, slots := 0, locals := 64 } : Room) [.ref a0, .ref b, .long (enc5 row)] σ (fun a9 σ' => a9 = some (.int (nI (stepR S row r))) ∧ σ' = σ) := by
  refine MJ.of (by decide +kernel) (Nat.le_of_ble_eq_true rfl) (fun X hX1 hX2 C Q hinit => ?_)
  subst hX1; subst hX2
  show J X 0 0 σ [(0, .ref a0), (1, .ref b), (2, .long (enc5 row))] [] 0
  obtain ⟨hf, hq, hr9⟩ := hp
  have hf0 := hf
  obtain ⟨hp0, ⟨f1, f1v, f1n⟩, ⟨f2, f2v, f2n⟩, f3, ⟨f4, f4v, f4m⟩, ⟨f5, f5v, f5m⟩, f6, f7, ⟨f9, f9v, f9n⟩⟩ := hf
  have gS := hw.1.1
  have gC := hw.1.2.2.2.1
  have gR := hw.2.1.1
  obtain ⟨p1, p2, p3⟩ := pos_spec hw hr
  have g5 := hw.2.1.2.2.2.2
  have g6 : 2 ^ nR S ≤ 2 ^ 6 := Nat.pow_le_pow_right (by decide) gR
  refine j_lload_n (pc := 0) C dX5_changesBy_0 rfl 2 rfl ?_
  refine j_lstore (pc := 1) C [(4, .long (enc5 row)), (0, .ref a0), (1, .ref b), (2, .long (enc5 row))] dX5_changesBy_1 (by decide) rfl ?_
  refine j_iconst (pc := 3) C (nI 0) dX5_changesBy_3 (by decide) ?_
  refine j_istore (pc := 4) C [(6, .int (nI 0)), (4, .long (enc5 row)), (0, .ref a0), (1, .ref b), (2, .long (enc5 row))] dX5_changesBy_4 (by decide) rfl ?_
  have loop : ∀ (f : Nat) (p : Nat), (p ≤ nR S) → (nR S < p + f) → ((on9 S).testBit r = true → p ≤ pos9 S r) → J X 0 0 σ [(6, .int (nI p)), (4, .long (enc5 (derP S (on9 S) row p))), (0, .ref a0), (1, .ref b)] [] 6 := by
    intro f
    induction f with
    | zero => intro p h1 h2 h3; exact absurd h2 (by omega)
    | succ f ih =>
      intro p h1 h2 h3
      refine j_iload (pc := 6) C dX5_changesBy_6 0 rfl ?_
      refine j_aload_n (pc := 8) C dX5_changesBy_8 rfl 2 rfl ?_
      refine j_getA (pc := 9) C fp_X5_42 ha0 rfl (f := 391) rfl (0, 2) (hG σ (0, 2)) f7 (⟨hr9.2.2.1.self, rfl⟩ : At _ (0, 2) _) dX5_changesBy_9 ?_
      refine j_callV (pc := 12) C [] [.int (nI p)] (rm0 := ({ frames := 3, cells := 0, slots := 0, locals := 64 } : Room)) (k' := 0) (n' := 0) Q.1 (k_size (xl X) (xw X) hr9.2.2.1 (⟨hr9.2.2.1.self, rfl⟩ : At _ (0, 2) _)) mp_Jx4a65c_size_8abf5 wm_238 (⟨hr9.2.2.1.self, rfl⟩ : At _ (0, 2) _) rfl rfl (by decide) rfl rfl (Nat.le_of_ble_eq_true rfl) dX5_changesBy_12 ⟨by decide, by decide⟩ ⟨Nat.le_of_ble_eq_true rfl, Nat.le_of_ble_eq_true rfl⟩ rfl rfl (det1 ?_)
      refine jn_icmp_ge (pc := 15) C 78 (a := p) (b := nR S) (by omega) (by omega) dX5_changesBy_15 (by decide) (fun c1 => ?_) (fun c1 => ?_)
      · refine j_iconst (pc := 78) C (nI 0) dX5_changesBy_78 (by decide) ?_
        refine j_topi (nI (stepR S row r)) (by unfold stepR; rw [if_neg (fun z => absurd (h3 z) (by omega))]) ?_
        exact j_ireturn (pc := 79) C Q dX5_changesBy_79 (Nat.le_of_ble_eq_true rfl) (Nat.le_of_ble_eq_true rfl) (⟨rfl, rfl⟩)
      · have ho := hw.2.1.2.2.1 p c1
        have hd := (hr9.2.2.2.1 _ ho).1
        have hk := derP_ok hw (set := on9 S) hrow p h1
        refine j_aload_n (pc := 18) C dX5_changesBy_18 rfl 2 rfl ?_
        refine j_getA (pc := 19) C fp_X5_42 ha0 rfl (f := 391) rfl (0, 2) (hG σ (0, 2)) f7 (⟨hr9.2.2.1.self, rfl⟩ : At _ (0, 2) _) dX5_changesBy_19 ?_
        refine j_iload (pc := 22) C dX5_changesBy_22 0 rfl ?_
        refine j_callV (pc := 24) C [.int (nI p)] [] (rm0 := ({ frames := 3, cells := 0, slots := 0, locals := 64 } : Room)) (k' := 0) (n' := 0) Q.1 (k_get (xl X) (xw X) hr9.2.2.1 c1 (⟨hr9.2.2.1.self, rfl⟩ : At _ (0, 2) _)) mp_Jx4a65c_get_915e3 wm_294 (⟨hr9.2.2.1.self, rfl⟩ : At _ (0, 2) _) rfl rfl (by decide) rfl rfl (Nat.le_of_ble_eq_true rfl) dX5_changesBy_24 ⟨by decide, by decide⟩ ⟨Nat.le_of_ble_eq_true rfl, Nat.le_of_ble_eq_true rfl⟩ rfl rfl (det1 ?_)
        refine j_cast (pc := 27) C cp_X5_80 (⟨hr9.2.2.1.live c1, rfl⟩ : At _ (7, orr S p) _) dX5_changesBy_27 ?_
        refine j_astore (pc := 30) C [(7, .ref (hG σ (7, orr S p))), (6, .int (nI p)), (4, .long (enc5 (derP S (on9 S) row p))), (0, .ref a0), (1, .ref b)] dX5_changesBy_30 (by decide) rfl ?_
        refine j_aload (pc := 32) C dX5_changesBy_32 0 rfl ?_
        refine j_aload_n (pc := 34) C dX5_changesBy_34 rfl 3 rfl ?_
        refine j_getI (pc := 35) C fp_X5_57 ha0 rfl (f := 392) rfl dX5_changesBy_35 ?_
        refine j_topi (nI (on9 S)) hr9.1 ?_
        refine j_callV (pc := 38) C [.int (nI (on9 S))] [] (rm0 := ({ frames := 3, cells := 0, slots := 0, locals := 64 } : Room)) (k' := 0) (n' := 0) Q.1 (c_X7_isIn (xl X) (xw X) ⟨hr9.2.2.1.live c1, rfl⟩ hd (by omega) (by omega)) mp_X7_isIn wm_717 (⟨hr9.2.2.1.live c1, rfl⟩ : At _ (7, orr S p) _) rfl rfl (Nat.le_of_ble_eq_true rfl) rfl rfl (Nat.le_of_ble_eq_true rfl) dX5_changesBy_38 ⟨by decide, by decide⟩ ⟨Nat.le_of_ble_eq_true rfl, Nat.le_of_ble_eq_true rfl⟩ rfl rfl (det1 ?_)
        refine jb_if_eq (pc := 41) C 72 (b := (on9 S).testBit (orr S p)) dX5_changesBy_41 (by decide) (fun c2 => ?_) (fun c2 => ?_)
        · by_cases hne : orr S p = r
          · rw [hne] at c2
            have c5 := c2
            refine j_iinc (pc := 72) C (nI (p + 1)) [(6, .int (nI (p + 1))), (7, .ref (hG σ (7, orr S p))), (4, .long (enc5 (derP S (on9 S) row p))), (0, .ref a0), (1, .ref b)] dX5_changesBy_72 1 rfl (nI_add p 1) (by decide) rfl ?_
            refine j_goto (pc := 75) C 6 dX5_changesBy_75 (by decide) ?_
            have l0 := ih (p + 1) (by omega) (by omega) (fun z => absurd (c5.symm.trans z) (by decide))
            rw [derP_f (by rw [hne]; exact c2)] at l0
            exact J.to [0, 2, 3, 4] rfl l0
          · refine j_iinc (pc := 72) C (nI (p + 1)) [(6, .int (nI (p + 1))), (7, .ref (hG σ (7, orr S p))), (4, .long (enc5 (derP S (on9 S) row p))), (0, .ref a0), (1, .ref b)] dX5_changesBy_72 1 rfl (nI_add p 1) (by decide) rfl ?_
            refine j_goto (pc := 75) C 6 dX5_changesBy_75 (by decide) ?_
            have l0 := ih (p + 1) (by omega) (by omega) (fun z => by
              have := h3 z
              rcases Nat.lt_or_ge p (pos9 S r) with q | q
              · exact q
              · exact absurd (by rw [Nat.le_antisymm this q]; exact p2) hne)
            rw [derP_f c2] at l0
            exact J.to [0, 2, 3, 4] rfl l0
        · have hg := gone_ch hw.1 (hw.2.1.2.1 _ ho).2.1 hk
          have hk2 := gone_ok hw.1 (hw.2.1.2.1 _ ho).2.1 hk
          refine j_aload_n (pc := 44) C dX5_changesBy_44 rfl 3 rfl ?_
          refine j_lload (pc := 45) C dX5_changesBy_45 2 rfl ?_
          refine j_aload (pc := 47) C dX5_changesBy_47 0 rfl ?_
          refine j_callV (pc := 49) C [.long (enc5 (derP S (on9 S) row p)), .ref (hG σ (7, orr S p))] [] (rm0 := ({ frames := 3, cells := 0, slots := 0, locals := 64 } : Room)) (k' := 0) (n' := 0) Q.1 (c_X5_goOver (xl X) (xw X) hw ⟨hf0, hq, hr9⟩ ha0 ho ⟨hr9.2.2.1.live c1, rfl⟩ hk) mp_X5_goOver wm_300 ha0 rfl rfl (by decide) rfl rfl (Nat.le_of_ble_eq_true rfl) dX5_changesBy_49 ⟨by decide, by decide⟩ ⟨Nat.le_of_ble_eq_true rfl, Nat.le_of_ble_eq_true rfl⟩ rfl rfl (det1 ?_)
          refine j_lstore (pc := 52) C [(8, .long (enc5 (gone S (orr S p) (derP S (on9 S) row p)).1)), (7, .ref (hG σ (7, orr S p))), (6, .int (nI p)), (4, .long (enc5 (derP S (on9 S) row p))), (0, .ref a0), (1, .ref b)] dX5_changesBy_52 (by decide) rfl ?_
          refine j_aload (pc := 54) C dX5_changesBy_54 1 rfl ?_
          refine j_aload_n (pc := 56) C dX5_changesBy_56 rfl 5 rfl ?_
          refine jt_acmp_ne (pc := 57) C 68 (⟨hr9.2.2.1.live c1, rfl⟩ : At _ (7, orr S p) _) hb dX5_changesBy_57 (by decide) (fun c3 => ?_) (fun c3 => ?_)
          · have hne : ¬ orr S p = r := fun z => c3 (by rw [z])
            refine j_lload (pc := 68) C dX5_changesBy_68 0 rfl ?_
            refine j_lstore (pc := 70) C [(4, .long (enc5 (gone S (orr S p) (derP S (on9 S) row p)).1)), (8, .long (enc5 (gone S (orr S p) (derP S (on9 S) row p)).1)), (7, .ref (hG σ (7, orr S p))), (6, .int (nI p)), (0, .ref a0), (1, .ref b)] dX5_changesBy_70 (by decide) rfl ?_
            refine j_iinc (pc := 72) C (nI (p + 1)) [(6, .int (nI (p + 1))), (4, .long (enc5 (gone S (orr S p) (derP S (on9 S) row p)).1)), (8, .long (enc5 (gone S (orr S p) (derP S (on9 S) row p)).1)), (7, .ref (hG σ (7, orr S p))), (0, .ref a0), (1, .ref b)] dX5_changesBy_72 3 rfl (nI_add p 1) (by decide) rfl ?_
            refine j_goto (pc := 75) C 6 dX5_changesBy_75 (by decide) ?_
            have l0 := ih (p + 1) (by omega) (by omega) (fun z => by
              have := h3 z
              rcases Nat.lt_or_ge p (pos9 S r) with q | q
              · exact q
              · exact absurd (by rw [Nat.le_antisymm this q]; exact p2) hne)
            rw [derP_t c2] at l0
            exact J.to [0, 1, 4, 5] rfl l0
          · have he : orr S p = r := congrArg Prod.snd c3
            have hpp : p = pos9 S r := by
              have h4 := h3 (by rw [← he]; exact c2)
              rcases Nat.lt_or_ge p (pos9 S r) with q | q
              · exact absurd he (p3 p q)
              · exact Nat.le_antisymm h4 q
            refine j_lload (pc := 60) C dX5_changesBy_60 3 rfl ?_
            refine j_lload (pc := 62) C dX5_changesBy_62 0 rfl ?_
            refine j_callS (pc := 64) C [.long (enc5 (derP S (on9 S) row p)), .long (enc5 (gone S (orr S p) (derP S (on9 S) row p)).1)] [] (rm0 := ({ frames := 3, cells := 0, slots := 0, locals := 64 } : Room)) (k' := 0) (n' := 0) Q.1 (c_X6_changesBetween (xl X) (xw X) (okS.R hw.1 hk) (okS.R hw.1 hk2) hg.1) mp_X6_changesBetween wm_962 rfl rfl (Nat.le_of_ble_eq_true rfl) dX5_changesBy_64 ⟨by decide, by decide⟩ ⟨Nat.le_of_ble_eq_true rfl, Nat.le_of_ble_eq_true rfl⟩ rfl rfl (det1 ?_)
            refine j_topi (nI (stepR S row r)) (by rw [hg.2]; unfold stepR; rw [if_pos (by rw [← he]; exact c2), ← hpp, he]) ?_
            exact j_ireturn (pc := 67) C Q dX5_changesBy_67 (Nat.le_of_ble_eq_true rfl) (Nat.le_of_ble_eq_true rfl) (⟨rfl, rfl⟩)
  exact J.to [0, 1, 2, 3] rfl (loop (nR S + 1) 0 (Nat.zero_le _) (by omega) (fun _ => Nat.zero_le _))
