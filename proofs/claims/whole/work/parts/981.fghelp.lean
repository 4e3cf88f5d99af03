set_option maxHeartbeats 4000000 in
set_option maxRecDepth 100000 in
theorem c_X9_checkFeatures_t (L9 : Launch) (w9 : Wd) {σ : HS}  {n : Nat} (h : n < 64) : MJ L9 w9 yX9_checkFeatures cX9_checkFeatures 1 none ({ frames := 0, cells := 0, slots := 0, locals := 0 } : Room) [.int (nI n)] σ (fun a9 σ' => a9 = none ∧ σ' = σ) := by
  refine MJ.of (by decide +kernel) (Nat.le_of_ble_eq_true rfl) (fun X hX1 hX2 C Q hinit => ?_)
  subst hX1; subst hX2
  show J X 0 0 σ [(0, .int (nI n))] [] 0
  refine j_iload_n (pc := 0) C dX9_checkFeatures_0 rfl 0 rfl ?_
  refine jn_if_lt (pc := 1) C 10 (a := n) (by omega) dX9_checkFeatures_1 (by decide) (fun c0 => (c0 : False).elim) (fun c0 => ?_)
  refine j_iload_n (pc := 4) C dX9_checkFeatures_4 rfl 0 rfl ?_
  refine j_bipush (pc := 5) C (nI 64) dX9_checkFeatures_5 (by decide) ?_
  refine jn_icmp_lt (pc := 7) C 18 (a := n) (b := 64) (by omega) (by omega) dX9_checkFeatures_7 (by decide) (fun c0 => ?_) (fun c0 => (absurd c0 (by omega) : False).elim)
  exact j_vreturn (pc := 18) C Q dX9_checkFeatures_18 (Nat.le_of_ble_eq_true rfl) (Nat.le_of_ble_eq_true rfl) (⟨rfl, rfl⟩)
set_option maxHeartbeats 4000000 in
set_option maxRecDepth 100000 in
theorem c_X9_checkFeatures_x (L9 : Launch) (w9 : Wd) (hst9 : L9.stackTraces = false) {σ : HS}  {x : Int32} (h : inI x 64 = false) : MX L9 w9 yX9_checkFeatures cX9_checkFeatures 1 none ({ frames := 6, cells := 1, slots := 6, locals := 81 } : Room) [.int x] σ (fun _ _ => False) (fun E σ' => E = "java/lang/IllegalArgumentException" ∧ σ' = σ) := by
  refine MX.of (by decide +kernel) (Nat.le_of_ble_eq_true rfl) hst9 (fun X hX1 hX2 C Q NT => ?_)
  subst hX1; subst hX2
  show J X 0 0 σ [(0, .int x)] [] 0
  refine j_iload_n (pc := 0) C dX9_checkFeatures_0 rfl 0 rfl ?_
  refine j_if_lt (pc := 1) C 10 dX9_checkFeatures_1 (by decide) (fun c1 => ?_) (fun c1 => ?_)
  · exact j_throw0 (pc := 10) C (rm := ({ frames := 6, cells := 1, slots := 6, locals := 81 } : Room)) Q NT tp_X9_172 dX9_checkFeatures_10 dX9_checkFeatures_13 dX9_checkFeatures_14 dX9_checkFeatures_17 ⟨by decide, by decide, by decide, by decide⟩ ⟨rfl, rfl⟩
  · have c3 : 0 ≤ x.toInt := Decidable.byContradiction (fun z => c1 (lt0_iff.mpr z))
    obtain ⟨n1, n2⟩ := nn_t c3
    generalize xN x = n at n1 n2
    subst n2
    show J X 0 0 σ [(0, .int (nI n))] [] 4
    rw [inI_nI n1] at h
    have c4 := of_decide_eq_false h
    refine j_iload_n (pc := 4) C dX9_checkFeatures_4 rfl 0 rfl ?_
    refine j_bipush (pc := 5) C (nI 64) dX9_checkFeatures_5 (by decide) ?_
    refine jn_icmp_lt (pc := 7) C 18 (a := n) (b := 64) (by omega) (by omega) dX9_checkFeatures_7 (by decide) (fun c0 => (absurd c0 (by omega) : False).elim) (fun c0 => ?_)
    exact j_throw0 (pc := 10) C (rm := ({ frames := 6, cells := 1, slots := 6, locals := 81 } : Room)) Q NT tp_X9_172 dX9_checkFeatures_10 dX9_checkFeatures_13 dX9_checkFeatures_14 dX9_checkFeatures_17 ⟨by decide, by decide, by decide, by decide⟩ ⟨rfl, rfl⟩
set_option maxHeartbeats 4000000 in
set_option maxRecDepth 100000 in
theorem c_X9_checkSpeaker_t (L9 : Launch) (w9 : Wd) {σ : HS}  {n : Nat} (h : n < 4) : MJ L9 w9 yX9_checkSpeaker cX9_checkSpeaker 1 none ({ frames := 0, cells := 0, slots := 0, locals := 0 } : Room) [.int (nI n)] σ (fun a9 σ' => a9 = none ∧ σ' = σ) := by
  refine MJ.of (by decide +kernel) (Nat.le_of_ble_eq_true rfl) (fun X hX1 hX2 C Q hinit => ?_)
  subst hX1; subst hX2
  show J X 0 0 σ [(0, .int (nI n))] [] 0
  refine j_iload_n (pc := 0) C dX9_checkSpeaker_0 rfl 0 rfl ?_
  refine jn_if_lt (pc := 1) C 9 (a := n) (by omega) dX9_checkSpeaker_1 (by decide) (fun c0 => (c0 : False).elim) (fun c0 => ?_)
  refine j_iload_n (pc := 4) C dX9_checkSpeaker_4 rfl 0 rfl ?_
  refine j_iconst (pc := 5) C (nI 4) dX9_checkSpeaker_5 (by decide) ?_
  refine jn_icmp_lt (pc := 6) C 17 (a := n) (b := 4) (by omega) (by omega) dX9_checkSpeaker_6 (by decide) (fun c0 => ?_) (fun c0 => (absurd c0 (by omega) : False).elim)
  exact j_vreturn (pc := 17) C Q dX9_checkSpeaker_17 (Nat.le_of_ble_eq_true rfl) (Nat.le_of_ble_eq_true rfl) (⟨rfl, rfl⟩)
set_option maxHeartbeats 4000000 in
set_option maxRecDepth 100000 in
theorem c_X9_checkSpeaker_x (L9 : Launch) (w9 : Wd) (hst9 : L9.stackTraces = false) {σ : HS}  {x : Int32} (h : inI x 4 = false) : MX L9 w9 yX9_checkSpeaker cX9_checkSpeaker 1 none ({ frames := 6, cells := 1, slots := 6, locals := 81 } : Room) [.int x] σ (fun _ _ => False) (fun E σ' => E = "java/lang/IndexOutOfBoundsException" ∧ σ' = σ) := by
  refine MX.of (by decide +kernel) (Nat.le_of_ble_eq_true rfl) hst9 (fun X hX1 hX2 C Q NT => ?_)
  subst hX1; subst hX2
  show J X 0 0 σ [(0, .int x)] [] 0
  refine j_iload_n (pc := 0) C dX9_checkSpeaker_0 rfl 0 rfl ?_
  refine j_if_lt (pc := 1) C 9 dX9_checkSpeaker_1 (by decide) (fun c1 => ?_) (fun c1 => ?_)
  · exact j_throw0 (pc := 9) C (rm := ({ frames := 6, cells := 1, slots := 6, locals := 81 } : Room)) Q NT tp_X9_117 dX9_checkSpeaker_9 dX9_checkSpeaker_12 dX9_checkSpeaker_13 dX9_checkSpeaker_16 ⟨by decide, by decide, by decide, by decide⟩ ⟨rfl, rfl⟩
  · have c3 : 0 ≤ x.toInt := Decidable.byContradiction (fun z => c1 (lt0_iff.mpr z))
    obtain ⟨n1, n2⟩ := nn_t c3
    generalize xN x = n at n1 n2
    subst n2
    show J X 0 0 σ [(0, .int (nI n))] [] 4
    rw [inI_nI n1] at h
    have c4 := of_decide_eq_false h
    refine j_iload_n (pc := 4) C dX9_checkSpeaker_4 rfl 0 rfl ?_
    refine j_iconst (pc := 5) C (nI 4) dX9_checkSpeaker_5 (by decide) ?_
    refine jn_icmp_lt (pc := 6) C 17 (a := n) (b := 4) (by omega) (by omega) dX9_checkSpeaker_6 (by decide) (fun c0 => (absurd c0 (by omega) : False).elim) (fun c0 => ?_)
    exact j_throw0 (pc := 9) C (rm := ({ frames := 6, cells := 1, slots := 6, locals := 81 } : Room)) Q NT tp_X9_117 dX9_checkSpeaker_9 dX9_checkSpeaker_12 dX9_checkSpeaker_13 dX9_checkSpeaker_16 ⟨by decide, by decide, by decide, by decide⟩ ⟨rfl, rfl⟩
set_option maxHeartbeats 4000000 in
set_option maxRecDepth 100000 in
theorem c_X9_checkPlace_t (L9 : Launch) (w9 : Wd) {σ : HS}  {n : Nat} (h : n < 2 ^ 31) : MJ L9 w9 yX9_checkPlace cX9_checkPlace 1 none ({ frames := 0, cells := 0, slots := 0, locals := 0 } : Room) [.int (nI n)] σ (fun a9 σ' => a9 = none ∧ σ' = σ) := by
  refine MJ.of (by decide +kernel) (Nat.le_of_ble_eq_true rfl) (fun X hX1 hX2 C Q hinit => ?_)
  subst hX1; subst hX2
  show J X 0 0 σ [(0, .int (nI n))] [] 0
  refine j_iload_n (pc := 0) C dX9_checkPlace_0 rfl 0 rfl ?_
  refine jn_if_ge (pc := 1) C 12 (a := n) (by omega) dX9_checkPlace_1 (by decide) (fun c0 => ?_) (fun c0 => (c0 : False).elim)
  exact j_vreturn (pc := 12) C Q dX9_checkPlace_12 (Nat.le_of_ble_eq_true rfl) (Nat.le_of_ble_eq_true rfl) (⟨rfl, rfl⟩)
set_option maxHeartbeats 4000000 in
set_option maxRecDepth 100000 in
theorem c_X9_checkPlace_x (L9 : Launch) (w9 : Wd) (hst9 : L9.stackTraces = false) {σ : HS}  {x : Int32} (h : decide (0 ≤ x.toInt) = false) : MX L9 w9 yX9_checkPlace cX9_checkPlace 1 none ({ frames := 6, cells := 1, slots := 6, locals := 81 } : Room) [.int x] σ (fun _ _ => False) (fun E σ' => E = "java/lang/IndexOutOfBoundsException" ∧ σ' = σ) := by
  refine MX.of (by decide +kernel) (Nat.le_of_ble_eq_true rfl) hst9 (fun X hX1 hX2 C Q NT => ?_)
  subst hX1; subst hX2
  show J X 0 0 σ [(0, .int x)] [] 0
  refine j_iload_n (pc := 0) C dX9_checkPlace_0 rfl 0 rfl ?_
  refine j_if_ge (pc := 1) C 12 dX9_checkPlace_1 (by decide) (fun c1 => ?_) (fun c1 => ?_)
  · exact absurd (Decidable.byContradiction (fun z => Int32.not_lt.mpr c1 (lt0_iff.mpr z))) (of_decide_eq_false h)
  · exact j_throw0 (pc := 4) C (rm := ({ frames := 6, cells := 1, slots := 6, locals := 81 } : Room)) Q NT tp_X9_117 dX9_checkPlace_4 dX9_checkPlace_7 dX9_checkPlace_8 dX9_checkPlace_11 ⟨by decide, by decide, by decide, by decide⟩ ⟨rfl, rfl⟩
set_option maxHeartbeats 4000000 in
set_option maxRecDepth 100000 in
theorem c_X9_checkCell_t (L9 : Launch) (w9 : Wd) {σ : HS}  {n : Nat} (h : n < 8) : MJ L9 w9 yX9_checkCell cX9_checkCell 1 none ({ frames := 1, cells := 0, slots := 0, locals := 20 } : Room) [.int (nI n)] σ (fun a9 σ' => a9 = none ∧ σ' = σ) := by
  refine MJ.of (by decide +kernel) (Nat.le_of_ble_eq_true rfl) (fun X hX1 hX2 C Q hinit => ?_)
  subst hX1; subst hX2
  show J X 0 0 σ [(0, .int (nI n))] [] 0
  refine j_iload_n (pc := 0) C dX9_checkCell_0 rfl 0 rfl ?_
  refine j_callS (pc := 1) C [.int (nI n)] [] (rm0 := ({ frames := 1, cells := 0, slots := 0, locals := 20 } : Room)) (k' := 0) (n' := 0) Q.1 (c_X0_isCell (xl X) (xw X) (nI n)) mp_X0_isCell wm_650 rfl rfl (Nat.le_of_ble_eq_true rfl) dX9_checkCell_1 ⟨by decide, by decide⟩ ⟨Nat.le_of_ble_eq_true rfl, Nat.le_of_ble_eq_true rfl⟩ rfl rfl (det1 ?_)
  refine j_topi (bI true) (by rw [inI_nI (by omega), decide_eq_true h]) ?_
  refine j_if_ne (pc := 4) C 15 dX9_checkCell_4 (by decide) (fun _ => ?_) (fun q => absurd q (by decide))
  exact j_vreturn (pc := 15) C Q dX9_checkCell_15 (Nat.le_of_ble_eq_true rfl) (Nat.le_of_ble_eq_true rfl) (⟨rfl, rfl⟩)
set_option maxHeartbeats 4000000 in
set_option maxRecDepth 100000 in
theorem c_X9_checkCell_x (L9 : Launch) (w9 : Wd) (hst9 : L9.stackTraces = false) {σ : HS}  {x : Int32} (h : inI x 8 = false) : MX L9 w9 yX9_checkCell cX9_checkCell 1 none ({ frames := 6, cells := 1, slots := 6, locals := 81 } : Room) [.int x] σ (fun _ _ => False) (fun E σ' => E = "java/lang/IndexOutOfBoundsException" ∧ σ' = σ) := by
  refine MX.of (by decide +kernel) (Nat.le_of_ble_eq_true rfl) hst9 (fun X hX1 hX2 C Q NT => ?_)
  subst hX1; subst hX2
  show J X 0 0 σ [(0, .int x)] [] 0
  refine j_iload_n (pc := 0) C dX9_checkCell_0 rfl 0 rfl ?_
  refine j_callS (pc := 1) C [.int x] [] (rm0 := ({ frames := 6, cells := 1, slots := 6, locals := 81 } : Room)) (k' := 0) (n' := 0) Q.1 (c_X0_isCell (xl X) (xw X) x) mp_X0_isCell wm_650 rfl rfl (Nat.le_of_ble_eq_true rfl) dX9_checkCell_1 ⟨by decide, by decide⟩ ⟨Nat.le_of_ble_eq_true rfl, Nat.le_of_ble_eq_true rfl⟩ rfl rfl (det1 ?_)
  refine j_topi (bI false) (by rw [h]) ?_
  refine j_if_ne (pc := 4) C 15 dX9_checkCell_4 (by decide) (fun q => absurd q (by decide)) (fun _ => ?_)
  exact j_throw0 (pc := 7) C (rm := ({ frames := 6, cells := 1, slots := 6, locals := 81 } : Room)) Q NT tp_X9_117 dX9_checkCell_7 dX9_checkCell_10 dX9_checkCell_11 dX9_checkCell_14 ⟨by decide, by decide, by decide, by decide⟩ ⟨rfl, rfl⟩
set_option maxHeartbeats 4000000 in
set_option maxRecDepth 100000 in
theorem c_X9_checkSound_t (L9 : Launch) (w9 : Wd) {σ : HS} {S : SP} (hw : WF S) (hc : CI S σ) {a0 : Nat} (ha0 : At σ (9, 0) a0) {n : Nat} (h : n < nS S) : MJ L9 w9 yX9_checkSound cX9_checkSound 2 none ({ frames := 1, cells := 0, slots := 0, locals := 20 } : Room) [.ref a0, .int (nI n)] σ (fun a9 σ' => a9 = none ∧ σ' = σ) := by
  refine MJ.of (by decide +kernel) (Nat.le_of_ble_eq_true rfl) (fun X hX1 hX2 C Q hinit => ?_)
  subst hX1; subst hX2
  show J X 0 0 σ [(0, .ref a0), (1, .int (nI n))] [] 0
  obtain ⟨hp, he, hx, hf9, hd⟩ := id hc
  obtain ⟨z1, z2, z3, z4⟩ := id hf9
  obtain ⟨ef, e1, e2⟩ := id he
  have gS := hw.1.1
  have gC := hw.1.2.2.2.1
  have gR := hw.2.1.1
  have gL := hw.2.2.1.1
  have gW := hw.2.2.2.1.1
  have gD := hw.2.2.2.2.1
  refine j_iload_n (pc := 0) C dX9_checkSound_0 rfl 1 rfl ?_
  refine jn_if_lt (pc := 1) C 15 (a := n) (by omega) dX9_checkSound_1 (by decide) (fun c0 => (c0 : False).elim) (fun c0 => ?_)
  refine j_iload_n (pc := 4) C dX9_checkSound_4 rfl 1 rfl ?_
  refine j_aload_n (pc := 5) C dX9_checkSound_5 rfl 0 rfl ?_
  refine j_getA (pc := 6) C fp_X9_10 ha0 rfl (f := 576) rfl (6, 0) (hG σ (6, 0)) z2 (⟨hp.1.1, rfl⟩ : At _ (6, 0) _) dX9_checkSound_6 ?_
  refine j_callV (pc := 9) C [] [.int (nI n)] (rm0 := ({ frames := 1, cells := 0, slots := 0, locals := 20 } : Room)) (k' := 0) (n' := 0) Q.1 (c_X5_soundCount (xl X) (xw X) hw hp (⟨hp.1.1, rfl⟩ : At _ (6, 0) _)) mp_X5_soundCount wm_447 (⟨hp.1.1, rfl⟩ : At _ (6, 0) _) rfl rfl (by decide) rfl rfl (Nat.le_of_ble_eq_true rfl) dX9_checkSound_9 ⟨by decide, by decide⟩ ⟨Nat.le_of_ble_eq_true rfl, Nat.le_of_ble_eq_true rfl⟩ rfl rfl (det1 ?_)
  refine jn_icmp_lt (pc := 12) C 23 (a := n) (b := nS S) (by omega) (by omega) dX9_checkSound_12 (by decide) (fun c0 => ?_) (fun c0 => (absurd c0 (by omega) : False).elim)
  exact j_vreturn (pc := 23) C Q dX9_checkSound_23 (Nat.le_of_ble_eq_true rfl) (Nat.le_of_ble_eq_true rfl) (⟨rfl, rfl⟩)
set_option maxHeartbeats 4000000 in
set_option maxRecDepth 100000 in
theorem c_X9_checkSound_x (L9 : Launch) (w9 : Wd) (hst9 : L9.stackTraces = false) {σ : HS} {S : SP} (hw : WF S) (hc : CI S σ) {a0 : Nat} (ha0 : At σ (9, 0) a0) {x : Int32} (h : inI x (nS S) = false) : MX L9 w9 yX9_checkSound cX9_checkSound 2 none ({ frames := 6, cells := 1, slots := 6, locals := 81 } : Room) [.ref a0, .int x] σ (fun _ _ => False) (fun E σ' => E = "java/lang/IndexOutOfBoundsException" ∧ σ' = σ) := by
  refine MX.of (by decide +kernel) (Nat.le_of_ble_eq_true rfl) hst9 (fun X hX1 hX2 C Q NT => ?_)
  subst hX1; subst hX2
  show J X 0 0 σ [(0, .ref a0), (1, .int x)] [] 0
  obtain ⟨hp, he, hx, hf9, hd⟩ := id hc
  obtain ⟨z1, z2, z3, z4⟩ := id hf9
  obtain ⟨ef, e1, e2⟩ := id he
  have gS := hw.1.1
  have gC := hw.1.2.2.2.1
  have gR := hw.2.1.1
  have gL := hw.2.2.1.1
  have gW := hw.2.2.2.1.1
  have gD := hw.2.2.2.2.1
  refine j_iload_n (pc := 0) C dX9_checkSound_0 rfl 1 rfl ?_
  refine j_if_lt (pc := 1) C 15 dX9_checkSound_1 (by decide) (fun c1 => ?_) (fun c1 => ?_)
  · exact j_throw0 (pc := 15) C (rm := ({ frames := 6, cells := 1, slots := 6, locals := 81 } : Room)) Q NT tp_X9_117 dX9_checkSound_15 dX9_checkSound_18 dX9_checkSound_19 dX9_checkSound_22 ⟨by decide, by decide, by decide, by decide⟩ ⟨rfl, rfl⟩
  · have c3 : 0 ≤ x.toInt := Decidable.byContradiction (fun z => c1 (lt0_iff.mpr z))
    obtain ⟨n1, n2⟩ := nn_t c3
    generalize xN x = n at n1 n2
    subst n2
    show J X 0 0 σ [(0, .ref a0), (1, .int (nI n))] [] 4
    rw [inI_nI n1] at h
    have c4 := of_decide_eq_false h
    refine j_iload_n (pc := 4) C dX9_checkSound_4 rfl 1 rfl ?_
    refine j_aload_n (pc := 5) C dX9_checkSound_5 rfl 0 rfl ?_
    refine j_getA (pc := 6) C fp_X9_10 ha0 rfl (f := 576) rfl (6, 0) (hG σ (6, 0)) z2 (⟨hp.1.1, rfl⟩ : At _ (6, 0) _) dX9_checkSound_6 ?_
    refine j_callV (pc := 9) C [] [.int (nI n)] (rm0 := ({ frames := 6, cells := 1, slots := 6, locals := 81 } : Room)) (k' := 0) (n' := 0) Q.1 (c_X5_soundCount (xl X) (xw X) hw hp (⟨hp.1.1, rfl⟩ : At _ (6, 0) _)) mp_X5_soundCount wm_447 (⟨hp.1.1, rfl⟩ : At _ (6, 0) _) rfl rfl (by decide) rfl rfl (Nat.le_of_ble_eq_true rfl) dX9_checkSound_9 ⟨by decide, by decide⟩ ⟨Nat.le_of_ble_eq_true rfl, Nat.le_of_ble_eq_true rfl⟩ rfl rfl (det1 ?_)
    refine jn_icmp_lt (pc := 12) C 23 (a := n) (b := nS S) (by omega) (by omega) dX9_checkSound_12 (by decide) (fun c0 => (absurd c0 (by omega) : False).elim) (fun c0 => ?_)
    exact j_throw0 (pc := 15) C (rm := ({ frames := 6, cells := 1, slots := 6, locals := 81 } : Room)) Q NT tp_X9_117 dX9_checkSound_15 dX9_checkSound_18 dX9_checkSound_19 dX9_checkSound_22 ⟨by decide, by decide, by decide, by decide⟩ ⟨rfl, rfl⟩
set_option maxHeartbeats 4000000 in
set_option maxRecDepth 100000 in
theorem c_X9_checkDraftIsForm_t (L9 : Launch) (w9 : Wd) {σ : HS} {S : SP} (hw : WF S) (hc : CI S σ) {a0 : Nat} (ha0 : At σ (9, 0) a0) (h : isForm9 S = true) : MJ L9 w9 yX9_checkDraftIsForm cX9_checkDraftIsForm 2 none ({ frames := 1, cells := 0, slots := 0, locals := 22 } : Room) [.ref a0] σ (fun a9 σ' => a9 = none ∧ σ' = σ) := by
  refine MJ.of (by decide +kernel) (Nat.le_of_ble_eq_true rfl) (fun X hX1 hX2 C Q hinit => ?_)
  subst hX1; subst hX2
  show J X 0 0 σ [(0, .ref a0)] [] 0
  obtain ⟨hp, he, hx, hf9, hd⟩ := id hc
  obtain ⟨z1, z2, z3, z4⟩ := id hf9
  obtain ⟨ef, e1, e2⟩ := id he
  have gS := hw.1.1
  have gC := hw.1.2.2.2.1
  have gR := hw.2.1.1
  have gL := hw.2.2.1.1
  have gW := hw.2.2.2.1.1
  have gD := hw.2.2.2.2.1
  have h8 := (WF_drR hw).1
  unfold isForm9 at h
  refine j_aload_n (pc := 0) C dX9_checkDraftIsForm_0 rfl 0 rfl ?_
  refine j_getL (pc := 1) C fp_X9_32 ha0 rfl (f := 579) rfl dX9_checkDraftIsForm_1 ?_
  refine j_topl (enc5 (dr S)) hd ?_
  refine j_callS (pc := 4) C [.long (enc5 (dr S))] [] (rm0 := ({ frames := 1, cells := 0, slots := 0, locals := 22 } : Room)) (k' := 0) (n' := 0) Q.1 (c_X6_sizeOf (xl X) (xw X) (WF_drR hw)) mp_X6_sizeOf wm_223 rfl rfl (Nat.le_of_ble_eq_true rfl) dX9_checkDraftIsForm_4 ⟨by decide, by decide⟩ ⟨Nat.le_of_ble_eq_true rfl, Nat.le_of_ble_eq_true rfl⟩ rfl rfl (det1 ?_)
  rw [Bool.and_eq_true, decide_eq_true_eq, decide_eq_true_eq] at h
  refine j_istore_n (pc := 7) C [(1, .int (nI ((dr S).length))), (0, .ref a0)] dX9_checkDraftIsForm_7 rfl (by decide) rfl ?_
  refine j_iload_n (pc := 8) C dX9_checkDraftIsForm_8 rfl 0 rfl ?_
  refine j_iconst (pc := 9) C (nI 1) dX9_checkDraftIsForm_9 (by decide) ?_
  refine jn_icmp_lt (pc := 10) C 19 (a := (dr S).length) (b := 1) (by omega) (by omega) dX9_checkDraftIsForm_10 (by decide) (fun c0 => (absurd c0 (by omega) : False).elim) (fun c0 => ?_)
  refine j_iload_n (pc := 13) C dX9_checkDraftIsForm_13 rfl 0 rfl ?_
  refine j_bipush (pc := 14) C (nI 6) dX9_checkDraftIsForm_14 (by decide) ?_
  refine jn_icmp_le (pc := 16) C 27 (a := (dr S).length) (b := 6) (by omega) (by omega) dX9_checkDraftIsForm_16 (by decide) (fun c0 => ?_) (fun c0 => (absurd c0 (by omega) : False).elim)
  exact j_vreturn (pc := 27) C Q dX9_checkDraftIsForm_27 (Nat.le_of_ble_eq_true rfl) (Nat.le_of_ble_eq_true rfl) (⟨rfl, rfl⟩)
set_option maxHeartbeats 4000000 in
set_option maxRecDepth 100000 in
theorem c_X9_checkDraftIsForm_x (L9 : Launch) (w9 : Wd) (hst9 : L9.stackTraces = false) {σ : HS} {S : SP} (hw : WF S) (hc : CI S σ) {a0 : Nat} (ha0 : At σ (9, 0) a0) (h : isForm9 S = false) : MX L9 w9 yX9_checkDraftIsForm cX9_checkDraftIsForm 2 none ({ frames := 6, cells := 1, slots := 6, locals := 81 } : Room) [.ref a0] σ (fun _ _ => False) (fun E σ' => E = "java/lang/IllegalStateException" ∧ σ' = σ) := by
  refine MX.of (by decide +kernel) (Nat.le_of_ble_eq_true rfl) hst9 (fun X hX1 hX2 C Q NT => ?_)
  subst hX1; subst hX2
  show J X 0 0 σ [(0, .ref a0)] [] 0
  obtain ⟨hp, he, hx, hf9, hd⟩ := id hc
  obtain ⟨z1, z2, z3, z4⟩ := id hf9
  obtain ⟨ef, e1, e2⟩ := id he
  have gS := hw.1.1
  have gC := hw.1.2.2.2.1
  have gR := hw.2.1.1
  have gL := hw.2.2.1.1
  have gW := hw.2.2.2.1.1
  have gD := hw.2.2.2.2.1
  have h8 := (WF_drR hw).1
  unfold isForm9 at h
  refine j_aload_n (pc := 0) C dX9_checkDraftIsForm_0 rfl 0 rfl ?_
  refine j_getL (pc := 1) C fp_X9_32 ha0 rfl (f := 579) rfl dX9_checkDraftIsForm_1 ?_
  refine j_topl (enc5 (dr S)) hd ?_
  refine j_callS (pc := 4) C [.long (enc5 (dr S))] [] (rm0 := ({ frames := 6, cells := 1, slots := 6, locals := 81 } : Room)) (k' := 0) (n' := 0) Q.1 (c_X6_sizeOf (xl X) (xw X) (WF_drR hw)) mp_X6_sizeOf wm_223 rfl rfl (Nat.le_of_ble_eq_true rfl) dX9_checkDraftIsForm_4 ⟨by decide, by decide⟩ ⟨Nat.le_of_ble_eq_true rfl, Nat.le_of_ble_eq_true rfl⟩ rfl rfl (det1 ?_)
  refine j_istore_n (pc := 7) C [(1, .int (nI ((dr S).length))), (0, .ref a0)] dX9_checkDraftIsForm_7 rfl (by decide) rfl ?_
  refine j_iload_n (pc := 8) C dX9_checkDraftIsForm_8 rfl 0 rfl ?_
  refine j_iconst (pc := 9) C (nI 1) dX9_checkDraftIsForm_9 (by decide) ?_
  refine jn_icmp_lt (pc := 10) C 19 (a := (dr S).length) (b := 1) (by omega) (by omega) dX9_checkDraftIsForm_10 (by decide) (fun c1 => ?_) (fun c1 => ?_)
  · exact j_throw0 (pc := 19) C (rm := ({ frames := 6, cells := 1, slots := 6, locals := 81 } : Room)) Q NT tp_X9_48 dX9_checkDraftIsForm_19 dX9_checkDraftIsForm_22 dX9_checkDraftIsForm_23 dX9_checkDraftIsForm_26 ⟨by decide, by decide, by decide, by decide⟩ ⟨rfl, rfl⟩
  · rw [decide_eq_true (show 1 ≤ (dr S).length by omega), Bool.true_and] at h
    have c4 := of_decide_eq_false h
    refine j_iload_n (pc := 13) C dX9_checkDraftIsForm_13 rfl 0 rfl ?_
    refine j_bipush (pc := 14) C (nI 6) dX9_checkDraftIsForm_14 (by decide) ?_
    refine jn_icmp_le (pc := 16) C 27 (a := (dr S).length) (b := 6) (by omega) (by omega) dX9_checkDraftIsForm_16 (by decide) (fun c0 => (absurd c0 (by omega) : False).elim) (fun c0 => ?_)
    exact j_throw0 (pc := 19) C (rm := ({ frames := 6, cells := 1, slots := 6, locals := 81 } : Room)) Q NT tp_X9_48 dX9_checkDraftIsForm_19 dX9_checkDraftIsForm_22 dX9_checkDraftIsForm_23 dX9_checkDraftIsForm_26 ⟨by decide, by decide, by decide, by decide⟩ ⟨rfl, rfl⟩
set_option maxHeartbeats 4000000 in
set_option maxRecDepth 100000 in
theorem c_X9_checkLexemesLeft_t (L9 : Launch) (w9 : Wd) {σ : HS} {S : SP} (hw : WF S) (hc : CI S σ) {a0 : Nat} (ha0 : At σ (9, 0) a0) (h : nL S ≠ 16) : MJ L9 w9 yX9_checkLexemesLeft cX9_checkLexemesLeft 1 none ({ frames := 2, cells := 0, slots := 0, locals := 40 } : Room) [.ref a0] σ (fun a9 σ' => a9 = none ∧ σ' = σ) := by
  refine MJ.of (by decide +kernel) (Nat.le_of_ble_eq_true rfl) (fun X hX1 hX2 C Q hinit => ?_)
  subst hX1; subst hX2
  show J X 0 0 σ [(0, .ref a0)] [] 0
  obtain ⟨hp, he, hx, hf9, hd⟩ := id hc
  obtain ⟨z1, z2, z3, z4⟩ := id hf9
  obtain ⟨ef, e1, e2⟩ := id he
  have gS := hw.1.1
  have gC := hw.1.2.2.2.1
  have gR := hw.2.1.1
  have gL := hw.2.2.1.1
  have gW := hw.2.2.2.1.1
  have gD := hw.2.2.2.2.1
  refine j_aload_n (pc := 0) C dX9_checkLexemesLeft_0 rfl 0 rfl ?_
  refine j_getA (pc := 1) C fp_X9_19 ha0 rfl (f := 577) rfl (5, 0) (hG σ (5, 0)) z3 (⟨hx.1.1, rfl⟩ : At _ (5, 0) _) dX9_checkLexemesLeft_1 ?_
  refine j_callV (pc := 4) C [] [] (rm0 := ({ frames := 2, cells := 0, slots := 0, locals := 40 } : Room)) (k' := 0) (n' := 0) Q.1 (c_X4_lexemeCount (xl X) (xw X) hw hx (⟨hx.1.1, rfl⟩ : At _ (5, 0) _)) mp_X4_lexemeCount wm_345 (⟨hx.1.1, rfl⟩ : At _ (5, 0) _) rfl rfl (by decide) rfl rfl (Nat.le_of_ble_eq_true rfl) dX9_checkLexemesLeft_4 ⟨by decide, by decide⟩ ⟨Nat.le_of_ble_eq_true rfl, Nat.le_of_ble_eq_true rfl⟩ rfl rfl (det1 ?_)
  refine j_bipush (pc := 7) C (nI 16) dX9_checkLexemesLeft_7 (by decide) ?_
  refine jn_icmp_lt (pc := 9) C 20 (a := nL S) (b := 16) (by omega) (by omega) dX9_checkLexemesLeft_9 (by decide) (fun c0 => ?_) (fun c0 => (absurd c0 (by omega) : False).elim)
  exact j_vreturn (pc := 20) C Q dX9_checkLexemesLeft_20 (Nat.le_of_ble_eq_true rfl) (Nat.le_of_ble_eq_true rfl) (⟨rfl, rfl⟩)
set_option maxHeartbeats 4000000 in
set_option maxRecDepth 100000 in
theorem c_X9_checkLexemesLeft_x (L9 : Launch) (w9 : Wd) (hst9 : L9.stackTraces = false) {σ : HS} {S : SP} (hw : WF S) (hc : CI S σ) {a0 : Nat} (ha0 : At σ (9, 0) a0) (h : nL S = 16) : MX L9 w9 yX9_checkLexemesLeft cX9_checkLexemesLeft 1 none ({ frames := 6, cells := 1, slots := 6, locals := 81 } : Room) [.ref a0] σ (fun _ _ => False) (fun E σ' => E = "java/lang/IllegalStateException" ∧ σ' = σ) := by
  refine MX.of (by decide +kernel) (Nat.le_of_ble_eq_true rfl) hst9 (fun X hX1 hX2 C Q NT => ?_)
  subst hX1; subst hX2
  show J X 0 0 σ [(0, .ref a0)] [] 0
  obtain ⟨hp, he, hx, hf9, hd⟩ := id hc
  obtain ⟨z1, z2, z3, z4⟩ := id hf9
  obtain ⟨ef, e1, e2⟩ := id he
  have gS := hw.1.1
  have gC := hw.1.2.2.2.1
  have gR := hw.2.1.1
  have gL := hw.2.2.1.1
  have gW := hw.2.2.2.1.1
  have gD := hw.2.2.2.2.1
  refine j_aload_n (pc := 0) C dX9_checkLexemesLeft_0 rfl 0 rfl ?_
  refine j_getA (pc := 1) C fp_X9_19 ha0 rfl (f := 577) rfl (5, 0) (hG σ (5, 0)) z3 (⟨hx.1.1, rfl⟩ : At _ (5, 0) _) dX9_checkLexemesLeft_1 ?_
  refine j_callV (pc := 4) C [] [] (rm0 := ({ frames := 6, cells := 1, slots := 6, locals := 81 } : Room)) (k' := 0) (n' := 0) Q.1 (c_X4_lexemeCount (xl X) (xw X) hw hx (⟨hx.1.1, rfl⟩ : At _ (5, 0) _)) mp_X4_lexemeCount wm_345 (⟨hx.1.1, rfl⟩ : At _ (5, 0) _) rfl rfl (by decide) rfl rfl (Nat.le_of_ble_eq_true rfl) dX9_checkLexemesLeft_4 ⟨by decide, by decide⟩ ⟨Nat.le_of_ble_eq_true rfl, Nat.le_of_ble_eq_true rfl⟩ rfl rfl (det1 ?_)
  refine j_bipush (pc := 7) C (nI 16) dX9_checkLexemesLeft_7 (by decide) ?_
  refine jn_icmp_lt (pc := 9) C 20 (a := nL S) (b := 16) (by omega) (by omega) dX9_checkLexemesLeft_9 (by decide) (fun c0 => (absurd c0 (by omega) : False).elim) (fun c0 => ?_)
  exact j_throw0 (pc := 12) C (rm := ({ frames := 6, cells := 1, slots := 6, locals := 81 } : Room)) Q NT tp_X9_48 dX9_checkLexemesLeft_12 dX9_checkLexemesLeft_15 dX9_checkLexemesLeft_16 dX9_checkLexemesLeft_19 ⟨by decide, by decide, by decide, by decide⟩ ⟨rfl, rfl⟩
set_option maxHeartbeats 4000000 in
set_option maxRecDepth 100000 in
theorem c_X9_lexemeNumbered_t (L9 : Launch) (w9 : Wd) {σ : HS} {S : SP} (hw : WF S) (hc : CI S σ) {a0 : Nat} (ha0 : At σ (9, 0) a0) {n : Nat} (n1 : n < nL S) (n2 : th S n = 1) : MJ L9 w9 yX9_lexemeNumbered cX9_lexemeNumbered 3 (some (.object "Fieldgrammar$Lexeme")) ({ frames := 4, cells := 0, slots := 0, locals := 86 } : Room) [.ref a0, .int (nI n)] σ (fun a9 σ' => a9 = some (.ref (hG σ (4, n))) ∧ σ' = σ) := by
  refine MJ.of (by decide +kernel) (Nat.le_of_ble_eq_true rfl) (fun X hX1 hX2 C Q hinit => ?_)
  subst hX1; subst hX2
  show J X 0 0 σ [(0, .ref a0), (1, .int (nI n))] [] 0
  obtain ⟨hp, he, hx, hf9, hd⟩ := id hc
  obtain ⟨z1, z2, z3, z4⟩ := id hf9
  obtain ⟨ef, e1, e2⟩ := id he
  have gS := hw.1.1
  have gC := hw.1.2.2.2.1
  have gR := hw.2.1.1
  have gL := hw.2.2.1.1
  have gW := hw.2.2.2.1.1
  have gD := hw.2.2.2.2.1
  refine j_aload_n (pc := 0) C dX9_lexemeNumbered_0 rfl 0 rfl ?_
  refine j_getA (pc := 1) C fp_X9_19 ha0 rfl (f := 577) rfl (5, 0) (hG σ (5, 0)) z3 (⟨hx.1.1, rfl⟩ : At _ (5, 0) _) dX9_lexemeNumbered_1 ?_
  refine j_iload_n (pc := 4) C dX9_lexemeNumbered_4 rfl 1 rfl ?_
  refine j_callV (pc := 5) C [.int (nI n)] [] (rm0 := ({ frames := 4, cells := 0, slots := 0, locals := 86 } : Room)) (k' := 0) (n' := 0) Q.1 (c_X4_lexemeNumbered_t (xl X) (xw X) hw hx (⟨hx.1.1, rfl⟩ : At _ (5, 0) _) n1 n2) mp_X4_lexemeNumbered wm_349 (⟨hx.1.1, rfl⟩ : At _ (5, 0) _) rfl rfl (by decide) rfl rfl (Nat.le_of_ble_eq_true rfl) dX9_lexemeNumbered_5 ⟨by decide, by decide⟩ ⟨Nat.le_of_ble_eq_true rfl, Nat.le_of_ble_eq_true rfl⟩ rfl rfl (det1 ?_)
  refine j_astore_n (pc := 8) C [(2, .ref (hG σ (4, n))), (0, .ref a0), (1, .int (nI n))] dX9_lexemeNumbered_8 rfl (by decide) rfl ?_
  refine j_aload_n (pc := 9) C dX9_lexemeNumbered_9 rfl 0 rfl ?_
  refine j_ifnonnull (pc := 10) C 21 dX9_lexemeNumbered_10 (by decide) ?_
  refine j_aload_n (pc := 21) C dX9_lexemeNumbered_21 rfl 0 rfl ?_
  exact j_areturn (pc := 22) C Q (Or.inl ⟨_, rfl⟩) (Or.inr ⟨_, rfl⟩) dX9_lexemeNumbered_22 (Nat.le_of_ble_eq_true rfl) (Nat.le_of_ble_eq_true rfl) (⟨rfl, rfl⟩)
set_option maxHeartbeats 4000000 in
set_option maxRecDepth 100000 in
theorem c_X9_lexemeNumbered_x (L9 : Launch) (w9 : Wd) (hst9 : L9.stackTraces = false) {σ : HS} {S : SP} (hw : WF S) (hc : CI S σ) {a0 : Nat} (ha0 : At σ (9, 0) a0) {x : Int32} (h : isLex S x = false) : MX L9 w9 yX9_lexemeNumbered cX9_lexemeNumbered 3 (some (.object "Fieldgrammar$Lexeme")) ({ frames := 6, cells := 1, slots := 6, locals := 86 } : Room) [.ref a0, .int x] σ (fun _ _ => False) (fun E σ' => E = "java/lang/IndexOutOfBoundsException" ∧ σ' = σ) := by
  refine MX.of (by decide +kernel) (Nat.le_of_ble_eq_true rfl) hst9 (fun X hX1 hX2 C Q NT => ?_)
  subst hX1; subst hX2
  show J X 0 0 σ [(0, .ref a0), (1, .int x)] [] 0
  obtain ⟨hp, he, hx, hf9, hd⟩ := id hc
  obtain ⟨z1, z2, z3, z4⟩ := id hf9
  obtain ⟨ef, e1, e2⟩ := id he
  have gS := hw.1.1
  have gC := hw.1.2.2.2.1
  have gR := hw.2.1.1
  have gL := hw.2.2.1.1
  have gW := hw.2.2.2.1.1
  have gD := hw.2.2.2.2.1
  refine j_aload_n (pc := 0) C dX9_lexemeNumbered_0 rfl 0 rfl ?_
  refine j_getA (pc := 1) C fp_X9_19 ha0 rfl (f := 577) rfl (5, 0) (hG σ (5, 0)) z3 (⟨hx.1.1, rfl⟩ : At _ (5, 0) _) dX9_lexemeNumbered_1 ?_
  refine j_iload_n (pc := 4) C dX9_lexemeNumbered_4 rfl 1 rfl ?_
  refine j_callV (pc := 5) C [.int x] [] (rm0 := ({ frames := 6, cells := 1, slots := 6, locals := 86 } : Room)) (k' := 0) (n' := 0) Q.1 (c_X4_lexemeNumbered_f (xl X) (xw X) hw hx (⟨hx.1.1, rfl⟩ : At _ (5, 0) _) h) mp_X4_lexemeNumbered wm_349 (⟨hx.1.1, rfl⟩ : At _ (5, 0) _) rfl rfl (by decide) rfl rfl (Nat.le_of_ble_eq_true rfl) dX9_lexemeNumbered_5 ⟨by decide, by decide⟩ ⟨Nat.le_of_ble_eq_true rfl, Nat.le_of_ble_eq_true rfl⟩ rfl rfl (det1 ?_)
  refine j_astore_nN (pc := 8) C [(2, .null), (0, .ref a0), (1, .int x)] dX9_lexemeNumbered_8 rfl (by decide) rfl ?_
  refine j_aload_nN (pc := 9) C dX9_lexemeNumbered_9 rfl 0 rfl ?_
  refine j_ifnonnullN (pc := 10) C dX9_lexemeNumbered_10 ?_
  exact j_throw0 (pc := 13) C (rm := ({ frames := 6, cells := 1, slots := 6, locals := 86 } : Room)) Q NT tp_X9_117 dX9_lexemeNumbered_13 dX9_lexemeNumbered_16 dX9_lexemeNumbered_17 dX9_lexemeNumbered_20 ⟨by decide, by decide, by decide, by decide⟩ ⟨rfl, rfl⟩
set_option maxHeartbeats 4000000 in
set_option maxRecDepth 100000 in
theorem c_X9_wordNumbered_t (L9 : Launch) (w9 : Wd) {σ : HS} {S : SP} (hw : WF S) (hc : CI S σ) {a0 : Nat} (ha0 : At σ (9, 0) a0) {n : Nat} (n1 : n < nW S) (n2 : hd9 S n = 1) : MJ L9 w9 yX9_wordNumbered cX9_wordNumbered 3 (some (.object "Fieldgrammar$Word")) ({ frames := 4, cells := 0, slots := 0, locals := 86 } : Room) [.ref a0, .int (nI n)] σ (fun a9 σ' => a9 = some (.ref (hG σ (8, n))) ∧ σ' = σ) := by
  refine MJ.of (by decide +kernel) (Nat.le_of_ble_eq_true rfl) (fun X hX1 hX2 C Q hinit => ?_)
  subst hX1; subst hX2
  show J X 0 0 σ [(0, .ref a0), (1, .int (nI n))] [] 0
  obtain ⟨hp, he, hx, hf9, hd⟩ := id hc
  obtain ⟨z1, z2, z3, z4⟩ := id hf9
  obtain ⟨ef, e1, e2⟩ := id he
  have gS := hw.1.1
  have gC := hw.1.2.2.2.1
  have gR := hw.2.1.1
  have gL := hw.2.2.1.1
  have gW := hw.2.2.2.1.1
  have gD := hw.2.2.2.2.1
  refine j_aload_n (pc := 0) C dX9_wordNumbered_0 rfl 0 rfl ?_
  refine j_getA (pc := 1) C fp_X9_19 ha0 rfl (f := 577) rfl (5, 0) (hG σ (5, 0)) z3 (⟨hx.1.1, rfl⟩ : At _ (5, 0) _) dX9_wordNumbered_1 ?_
  refine j_iload_n (pc := 4) C dX9_wordNumbered_4 rfl 1 rfl ?_
  refine j_callV (pc := 5) C [.int (nI n)] [] (rm0 := ({ frames := 4, cells := 0, slots := 0, locals := 86 } : Room)) (k' := 0) (n' := 0) Q.1 (c_X4_wordNumbered_t (xl X) (xw X) (o := ol S) gW hx.1 hx.2.2.2.1 (⟨hx.1.1, rfl⟩ : At _ (5, 0) _) n1 n2) mp_X4_wordNumbered wm_248 (⟨hx.1.1, rfl⟩ : At _ (5, 0) _) rfl rfl (by decide) rfl rfl (Nat.le_of_ble_eq_true rfl) dX9_wordNumbered_5 ⟨by decide, by decide⟩ ⟨Nat.le_of_ble_eq_true rfl, Nat.le_of_ble_eq_true rfl⟩ rfl rfl (det1 ?_)
  refine j_astore_n (pc := 8) C [(2, .ref (hG σ (8, n))), (0, .ref a0), (1, .int (nI n))] dX9_wordNumbered_8 rfl (by decide) rfl ?_
  refine j_aload_n (pc := 9) C dX9_wordNumbered_9 rfl 0 rfl ?_
  refine j_ifnonnull (pc := 10) C 21 dX9_wordNumbered_10 (by decide) ?_
  refine j_aload_n (pc := 21) C dX9_wordNumbered_21 rfl 0 rfl ?_
  exact j_areturn (pc := 22) C Q (Or.inl ⟨_, rfl⟩) (Or.inr ⟨_, rfl⟩) dX9_wordNumbered_22 (Nat.le_of_ble_eq_true rfl) (Nat.le_of_ble_eq_true rfl) (⟨rfl, rfl⟩)
set_option maxHeartbeats 4000000 in
set_option maxRecDepth 100000 in
theorem c_X9_wordNumbered_x (L9 : Launch) (w9 : Wd) (hst9 : L9.stackTraces = false) {σ : HS} {S : SP} (hw : WF S) (hc : CI S σ) {a0 : Nat} (ha0 : At σ (9, 0) a0) {x : Int32} (h : isWrd S x = false) : MX L9 w9 yX9_wordNumbered cX9_wordNumbered 3 (some (.object "Fieldgrammar$Word")) ({ frames := 6, cells := 1, slots := 6, locals := 86 } : Room) [.ref a0, .int x] σ (fun _ _ => False) (fun E σ' => E = "java/lang/IndexOutOfBoundsException" ∧ σ' = σ) := by
  refine MX.of (by decide +kernel) (Nat.le_of_ble_eq_true rfl) hst9 (fun X hX1 hX2 C Q NT => ?_)
  subst hX1; subst hX2
  show J X 0 0 σ [(0, .ref a0), (1, .int x)] [] 0
  obtain ⟨hp, he, hx, hf9, hd⟩ := id hc
  obtain ⟨z1, z2, z3, z4⟩ := id hf9
  obtain ⟨ef, e1, e2⟩ := id he
  have gS := hw.1.1
  have gC := hw.1.2.2.2.1
  have gR := hw.2.1.1
  have gL := hw.2.2.1.1
  have gW := hw.2.2.2.1.1
  have gD := hw.2.2.2.2.1
  refine j_aload_n (pc := 0) C dX9_wordNumbered_0 rfl 0 rfl ?_
  refine j_getA (pc := 1) C fp_X9_19 ha0 rfl (f := 577) rfl (5, 0) (hG σ (5, 0)) z3 (⟨hx.1.1, rfl⟩ : At _ (5, 0) _) dX9_wordNumbered_1 ?_
  refine j_iload_n (pc := 4) C dX9_wordNumbered_4 rfl 1 rfl ?_
  refine j_callV (pc := 5) C [.int x] [] (rm0 := ({ frames := 6, cells := 1, slots := 6, locals := 86 } : Room)) (k' := 0) (n' := 0) Q.1 (c_X4_wordNumbered_f (xl X) (xw X) (o := ol S) gW hx.1 hx.2.2.2.1 (⟨hx.1.1, rfl⟩ : At _ (5, 0) _) h) mp_X4_wordNumbered wm_248 (⟨hx.1.1, rfl⟩ : At _ (5, 0) _) rfl rfl (by decide) rfl rfl (Nat.le_of_ble_eq_true rfl) dX9_wordNumbered_5 ⟨by decide, by decide⟩ ⟨Nat.le_of_ble_eq_true rfl, Nat.le_of_ble_eq_true rfl⟩ rfl rfl (det1 ?_)
  refine j_astore_nN (pc := 8) C [(2, .null), (0, .ref a0), (1, .int x)] dX9_wordNumbered_8 rfl (by decide) rfl ?_
  refine j_aload_nN (pc := 9) C dX9_wordNumbered_9 rfl 0 rfl ?_
  refine j_ifnonnullN (pc := 10) C dX9_wordNumbered_10 ?_
  exact j_throw0 (pc := 13) C (rm := ({ frames := 6, cells := 1, slots := 6, locals := 86 } : Room)) Q NT tp_X9_117 dX9_wordNumbered_13 dX9_wordNumbered_16 dX9_wordNumbered_17 dX9_wordNumbered_20 ⟨by decide, by decide, by decide, by decide⟩ ⟨rfl, rfl⟩
set_option maxHeartbeats 4000000 in
set_option maxRecDepth 100000 in
theorem c_X9_ruleNumbered_t (L9 : Launch) (w9 : Wd) {σ : HS} {S : SP} (hw : WF S) (hc : CI S σ) {a0 : Nat} (ha0 : At σ (9, 0) a0) {n : Nat} (n1 : n < nR S) : MJ L9 w9 yX9_ruleNumbered cX9_ruleNumbered 3 (some (.object "Fieldgrammar$Rule")) ({ frames := 4, cells := 0, slots := 0, locals := 85 } : Room) [.ref a0, .int (nI n)] σ (fun a9 σ' => a9 = some (.ref (hG σ (7, n))) ∧ σ' = σ) := by
  refine MJ.of (by decide +kernel) (Nat.le_of_ble_eq_true rfl) (fun X hX1 hX2 C Q hinit => ?_)
  subst hX1; subst hX2
  show J X 0 0 σ [(0, .ref a0), (1, .int (nI n))] [] 0
  obtain ⟨hp, he, hx, hf9, hd⟩ := id hc
  obtain ⟨z1, z2, z3, z4⟩ := id hf9
  obtain ⟨ef, e1, e2⟩ := id he
  have gS := hw.1.1
  have gC := hw.1.2.2.2.1
  have gR := hw.2.1.1
  have gL := hw.2.2.1.1
  have gW := hw.2.2.2.1.1
  have gD := hw.2.2.2.2.1
  refine j_aload_n (pc := 0) C dX9_ruleNumbered_0 rfl 0 rfl ?_
  refine j_getA (pc := 1) C fp_X9_10 ha0 rfl (f := 576) rfl (6, 0) (hG σ (6, 0)) z2 (⟨hp.1.1, rfl⟩ : At _ (6, 0) _) dX9_ruleNumbered_1 ?_
  refine j_iload_n (pc := 4) C dX9_ruleNumbered_4 rfl 1 rfl ?_
  refine j_callV (pc := 5) C [.int (nI n)] [] (rm0 := ({ frames := 4, cells := 0, slots := 0, locals := 85 } : Room)) (k' := 0) (n' := 0) Q.1 (c_X5_ruleNumbered_t (xl X) (xw X) hw hp (⟨hp.1.1, rfl⟩ : At _ (6, 0) _) n1) mp_X5_ruleNumbered wm_709 (⟨hp.1.1, rfl⟩ : At _ (6, 0) _) rfl rfl (by decide) rfl rfl (Nat.le_of_ble_eq_true rfl) dX9_ruleNumbered_5 ⟨by decide, by decide⟩ ⟨Nat.le_of_ble_eq_true rfl, Nat.le_of_ble_eq_true rfl⟩ rfl rfl (det1 ?_)
  refine j_astore_n (pc := 8) C [(2, .ref (hG σ (7, n))), (0, .ref a0), (1, .int (nI n))] dX9_ruleNumbered_8 rfl (by decide) rfl ?_
  refine j_aload_n (pc := 9) C dX9_ruleNumbered_9 rfl 0 rfl ?_
  refine j_ifnonnull (pc := 10) C 21 dX9_ruleNumbered_10 (by decide) ?_
  refine j_aload_n (pc := 21) C dX9_ruleNumbered_21 rfl 0 rfl ?_
  exact j_areturn (pc := 22) C Q (Or.inl ⟨_, rfl⟩) (Or.inr ⟨_, rfl⟩) dX9_ruleNumbered_22 (Nat.le_of_ble_eq_true rfl) (Nat.le_of_ble_eq_true rfl) (⟨rfl, rfl⟩)
set_option maxHeartbeats 4000000 in
set_option maxRecDepth 100000 in
theorem c_X9_ruleNumbered_x (L9 : Launch) (w9 : Wd) (hst9 : L9.stackTraces = false) {σ : HS} {S : SP} (hw : WF S) (hc : CI S σ) {a0 : Nat} (ha0 : At σ (9, 0) a0) {x : Int32} (h : inI x (nR S) = false) : MX L9 w9 yX9_ruleNumbered cX9_ruleNumbered 3 (some (.object "Fieldgrammar$Rule")) ({ frames := 6, cells := 1, slots := 6, locals := 85 } : Room) [.ref a0, .int x] σ (fun _ _ => False) (fun E σ' => E = "java/lang/IndexOutOfBoundsException" ∧ σ' = σ) := by
  refine MX.of (by decide +kernel) (Nat.le_of_ble_eq_true rfl) hst9 (fun X hX1 hX2 C Q NT => ?_)
  subst hX1; subst hX2
  show J X 0 0 σ [(0, .ref a0), (1, .int x)] [] 0
  obtain ⟨hp, he, hx, hf9, hd⟩ := id hc
  obtain ⟨z1, z2, z3, z4⟩ := id hf9
  obtain ⟨ef, e1, e2⟩ := id he
  have gS := hw.1.1
  have gC := hw.1.2.2.2.1
  have gR := hw.2.1.1
  have gL := hw.2.2.1.1
  have gW := hw.2.2.2.1.1
  have gD := hw.2.2.2.2.1
  refine j_aload_n (pc := 0) C dX9_ruleNumbered_0 rfl 0 rfl ?_
  refine j_getA (pc := 1) C fp_X9_10 ha0 rfl (f := 576) rfl (6, 0) (hG σ (6, 0)) z2 (⟨hp.1.1, rfl⟩ : At _ (6, 0) _) dX9_ruleNumbered_1 ?_
  refine j_iload_n (pc := 4) C dX9_ruleNumbered_4 rfl 1 rfl ?_
  refine j_callV (pc := 5) C [.int x] [] (rm0 := ({ frames := 6, cells := 1, slots := 6, locals := 85 } : Room)) (k' := 0) (n' := 0) Q.1 (c_X5_ruleNumbered_f (xl X) (xw X) hw hp (⟨hp.1.1, rfl⟩ : At _ (6, 0) _) h) mp_X5_ruleNumbered wm_709 (⟨hp.1.1, rfl⟩ : At _ (6, 0) _) rfl rfl (by decide) rfl rfl (Nat.le_of_ble_eq_true rfl) dX9_ruleNumbered_5 ⟨by decide, by decide⟩ ⟨Nat.le_of_ble_eq_true rfl, Nat.le_of_ble_eq_true rfl⟩ rfl rfl (det1 ?_)
  refine j_astore_nN (pc := 8) C [(2, .null), (0, .ref a0), (1, .int x)] dX9_ruleNumbered_8 rfl (by decide) rfl ?_
  refine j_aload_nN (pc := 9) C dX9_ruleNumbered_9 rfl 0 rfl ?_
  refine j_ifnonnullN (pc := 10) C dX9_ruleNumbered_10 ?_
  exact j_throw0 (pc := 13) C (rm := ({ frames := 6, cells := 1, slots := 6, locals := 85 } : Room)) Q NT tp_X9_117 dX9_ruleNumbered_13 dX9_ruleNumbered_16 dX9_ruleNumbered_17 dX9_ruleNumbered_20 ⟨by decide, by decide, by decide, by decide⟩ ⟨rfl, rfl⟩
set_option maxHeartbeats 4000000 in
set_option maxRecDepth 100000 in
theorem c_X9_takeDraft (L9 : Launch) (w9 : Wd) {σ : HS} {S : SP} (hw : WF S) (hc : CI S σ) {a0 : Nat} (ha0 : At σ (9, 0) a0)  : MJ L9 w9 yX9_takeDraft cX9_takeDraft 3 (some .long) ({ frames := 0, cells := 0, slots := 0, locals := 0 } : Room) [.ref a0] σ (fun a9 σ' => a9 = some (.long (enc5 (dr S))) ∧ σ' = sL σ 579 0 0 (lN 0)) := by
  refine MJ.of (by decide +kernel) (Nat.le_of_ble_eq_true rfl) (fun X hX1 hX2 C Q hinit => ?_)
  subst hX1; subst hX2
  show J X 0 0 σ [(0, .ref a0)] [] 0
  obtain ⟨hp, he, hx, hf9, hd⟩ := id hc
  obtain ⟨z1, z2, z3, z4⟩ := id hf9
  obtain ⟨ef, e1, e2⟩ := id he
  have gS := hw.1.1
  have gC := hw.1.2.2.2.1
  have gR := hw.2.1.1
  have gL := hw.2.2.1.1
  have gW := hw.2.2.2.1.1
  have gD := hw.2.2.2.2.1
  refine j_aload_n (pc := 0) C dX9_takeDraft_0 rfl 0 rfl ?_
  refine j_getL (pc := 1) C fp_X9_32 ha0 rfl (f := 579) rfl dX9_takeDraft_1 ?_
  refine j_topl (enc5 (dr S)) hd ?_
  refine j_lstore_n (pc := 4) C [(1, .long (enc5 (dr S))), (0, .ref a0)] dX9_takeDraft_4 rfl (by decide) rfl ?_
  refine j_aload_n (pc := 5) C dX9_takeDraft_5 rfl 1 rfl ?_
  refine j_lconst (pc := 6) C (lN 0) dX9_takeDraft_6 (by decide) ?_
  refine j_putL (pc := 7) C fp_X9_32 ha0 rfl rfl (Or.inl rfl) rfl (by decide) (f := 579) rfl dX9_takeDraft_7 ?_
  refine j_lload_n (pc := 10) C dX9_takeDraft_10 rfl 0 rfl ?_
  exact j_lreturn (pc := 11) C Q dX9_takeDraft_11 (Nat.le_of_ble_eq_true rfl) (Nat.le_of_ble_eq_true rfl) (⟨rfl, rfl⟩)
set_option maxHeartbeats 4000000 in
set_option maxRecDepth 100000 in
theorem c_X9_underlying (L9 : Launch) (w9 : Wd) {σ : HS} {S : SP} (hw : WF S) (hc : CI S σ) {a0 : Nat} (ha0 : At σ (9, 0) a0) {l c b : Nat} (hl : l < nL S) (hb : At σ (4, l) b) (hc8 : c < 8) : MJ L9 w9 yX9_underlying cX9_underlying 3 (some .long) ({ frames := 2, cells := 0, slots := 0, locals := 46 } : Room) [.ref a0, .ref b, .int (nI c)] σ (fun a9 σ' => a9 = some (.long (enc5 (base9 S l c))) ∧ σ' = σ) := by
  refine MJ.of (by decide +kernel) (Nat.le_of_ble_eq_true rfl) (fun X hX1 hX2 C Q hinit => ?_)
  subst hX1; subst hX2
  show J X 0 0 σ [(0, .ref a0), (1, .ref b), (2, .int (nI c))] [] 0
  obtain ⟨hp, he, hx, hf9, hd⟩ := id hc
  obtain ⟨z1, z2, z3, z4⟩ := id hf9
  obtain ⟨ef, e1, e2⟩ := id he
  have gS := hw.1.1
  have gC := hw.1.2.2.2.1
  have gR := hw.2.1.1
  have gL := hw.2.2.1.1
  have gW := hw.2.2.2.1.1
  have gD := hw.2.2.2.2.1
  obtain ⟨o1, o2, o3⟩ := WF_fo hw hl
  obtain ⟨q1, q2⟩ := WF_en hw c
  refine j_aload_n (pc := 0) C dX9_underlying_0 rfl 1 rfl ?_
  refine j_getL (pc := 1) C fp_X9_100 hb rfl (f := 257) rfl dX9_underlying_1 ?_
  refine j_topl (enc5 (fo S l)) ((hx.2.1.2.1 l hl).2.1) ?_
  refine j_aload_n (pc := 4) C dX9_underlying_4 rfl 0 rfl ?_
  refine j_getA (pc := 5) C fp_X9_26 ha0 rfl (f := 578) rfl (1, 100) (hG σ (1, 100)) z4 (⟨e1.1, rfl⟩ : At _ (1, 100) _) dX9_underlying_5 ?_
  refine j_iload_n (pc := 8) C dX9_underlying_8 rfl 2 rfl ?_
  refine j_callV (pc := 9) C [.int (nI c)] [.long (enc5 (fo S l))] (rm0 := ({ frames := 2, cells := 0, slots := 0, locals := 46 } : Room)) (k' := 0) (n' := 0) Q.1 (c_X0_in (xl X) (xw X) e1 hc8) mp_X0_in wm_282 (⟨e1.1, rfl⟩ : At _ (1, 100) _) rfl rfl (by decide) rfl rfl (Nat.le_of_ble_eq_true rfl) dX9_underlying_9 ⟨by decide, by decide⟩ ⟨Nat.le_of_ble_eq_true rfl, Nat.le_of_ble_eq_true rfl⟩ rfl rfl (det1 ?_)
  refine j_topl (enc5 (en S c)) (by rw [e2 c hc8]) ?_
  refine j_callS (pc := 12) C [.long (enc5 (fo S l)), .long (enc5 (en S c))] [] (rm0 := ({ frames := 2, cells := 0, slots := 0, locals := 46 } : Room)) (k' := 0) (n' := 0) Q.1 (c_X6_joined (xl X) (xw X) (o1.R hw.1) (q1.R hw.1) (by omega) (by omega)) mp_X6_joined wm_286 rfl rfl (Nat.le_of_ble_eq_true rfl) dX9_underlying_12 ⟨by decide, by decide⟩ ⟨Nat.le_of_ble_eq_true rfl, Nat.le_of_ble_eq_true rfl⟩ rfl rfl (det1 ?_)
  exact j_lreturn (pc := 15) C Q dX9_underlying_15 (Nat.le_of_ble_eq_true rfl) (Nat.le_of_ble_eq_true rfl) (⟨rfl, rfl⟩)
set_option maxHeartbeats 4000000 in
set_option maxRecDepth 100000 in
theorem c_X9_wordOf (L9 : Launch) (w9 : Wd) {σ : HS} {S : SP} (hw : WF S) (hc : CI S σ) {a0 : Nat} (ha0 : At σ (9, 0) a0) {l c b s : Nat} (hl : l < nL S) (tl : th S l = 1) (hb : At σ (4, l) b) (hc8 : c < 8) (hs : s < 2 ^ 31) : MJ L9 w9 yX9_wordOf cX9_wordOf 4 (some .long) ({ frames := 4, cells := 0, slots := 0, locals := 91 } : Room) [.ref a0, .ref b, .int (nI c), .int (nI s)] σ (fun a9 σ' => a9 = some (.long (enc5 ((xc9 S l c).getD (der S s (base9 S l c))))) ∧ σ' = σ) := by
  refine MJ.of (by decide +kernel) (Nat.le_of_ble_eq_true rfl) (fun X hX1 hX2 C Q hinit => ?_)
  subst hX1; subst hX2
  show J X 0 0 σ [(0, .ref a0), (1, .ref b), (2, .int (nI c)), (3, .int (nI s))] [] 0
  obtain ⟨hp, he, hx, hf9, hd⟩ := id hc
  obtain ⟨z1, z2, z3, z4⟩ := id hf9
  obtain ⟨ef, e1, e2⟩ := id he
  have gS := hw.1.1
  have gC := hw.1.2.2.2.1
  have gR := hw.2.1.1
  have gL := hw.2.2.1.1
  have gW := hw.2.2.2.1.1
  have gD := hw.2.2.2.2.1
  have hX := (hx.2.2.1 l hl).t tl
  refine j_aload_n (pc := 0) C dX9_wordOf_0 rfl 1 rfl ?_
  refine j_getA (pc := 1) C fp_X9_163 hb rfl (f := 259) rfl (1, l) (hG σ (1, l)) ((hx.2.1.2.1 l hl).2.2.2) (⟨((hx.2.2.1 l hl).t tl).1, rfl⟩ : At _ (1, l) _) dX9_wordOf_1 ?_
  refine j_iload_n (pc := 4) C dX9_wordOf_4 rfl 2 rfl ?_
  refine j_callV (pc := 5) C [.int (nI c)] [] (rm0 := ({ frames := 4, cells := 0, slots := 0, locals := 91 } : Room)) (k' := 0) (n' := 0) Q.1 (c_X0_has (xl X) (xw X) hX hc8) mp_X0_has wm_359 (⟨((hx.2.2.1 l hl).t tl).1, rfl⟩ : At _ (1, l) _) rfl rfl (Nat.le_of_ble_eq_true rfl) rfl rfl (Nat.le_of_ble_eq_true rfl) dX9_wordOf_5 ⟨by decide, by decide⟩ ⟨Nat.le_of_ble_eq_true rfl, Nat.le_of_ble_eq_true rfl⟩ rfl rfl (det1 ?_)
  refine jb_if_eq (pc := 8) C 20 (b := (xc9 S l c).isSome) dX9_wordOf_8 (by decide) (fun c1 => ?_) (fun c1 => ?_)
  · have c2 : xc9 S l c = none := Option.not_isSome_iff_eq_none.mp (by rw [c1]; decide)
    refine j_aload_n (pc := 20) C dX9_wordOf_20 rfl 0 rfl ?_
    refine j_getA (pc := 21) C fp_X9_10 ha0 rfl (f := 576) rfl (6, 0) (hG σ (6, 0)) z2 (⟨hp.1.1, rfl⟩ : At _ (6, 0) _) dX9_wordOf_21 ?_
    refine j_aload_n (pc := 24) C dX9_wordOf_24 rfl 0 rfl ?_
    refine j_aload_n (pc := 25) C dX9_wordOf_25 rfl 1 rfl ?_
    refine j_iload_n (pc := 26) C dX9_wordOf_26 rfl 2 rfl ?_
    refine j_callV (pc := 27) C [.ref b, .int (nI c)] [.ref (hG σ (6, 0))] (rm0 := ({ frames := 4, cells := 0, slots := 0, locals := 91 } : Room)) (k' := 0) (n' := 0) Q.1 (c_X9_underlying (xl X) (xw X) hw hc ha0 hl hb hc8) mp_X9_underlying wm_278 ha0 rfl rfl (by decide) rfl rfl (Nat.le_of_ble_eq_true rfl) dX9_wordOf_27 ⟨by decide, by decide⟩ ⟨Nat.le_of_ble_eq_true rfl, Nat.le_of_ble_eq_true rfl⟩ rfl rfl (det1 ?_)
    refine j_iload_n (pc := 30) C dX9_wordOf_30 rfl 3 rfl ?_
    refine j_callV (pc := 31) C [.long (enc5 (base9 S l c)), .int (nI s)] [] (rm0 := ({ frames := 4, cells := 0, slots := 0, locals := 91 } : Room)) (k' := 0) (n' := 0) Q.1 (c_X5_derive (xl X) (xw X) hw hp (⟨hp.1.1, rfl⟩ : At _ (6, 0) _) (WF_base hw hl c) hs) mp_X5_derive wm_933 (⟨hp.1.1, rfl⟩ : At _ (6, 0) _) rfl rfl (by decide) rfl rfl (Nat.le_of_ble_eq_true rfl) dX9_wordOf_31 ⟨by decide, by decide⟩ ⟨Nat.le_of_ble_eq_true rfl, Nat.le_of_ble_eq_true rfl⟩ rfl rfl (det1 ?_)
    refine j_topl (enc5 ((xc9 S l c).getD (der S s (base9 S l c)))) (by rw [c2]; rfl) ?_
    exact j_lreturn (pc := 34) C Q dX9_wordOf_34 (Nat.le_of_ble_eq_true rfl) (Nat.le_of_ble_eq_true rfl) (⟨rfl, rfl⟩)
  · obtain ⟨r, c2⟩ := Option.isSome_iff_exists.mp c1
    refine j_aload_n (pc := 11) C dX9_wordOf_11 rfl 1 rfl ?_
    refine j_getA (pc := 12) C fp_X9_163 hb rfl (f := 259) rfl (1, l) (hG σ (1, l)) ((hx.2.1.2.1 l hl).2.2.2) (⟨((hx.2.2.1 l hl).t tl).1, rfl⟩ : At _ (1, l) _) dX9_wordOf_12 ?_
    refine j_iload_n (pc := 15) C dX9_wordOf_15 rfl 2 rfl ?_
    refine j_callV (pc := 16) C [.int (nI c)] [] (rm0 := ({ frames := 4, cells := 0, slots := 0, locals := 91 } : Room)) (k' := 0) (n' := 0) Q.1 (c_X0_in (xl X) (xw X) hX hc8) mp_X0_in wm_282 (⟨((hx.2.2.1 l hl).t tl).1, rfl⟩ : At _ (1, l) _) rfl rfl (Nat.le_of_ble_eq_true rfl) rfl rfl (Nat.le_of_ble_eq_true rfl) dX9_wordOf_16 ⟨by decide, by decide⟩ ⟨Nat.le_of_ble_eq_true rfl, Nat.le_of_ble_eq_true rfl⟩ rfl rfl (det1 ?_)
    refine j_topl (enc5 ((xc9 S l c).getD (der S s (base9 S l c)))) (by rw [c2]; rfl) ?_
    exact j_lreturn (pc := 19) C Q dX9_wordOf_19 (Nat.le_of_ble_eq_true rfl) (Nat.le_of_ble_eq_true rfl) (⟨rfl, rfl⟩)
def fitC (S : SP) (w s : Nat) : Bool := decide (hr S w = (xc9 S (ol S w) (cw S w)).getD (der S s (base9 S (ol S w) (cw S w))))
theorem xc_ok {S : SP} (hw : WF S) {l c s : Nat} (hl : l < nL S) : okR ((xc9 S l c).getD (der S s (base9 S l c))) := by
  cases e : xc9 S l c with
  | none => exact (der_ok hw (WF_base hw hl c)).R hw.1
  | some r => exact (hw.2.2.1.2.2.2.2.1 _ r e).R hw.1
set_option maxHeartbeats 4000000 in
set_option maxRecDepth 100000 in
theorem c_X9_fits (L9 : Launch) (w9 : Wd) {σ : HS} {S : SP} (hw : WF S) (hc : CI S σ) {a0 : Nat} (ha0 : At σ (9, 0) a0) {v b s : Nat} (hv : v < nW S) (hh : hd9 S v = 1) (hb : At σ (8, v) b) (hs : s < 2 ^ 31) : MJ L9 w9 yX9_fits cX9_fits 3 (some .boolean) ({ frames := 5, cells := 0, slots := 0, locals := 114 } : Room) [.ref a0, .ref b, .int (nI s)] σ (fun a9 σ' => a9 = some (.int (bI (fitC S v s))) ∧ σ' = σ) := by
  refine MJ.of (by decide +kernel) (Nat.le_of_ble_eq_true rfl) (fun X hX1 hX2 C Q hinit => ?_)
  subst hX1; subst hX2
  show J X 0 0 σ [(0, .ref a0), (1, .ref b), (2, .int (nI s))] [] 0
  obtain ⟨hp, he, hx, hf9, hd⟩ := id hc
  obtain ⟨z1, z2, z3, z4⟩ := id hf9
  obtain ⟨ef, e1, e2⟩ := id he
  have gS := hw.1.1
  have gC := hw.1.2.2.2.1
  have gR := hw.2.1.1
  have gL := hw.2.2.1.1
  have gW := hw.2.2.2.1.1
  have gD := hw.2.2.2.2.1
  obtain ⟨q1, q2, q3, q4, q5⟩ := hw.2.2.2.1.2.2 v hv
  have iq := enc5_inj (okR_hr hw v) (xc_ok hw (c := cw S v) (s := s) q1)
  refine j_aload_n (pc := 0) C dX9_fits_0 rfl 1 rfl ?_
  refine j_getL (pc := 1) C fp_X9_153 hb rfl (f := 515) rfl dX9_fits_1 ?_
  refine j_topl (enc5 (hr S v)) ((hx.2.2.2.1.2.1 v hv).2.2.2.1) ?_
  refine j_aload_n (pc := 4) C dX9_fits_4 rfl 0 rfl ?_
  refine j_aload_n (pc := 5) C dX9_fits_5 rfl 1 rfl ?_
  refine j_getA (pc := 6) C fp_X9_211 hb rfl (f := 512) rfl (4, ol S v) (hG σ (4, ol S v)) ((hx.2.2.2.1.2.1 v hv).1) (⟨hx.2.1.1.live (hw.2.2.2.1.2.2 v hv).1, rfl⟩ : At _ (4, ol S v) _) dX9_fits_6 ?_
  refine j_aload_n (pc := 9) C dX9_fits_9 rfl 1 rfl ?_
  refine j_getI (pc := 10) C fp_X9_215 hb rfl (f := 513) rfl dX9_fits_10 ?_
  refine j_topi (nI (cw S v)) ((hx.2.2.2.1.2.1 v hv).2.1) ?_
  refine j_iload_n (pc := 13) C dX9_fits_13 rfl 2 rfl ?_
  refine j_callV (pc := 14) C [.ref (hG σ (4, ol S v)), .int (nI (cw S v)), .int (nI s)] [.long (enc5 (hr S v))] (rm0 := ({ frames := 5, cells := 0, slots := 0, locals := 114 } : Room)) (k' := 0) (n' := 0) Q.1 (c_X9_wordOf (xl X) (xw X) hw hc ha0 q1 (q5 hh) (⟨hx.2.1.1.live (hw.2.2.2.1.2.2 v hv).1, rfl⟩ : At _ (4, ol S v) _) q2 hs) mp_X9_wordOf wm_929 ha0 rfl rfl (by decide) rfl rfl (Nat.le_of_ble_eq_true rfl) dX9_fits_14 ⟨by decide, by decide⟩ ⟨Nat.le_of_ble_eq_true rfl, Nat.le_of_ble_eq_true rfl⟩ rfl rfl (det1 ?_)
  refine j_lcmp (pc := 17) C dX9_fits_17 ?_
  refine jl_if_ne (pc := 18) C 25 dX9_fits_18 (by decide) (fun c1 => ?_) (fun c1 => ?_)
  · refine j_iconst (pc := 25) C (nI 0) dX9_fits_25 (by decide) ?_
    refine j_topi (bI (fitC S v s)) (by unfold fitC; rw [decide_eq_false (fun z => c1 (iq.mpr z))]; rfl) ?_
    exact j_zreturn (pc := 26) C Q dX9_fits_26 (bI_nar _) (Nat.le_of_ble_eq_true rfl) (Nat.le_of_ble_eq_true rfl) (⟨rfl, rfl⟩)
  · refine j_iconst (pc := 21) C (nI 1) dX9_fits_21 (by decide) ?_
    refine j_goto (pc := 22) C 26 dX9_fits_22 (by decide) ?_
    refine j_topi (bI (fitC S v s)) (by unfold fitC; rw [decide_eq_true (iq.mp c1)]; rfl) ?_
    exact j_zreturn (pc := 26) C Q dX9_fits_26 (bI_nar _) (Nat.le_of_ble_eq_true rfl) (Nat.le_of_ble_eq_true rfl) (⟨rfl, rfl⟩)
set_option maxHeartbeats 4000000 in
set_option maxRecDepth 100000 in
theorem c_X9_isSupport (L9 : Launch) (w9 : Wd) {σ : HS} {S : SP} (hw : WF S) (hc : CI S σ) {a0 : Nat} (ha0 : At σ (9, 0) a0) {v b r d : Nat} (hv : v < nW S) (hh : hd9 S v = 1) (hb : At σ (8, v) b) (hr9 : r < nR S) (hb9 : At σ (7, r) d) : MJ L9 w9 yX9_isSupport cX9_isSupport 3 (some .boolean) ({ frames := 6, cells := 0, slots := 0, locals := 136 } : Room) [.ref a0, .ref b, .ref d] σ (fun a9 σ' => a9 = some (.int (bI ((xc9 S (ol S v) (cw S v)).isNone && fitC S v (on9 S) && decide (0 < steps9 S (ol S v) (cw S v) r)))) ∧ σ' = σ) := by
  refine MJ.of (by decide +kernel) (Nat.le_of_ble_eq_true rfl) (fun X hX1 hX2 C Q hinit => ?_)
  subst hX1; subst hX2
  show J X 0 0 σ [(0, .ref a0), (1, .ref b), (2, .ref d)] [] 0
  obtain ⟨hp, he, hx, hf9, hd⟩ := id hc
  obtain ⟨z1, z2, z3, z4⟩ := id hf9
  obtain ⟨ef, e1, e2⟩ := id he
  have gS := hw.1.1
  have gC := hw.1.2.2.2.1
  have gR := hw.2.1.1
  have gL := hw.2.2.1.1
  have gW := hw.2.2.2.1.1
  have gD := hw.2.2.2.2.1
  obtain ⟨q1, q2, q3, q4, q5⟩ := hw.2.2.2.1.2.2 v hv
  have hon : on9 S < 2 ^ 31 := Nat.lt_of_lt_of_le hw.2.1.2.2.2.2 (Nat.pow_le_pow_right (by decide) (by omega))
  have hst : steps9 S (ol S v) (cw S v) r ≤ 8 := steps_le hw q1 q2 hr9
  refine j_aload_n (pc := 0) C dX9_isSupport_0 rfl 1 rfl ?_
  refine j_callV (pc := 1) C [] [] (rm0 := ({ frames := 6, cells := 0, slots := 0, locals := 136 } : Room)) (k' := 0) (n' := 0) Q.1 (c_X8_isOfException (xl X) (xw X) hb (hx.2.2.2.1.2.1 v hv).1 (hx.2.1.1.live q1) (hx.2.1.2.1 _ q1).2.2.2 ((hx.2.2.1 _ q1).t (q5 hh)) (hx.2.2.2.1.2.1 v hv).2.1 q2) mp_X8_isOfException wm_267 hb rfl rfl (Nat.le_of_ble_eq_true rfl) rfl rfl (Nat.le_of_ble_eq_true rfl) dX9_isSupport_1 ⟨by decide, by decide⟩ ⟨Nat.le_of_ble_eq_true rfl, Nat.le_of_ble_eq_true rfl⟩ rfl rfl (det1 ?_)
  refine jb_if_ne (pc := 4) C 49 (b := (xc9 S (ol S v) (cw S v)).isSome) dX9_isSupport_4 (by decide) (fun c1 => ?_) (fun c1 => ?_)
  · refine j_iconst (pc := 49) C (nI 0) dX9_isSupport_49 (by decide) ?_
    refine j_topi (bI ((xc9 S (ol S v) (cw S v)).isNone && fitC S v (on9 S) && decide (0 < steps9 S (ol S v) (cw S v) r))) (by rw [← Option.not_isSome, c1]; rfl) ?_
    exact j_zreturn (pc := 50) C Q dX9_isSupport_50 (bI_nar _) (Nat.le_of_ble_eq_true rfl) (Nat.le_of_ble_eq_true rfl) (⟨rfl, rfl⟩)
  · have c2 : (xc9 S (ol S v) (cw S v)).isNone = true := by rw [← Option.not_isSome, c1]; rfl
    refine j_aload_n (pc := 7) C dX9_isSupport_7 rfl 0 rfl ?_
    refine j_aload_n (pc := 8) C dX9_isSupport_8 rfl 1 rfl ?_
    refine j_aload_n (pc := 9) C dX9_isSupport_9 rfl 0 rfl ?_
    refine j_getA (pc := 10) C fp_X9_10 ha0 rfl (f := 576) rfl (6, 0) (hG σ (6, 0)) z2 (⟨hp.1.1, rfl⟩ : At _ (6, 0) _) dX9_isSupport_10 ?_
    refine j_callV (pc := 13) C [] [.ref b, .ref a0] (rm0 := ({ frames := 6, cells := 0, slots := 0, locals := 136 } : Room)) (k' := 0) (n' := 0) Q.1 (c_X5_setOfOn (xl X) (xw X) hw hp (⟨hp.1.1, rfl⟩ : At _ (6, 0) _)) mp_X5_setOfOn wm_925 (⟨hp.1.1, rfl⟩ : At _ (6, 0) _) rfl rfl (by decide) rfl rfl (Nat.le_of_ble_eq_true rfl) dX9_isSupport_13 ⟨by decide, by decide⟩ ⟨Nat.le_of_ble_eq_true rfl, Nat.le_of_ble_eq_true rfl⟩ rfl rfl (det1 ?_)
    refine j_callV (pc := 16) C [.ref b, .int (nI (on9 S))] [] (rm0 := ({ frames := 6, cells := 0, slots := 0, locals := 136 } : Room)) (k' := 0) (n' := 0) Q.1 (c_X9_fits (xl X) (xw X) hw hc ha0 hv hh hb hon) mp_X9_fits wm_972 ha0 rfl rfl (by decide) rfl rfl (Nat.le_of_ble_eq_true rfl) dX9_isSupport_16 ⟨by decide, by decide⟩ ⟨Nat.le_of_ble_eq_true rfl, Nat.le_of_ble_eq_true rfl⟩ rfl rfl (det1 ?_)
    refine jb_if_eq (pc := 19) C 49 (b := fitC S v (on9 S)) dX9_isSupport_19 (by decide) (fun c3 => ?_) (fun c3 => ?_)
    · refine j_iconst (pc := 49) C (nI 0) dX9_isSupport_49 (by decide) ?_
      refine j_topi (bI ((xc9 S (ol S v) (cw S v)).isNone && fitC S v (on9 S) && decide (0 < steps9 S (ol S v) (cw S v) r))) (by rw [c3, Bool.and_false]; rfl) ?_
      exact j_zreturn (pc := 50) C Q dX9_isSupport_50 (bI_nar _) (Nat.le_of_ble_eq_true rfl) (Nat.le_of_ble_eq_true rfl) (⟨rfl, rfl⟩)
    · refine j_aload_n (pc := 22) C dX9_isSupport_22 rfl 0 rfl ?_
      refine j_getA (pc := 23) C fp_X9_10 ha0 rfl (f := 576) rfl (6, 0) (hG σ (6, 0)) z2 (⟨hp.1.1, rfl⟩ : At _ (6, 0) _) dX9_isSupport_23 ?_
      refine j_aload_n (pc := 26) C dX9_isSupport_26 rfl 2 rfl ?_
      refine j_aload_n (pc := 27) C dX9_isSupport_27 rfl 0 rfl ?_
      refine j_aload_n (pc := 28) C dX9_isSupport_28 rfl 1 rfl ?_
      refine j_getA (pc := 29) C fp_X9_211 hb rfl (f := 512) rfl (4, ol S v) (hG σ (4, ol S v)) ((hx.2.2.2.1.2.1 v hv).1) (⟨hx.2.1.1.live (hw.2.2.2.1.2.2 v hv).1, rfl⟩ : At _ (4, ol S v) _) dX9_isSupport_29 ?_
      refine j_aload_n (pc := 32) C dX9_isSupport_32 rfl 1 rfl ?_
      refine j_getI (pc := 33) C fp_X9_215 hb rfl (f := 513) rfl dX9_isSupport_33 ?_
      refine j_topi (nI (cw S v)) ((hx.2.2.2.1.2.1 v hv).2.1) ?_
      refine j_callV (pc := 36) C [.ref (hG σ (4, ol S v)), .int (nI (cw S v))] [.ref d, .ref (hG σ (6, 0))] (rm0 := ({ frames := 6, cells := 0, slots := 0, locals := 136 } : Room)) (k' := 0) (n' := 0) Q.1 (c_X9_underlying (xl X) (xw X) hw hc ha0 q1 (⟨hx.2.1.1.live (hw.2.2.2.1.2.2 v hv).1, rfl⟩ : At _ (4, ol S v) _) q2) mp_X9_underlying wm_278 ha0 rfl rfl (by decide) rfl rfl (Nat.le_of_ble_eq_true rfl) dX9_isSupport_36 ⟨by decide, by decide⟩ ⟨Nat.le_of_ble_eq_true rfl, Nat.le_of_ble_eq_true rfl⟩ rfl rfl (det1 ?_)
      refine j_callV (pc := 39) C [.ref d, .long (enc5 (base9 S (ol S v) (cw S v)))] [] (rm0 := ({ frames := 6, cells := 0, slots := 0, locals := 136 } : Room)) (k' := 0) (n' := 0) Q.1 (c_X5_changesBy (xl X) (xw X) hw hp (⟨hp.1.1, rfl⟩ : At _ (6, 0) _) hr9 hb9 (WF_base hw q1 _)) mp_X5_changesBy wm_958 (⟨hp.1.1, rfl⟩ : At _ (6, 0) _) rfl rfl (by decide) rfl rfl (Nat.le_of_ble_eq_true rfl) dX9_isSupport_39 ⟨by decide, by decide⟩ ⟨Nat.le_of_ble_eq_true rfl, Nat.le_of_ble_eq_true rfl⟩ rfl rfl (det1 ?_)
      refine j_topi (nI (steps9 S (ol S v) (cw S v) r)) rfl ?_
      refine jn_if_le (pc := 42) C 49 (a := steps9 S (ol S v) (cw S v) r) (by omega) dX9_isSupport_42 (by decide) (fun c4 => ?_) (fun c4 => ?_)
      · refine j_iconst (pc := 49) C (nI 0) dX9_isSupport_49 (by decide) ?_
        refine j_topi (bI ((xc9 S (ol S v) (cw S v)).isNone && fitC S v (on9 S) && decide (0 < steps9 S (ol S v) (cw S v) r))) (by rw [decide_eq_false (by omega), Bool.and_false]; rfl) ?_
        exact j_zreturn (pc := 50) C Q dX9_isSupport_50 (bI_nar _) (Nat.le_of_ble_eq_true rfl) (Nat.le_of_ble_eq_true rfl) (⟨rfl, rfl⟩)
      · refine j_iconst (pc := 45) C (nI 1) dX9_isSupport_45 (by decide) ?_
        refine j_goto (pc := 46) C 50 dX9_isSupport_46 (by decide) ?_
        refine j_topi (bI ((xc9 S (ol S v) (cw S v)).isNone && fitC S v (on9 S) && decide (0 < steps9 S (ol S v) (cw S v) r))) (by rw [c2, c3, decide_eq_true c4]; rfl) ?_
        exact j_zreturn (pc := 50) C Q dX9_isSupport_50 (bI_nar _) (Nat.le_of_ble_eq_true rfl) (Nat.le_of_ble_eq_true rfl) (⟨rfl, rfl⟩)
set_option maxHeartbeats 4000000 in
set_option maxRecDepth 100000 in
theorem c_X9_isContradiction (L9 : Launch) (w9 : Wd) {σ : HS} {S : SP} (hw : WF S) (hc : CI S σ) {a0 : Nat} (ha0 : At σ (9, 0) a0) {v b r d : Nat} (hv : v < nW S) (hh : hd9 S v = 1) (hb : At σ (8, v) b) (hr9 : r < nR S) (hb9 : At σ (7, r) d) : MJ L9 w9 yX9_isContradiction cX9_isContradiction 4 (some .boolean) ({ frames := 6, cells := 0, slots := 0, locals := 136 } : Room) [.ref a0, .ref b, .ref d] σ (fun a9 σ' => a9 = some (.int (bI (!fitC S v (on9 S) && fitC S v (setOn (on9 S) r false)))) ∧ σ' = σ) := by
  refine MJ.of (by decide +kernel) (Nat.le_of_ble_eq_true rfl) (fun X hX1 hX2 C Q hinit => ?_)
  subst hX1; subst hX2
  show J X 0 0 σ [(0, .ref a0), (1, .ref b), (2, .ref d)] [] 0
  obtain ⟨hp, he, hx, hf9, hd⟩ := id hc
  obtain ⟨z1, z2, z3, z4⟩ := id hf9
  obtain ⟨ef, e1, e2⟩ := id he
  have gS := hw.1.1
  have gC := hw.1.2.2.2.1
  have gR := hw.2.1.1
  have gL := hw.2.2.1.1
  have gW := hw.2.2.2.1.1
  have gD := hw.2.2.2.2.1
  have hon : on9 S < 2 ^ 31 := Nat.lt_of_lt_of_le hw.2.1.2.2.2.2 (Nat.pow_le_pow_right (by decide) (by omega))
  have hon2 : setOn (on9 S) r false < 2 ^ 31 := setOn_lt hon (by omega)
  refine j_aload_n (pc := 0) C dX9_isContradiction_0 rfl 0 rfl ?_
  refine j_getA (pc := 1) C fp_X9_10 ha0 rfl (f := 576) rfl (6, 0) (hG σ (6, 0)) z2 (⟨hp.1.1, rfl⟩ : At _ (6, 0) _) dX9_isContradiction_1 ?_
  refine j_callV (pc := 4) C [] [] (rm0 := ({ frames := 6, cells := 0, slots := 0, locals := 136 } : Room)) (k' := 0) (n' := 0) Q.1 (c_X5_setOfOn (xl X) (xw X) hw hp (⟨hp.1.1, rfl⟩ : At _ (6, 0) _)) mp_X5_setOfOn wm_925 (⟨hp.1.1, rfl⟩ : At _ (6, 0) _) rfl rfl (by decide) rfl rfl (Nat.le_of_ble_eq_true rfl) dX9_isContradiction_4 ⟨by decide, by decide⟩ ⟨Nat.le_of_ble_eq_true rfl, Nat.le_of_ble_eq_true rfl⟩ rfl rfl (det1 ?_)
  refine j_istore_n (pc := 7) C [(3, .int (nI (on9 S))), (0, .ref a0), (1, .ref b), (2, .ref d)] dX9_isContradiction_7 rfl (by decide) rfl ?_
  refine j_aload_n (pc := 8) C dX9_isContradiction_8 rfl 1 rfl ?_
  refine j_aload_n (pc := 9) C dX9_isContradiction_9 rfl 2 rfl ?_
  refine j_iload_n (pc := 10) C dX9_isContradiction_10 rfl 0 rfl ?_
  refine j_callV (pc := 11) C [.ref b, .int (nI (on9 S))] [] (rm0 := ({ frames := 6, cells := 0, slots := 0, locals := 136 } : Room)) (k' := 0) (n' := 0) Q.1 (c_X9_fits (xl X) (xw X) hw hc ha0 hv hh hb hon) mp_X9_fits wm_972 ha0 rfl rfl (by decide) rfl rfl (Nat.le_of_ble_eq_true rfl) dX9_isContradiction_11 ⟨by decide, by decide⟩ ⟨Nat.le_of_ble_eq_true rfl, Nat.le_of_ble_eq_true rfl⟩ rfl rfl (det1 ?_)
  refine jb_if_ne (pc := 14) C 37 (b := fitC S v (on9 S)) dX9_isContradiction_14 (by decide) (fun c1 => ?_) (fun c1 => ?_)
  · refine j_iconst (pc := 37) C (nI 0) dX9_isContradiction_37 (by decide) ?_
    refine j_topi (bI (!fitC S v (on9 S) && fitC S v (setOn (on9 S) r false))) (by rw [c1]; rfl) ?_
    exact j_zreturn (pc := 38) C Q dX9_isContradiction_38 (bI_nar _) (Nat.le_of_ble_eq_true rfl) (Nat.le_of_ble_eq_true rfl) (⟨rfl, rfl⟩)
  · refine j_aload_n (pc := 17) C dX9_isContradiction_17 rfl 1 rfl ?_
    refine j_aload_n (pc := 18) C dX9_isContradiction_18 rfl 2 rfl ?_
    refine j_iload_n (pc := 19) C dX9_isContradiction_19 rfl 0 rfl ?_
    refine j_aload_n (pc := 20) C dX9_isContradiction_20 rfl 3 rfl ?_
    refine j_callV (pc := 21) C [] [.int (nI (on9 S)), .ref b, .ref a0] (rm0 := ({ frames := 6, cells := 0, slots := 0, locals := 136 } : Room)) (k' := 0) (n' := 0) Q.1 (c_X7_bit (xl X) (xw X) hb9 (hp.2.2.2.2.2.1 r hr9).1 (by omega)) mp_X7_bit wm_998 hb9 rfl rfl (Nat.le_of_ble_eq_true rfl) rfl rfl (Nat.le_of_ble_eq_true rfl) dX9_isContradiction_21 ⟨by decide, by decide⟩ ⟨Nat.le_of_ble_eq_true rfl, Nat.le_of_ble_eq_true rfl⟩ rfl rfl (det1 ?_)
    refine j_iconst (pc := 24) C (-1) dX9_isContradiction_24 (by decide) ?_
    refine j_ixor (pc := 25) C dX9_isContradiction_25 ?_
    refine j_iand (pc := 26) C dX9_isContradiction_26 ?_
    refine j_topi (nI (setOn (on9 S) r false)) (setOn_off (by omega)) ?_
    refine j_callV (pc := 27) C [.ref b, .int (nI (setOn (on9 S) r false))] [] (rm0 := ({ frames := 6, cells := 0, slots := 0, locals := 136 } : Room)) (k' := 0) (n' := 0) Q.1 (c_X9_fits (xl X) (xw X) hw hc ha0 hv hh hb hon2) mp_X9_fits wm_972 ha0 rfl rfl (by decide) rfl rfl (Nat.le_of_ble_eq_true rfl) dX9_isContradiction_27 ⟨by decide, by decide⟩ ⟨Nat.le_of_ble_eq_true rfl, Nat.le_of_ble_eq_true rfl⟩ rfl rfl (det1 ?_)
    refine jb_if_eq (pc := 30) C 37 (b := fitC S v (setOn (on9 S) r false)) dX9_isContradiction_30 (by decide) (fun c2 => ?_) (fun c2 => ?_)
    · refine j_iconst (pc := 37) C (nI 0) dX9_isContradiction_37 (by decide) ?_
      refine j_topi (bI (!fitC S v (on9 S) && fitC S v (setOn (on9 S) r false))) (by rw [c2, Bool.and_false]; rfl) ?_
      exact j_zreturn (pc := 38) C Q dX9_isContradiction_38 (bI_nar _) (Nat.le_of_ble_eq_true rfl) (Nat.le_of_ble_eq_true rfl) (⟨rfl, rfl⟩)
    · refine j_iconst (pc := 33) C (nI 1) dX9_isContradiction_33 (by decide) ?_
      refine j_goto (pc := 34) C 38 dX9_isContradiction_34 (by decide) ?_
      refine j_topi (bI (!fitC S v (on9 S) && fitC S v (setOn (on9 S) r false))) (by rw [c1, c2]; rfl) ?_
      exact j_zreturn (pc := 38) C Q dX9_isContradiction_38 (bI_nar _) (Nat.le_of_ble_eq_true rfl) (Nat.le_of_ble_eq_true rfl) (⟨rfl, rfl⟩)
