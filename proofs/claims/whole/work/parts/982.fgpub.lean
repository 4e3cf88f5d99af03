def tg99 (t : Tg) : Prop := t.1 = 9 ∧ t.2 = 0
theorem k_take (L9 : Launch) (w9 : Wd) {σ : HS} {S : SP} (hw : WF S) (hc : CI S σ) {a0 : Nat} (ha0 : At σ (9, 0) a0) : MJ L9 w9 yX9_takeDraft cX9_takeDraft 3 (some .long) ({ frames := 0, cells := 0, slots := 0, locals := 0 } : Room) [.ref a0] σ (fun a9 σ' => a9 = some (.long (enc5 (dr S))) ∧ CI (noDraft S) σ' ∧ Fr tg99 σ σ') := by
  refine (c_X9_takeDraft L9 w9 hw hc ha0).imp ?_
  rintro v σ' ⟨rfl, rfl⟩
  exact ⟨rfl, (hc.wipe hw).1, Fr.rf.sL (f := 579) ⟨rfl, rfl⟩⟩
theorem tg99_U {t : Tg} (h : tg99 t) : tgU t := Or.inl (Or.inr (Or.inr (Or.inr (Or.inr (Or.inr (Or.inr h))))))
theorem ci_tr {S : SP} {σ0 σ σ' : HS} {P : Tg → Prop} (k : Fr P σ0 σ) (hP : ∀ t, P t → tgU t) (h : CI S σ' ∧ Fr tgU σ σ') : CI S σ' ∧ Fr tgU σ0 σ' := ⟨h.1, (k.wide hP).tr h.2⟩
theorem sideN_lt {S : SP} {x : Int32} (h : isSide9 S x = true) : sideN x < nC S + 2 := by
  unfold sideN
  by_cases e1 : x = -1
  · rw [if_pos e1]; omega
  · rw [if_neg e1]
    by_cases e2 : x = -2
    · rw [if_pos e2]; omega
    · rw [if_neg e2]
      unfold isSide9 at h
      rw [decide_eq_false e1, decide_eq_false e2, Bool.false_or, Bool.false_or] at h
      have := (inI_t h).1
      omega
theorem side_at {S : SP} {σ : HS} (hp : PH9 S σ) {x : Int32} (h : isSide9 S x = true) : At σ (sideT (sideN x)) (hG σ (sideT (sideN x))) := by
  refine ⟨?_, rfl⟩
  rw [sideT_3]
  exact (side_code hp.1 hp.2.1 (sideN_lt h) (j := 0) (by decide)).2
theorem raise_n {S : SP} {r : Nat} {p : Nat → Nat → Bool} (h : p 704 27 = false) : EqN p S (S_raise S r) := by
  unfold S_raise
  split
  · exact EqN.rf
  · exact (EqN.rf.zN h).zN h
theorem raise_r {S : SP} {r : Nat} : (S_raise S r).2 = S.2 := by
  unfold S_raise
  split <;> rfl
set_option maxHeartbeats 4000000 in
set_option maxRecDepth 100000 in
theorem c_X9_sound_0 (L9 : Launch) (w9 : Wd) {σ : HS} {S : SP} (hw : WF S) (hc : CI S σ) {a0 : Nat} (ha0 : At σ (9, 0) a0) {n : Nat} (h1 : n < 64) (h2 : wi S n = 0) (h3 : nS S < 16) : MJ L9 w9 yX9_sound cX9_sound 2 (some .int) ({ frames := 4, cells := 0, slots := 0, locals := 88 } : Room) [.ref a0, .int (nI n)] σ (fun a9 σ' => a9 = some (.int (nI (nS S))) ∧ CI (S_sound S n) σ' ∧ Fr tgU σ σ') := by
  refine MJ.of (by decide +kernel) (Nat.le_of_ble_eq_true rfl) (fun X hX1 hX2 C Q hinit => ?_)
  subst hX1; subst hX2
  show J X 0 0 σ [(0, .ref a0), (1, .int (nI n))] [] 0
  obtain ⟨hp, he, hx, hf9, hd⟩ := id hc
  obtain ⟨z1, z2, z3, z4⟩ := id hf9
  obtain ⟨ef, e1, e2⟩ := id he
  have gS := hw.1.1
  have gC := hw.1.2.2.2.1
  have gR := hw.2.1.1
  have gL := hw.2.2.1.1
  have gW := hw.2.2.2.1.1
  have gD := hw.2.2.2.2.1
  refine j_iload_n (pc := 0) C dX9_sound_0 rfl 1 rfl ?_
  refine j_callS (pc := 1) C [.int (nI n)] [] (rm0 := ({ frames := 4, cells := 0, slots := 0, locals := 88 } : Room)) (k' := 0) (n' := 0) Q.1 (c_X9_checkFeatures_t (xl X) (xw X) h1) mp_X9_checkFeatures wm_377 rfl rfl (Nat.le_of_ble_eq_true rfl) dX9_sound_1 ⟨by decide, by decide⟩ ⟨Nat.le_of_ble_eq_true rfl, Nat.le_of_ble_eq_true rfl⟩ rfl rfl (det0 ?_)
  refine j_aload_n (pc := 4) C dX9_sound_4 rfl 0 rfl ?_
  refine j_getA (pc := 5) C fp_X9_10 ha0 rfl (f := 576) rfl (6, 0) (hG σ (6, 0)) z2 (⟨hp.1.1, rfl⟩ : At _ (6, 0) _) dX9_sound_5 ?_
  refine j_iload_n (pc := 8) C dX9_sound_8 rfl 1 rfl ?_
  refine j_callV (pc := 9) C [.int (nI n)] [] (rm0 := ({ frames := 4, cells := 0, slots := 0, locals := 88 } : Room)) (k' := 0) (n' := 0) Q.1 (c_X5_hasSoundWith (xl X) (xw X) hw hp (⟨hp.1.1, rfl⟩ : At _ (6, 0) _) h1) mp_X5_hasSoundWith wm_443 (⟨hp.1.1, rfl⟩ : At _ (6, 0) _) rfl rfl (by decide) rfl rfl (Nat.le_of_ble_eq_true rfl) dX9_sound_9 ⟨by decide, by decide⟩ ⟨Nat.le_of_ble_eq_true rfl, Nat.le_of_ble_eq_true rfl⟩ rfl rfl (det1 ?_)
  refine j_topi (bI false) (by rw [decide_eq_false (fun z => z h2)]) ?_
  refine j_if_ne (pc := 12) C 27 dX9_sound_12 (by decide) (fun q => absurd q (by decide)) (fun _ => ?_)
  refine j_aload_n (pc := 15) C dX9_sound_15 rfl 0 rfl ?_
  refine j_getA (pc := 16) C fp_X9_10 ha0 rfl (f := 576) rfl (6, 0) (hG σ (6, 0)) z2 (⟨hp.1.1, rfl⟩ : At _ (6, 0) _) dX9_sound_16 ?_
  refine j_callV (pc := 19) C [] [] (rm0 := ({ frames := 4, cells := 0, slots := 0, locals := 88 } : Room)) (k' := 0) (n' := 0) Q.1 (c_X5_soundCount (xl X) (xw X) hw hp (⟨hp.1.1, rfl⟩ : At _ (6, 0) _)) mp_X5_soundCount wm_447 (⟨hp.1.1, rfl⟩ : At _ (6, 0) _) rfl rfl (by decide) rfl rfl (Nat.le_of_ble_eq_true rfl) dX9_sound_19 ⟨by decide, by decide⟩ ⟨Nat.le_of_ble_eq_true rfl, Nat.le_of_ble_eq_true rfl⟩ rfl rfl (det1 ?_)
  refine j_bipush (pc := 22) C (nI 16) dX9_sound_22 (by decide) ?_
  refine jn_icmp_lt (pc := 24) C 35 (a := nS S) (b := 16) (by omega) (by omega) dX9_sound_24 (by decide) (fun c0 => ?_) (fun c0 => (absurd c0 (by omega) : False).elim)
  refine j_aload_n (pc := 35) C dX9_sound_35 rfl 0 rfl ?_
  refine j_getA (pc := 36) C fp_X9_10 ha0 rfl (f := 576) rfl (6, 0) (hG σ (6, 0)) z2 (⟨hp.1.1, rfl⟩ : At _ (6, 0) _) dX9_sound_36 ?_
  refine j_iload_n (pc := 39) C dX9_sound_39 rfl 1 rfl ?_
  refine j_callV (pc := 40) C [.int (nI n)] [] (rm0 := ({ frames := 4, cells := 0, slots := 0, locals := 88 } : Room)) (k' := 0) (n' := 0) Q.1 (c_X5_addSound (xl X) (xw X) hw hp (⟨hp.1.1, rfl⟩ : At _ (6, 0) _) h1 h3) mp_X5_addSound wm_466 (⟨hp.1.1, rfl⟩ : At _ (6, 0) _) rfl rfl (by decide) rfl rfl (Nat.le_of_ble_eq_true rfl) dX9_sound_40 ⟨by decide, by decide⟩ ⟨Nat.le_of_ble_eq_true rfl, Nat.le_of_ble_eq_true rfl⟩ rfl rfl (fun v9 σ1 hp9 => ?_)
  obtain ⟨rfl, hP1, hF1⟩ := hp9
  show J X 0 0 σ1 [(0, .ref a0), (1, .int (nI n))] [.int (nI (nS S))] 43
  exact j_ireturn (pc := 43) C Q dX9_sound_43 (Nat.le_of_ble_eq_true rfl) (Nat.le_of_ble_eq_true rfl) (⟨rfl, hc.ph hw hP1 hF1 (fun t z => by simp only [tgSn, tgP] at z ⊢; omega) (eqn_sound rfl rfl rfl) rfl⟩)
set_option maxHeartbeats 4000000 in
set_option maxRecDepth 100000 in
theorem c_X9_sound_1 (L9 : Launch) (w9 : Wd) (hst9 : L9.stackTraces = false) {σ : HS} {S : SP} (hw : WF S) (hc : CI S σ) {a0 : Nat} (ha0 : At σ (9, 0) a0) {x : Int32} (h : inI x 64 = false) : MX L9 w9 yX9_sound cX9_sound 2 (some .int) ({ frames := 7, cells := 1, slots := 6, locals := 101 } : Room) [.ref a0, .int x] σ (fun _ _ => False) (fun E σ' => E = "java/lang/IllegalArgumentException" ∧ σ' = σ) := by
  refine MX.of (by decide +kernel) (Nat.le_of_ble_eq_true rfl) hst9 (fun X hX1 hX2 C Q NT => ?_)
  subst hX1; subst hX2
  show J X 0 0 σ [(0, .ref a0), (1, .int x)] [] 0
  obtain ⟨hp, he, hx, hf9, hd⟩ := id hc
  obtain ⟨z1, z2, z3, z4⟩ := id hf9
  obtain ⟨ef, e1, e2⟩ := id he
  have gS := hw.1.1
  have gC := hw.1.2.2.2.1
  have gR := hw.2.1.1
  have gL := hw.2.2.1.1
  have gW := hw.2.2.2.1.1
  have gD := hw.2.2.2.2.1
  refine j_iload_n (pc := 0) C dX9_sound_0 rfl 1 rfl ?_
  exact j_callSX (pc := 1) C [.int x] [] (rm0 := ({ frames := 7, cells := 1, slots := 6, locals := 101 } : Room)) (k' := 1) (n' := 6) Q NT (c_X9_checkFeatures_x (xl X) (xw X) hst9 h) mp_X9_checkFeatures wm_377 rfl rfl (Nat.le_of_ble_eq_true rfl) dX9_sound_1 ⟨by decide, by decide⟩ ⟨Nat.le_of_ble_eq_true rfl, Nat.le_of_ble_eq_true rfl⟩ rfl rfl (fun _ _ h => h) (fun _ _ h => (h : False).elim)
set_option maxHeartbeats 4000000 in
set_option maxRecDepth 100000 in
theorem c_X9_sound_2 (L9 : Launch) (w9 : Wd) (hst9 : L9.stackTraces = false) {σ : HS} {S : SP} (hw : WF S) (hc : CI S σ) {a0 : Nat} (ha0 : At σ (9, 0) a0) {n : Nat} (h1 : n < 64) (h2 : wi S n ≠ 0 ∨ nS S = 16) : MX L9 w9 yX9_sound cX9_sound 2 (some .int) ({ frames := 6, cells := 1, slots := 6, locals := 81 } : Room) [.ref a0, .int (nI n)] σ (fun _ _ => False) (fun E σ' => E = "java/lang/IllegalStateException" ∧ σ' = σ) := by
  refine MX.of (by decide +kernel) (Nat.le_of_ble_eq_true rfl) hst9 (fun X hX1 hX2 C Q NT => ?_)
  subst hX1; subst hX2
  show J X 0 0 σ [(0, .ref a0), (1, .int (nI n))] [] 0
  obtain ⟨hp, he, hx, hf9, hd⟩ := id hc
  obtain ⟨z1, z2, z3, z4⟩ := id hf9
  obtain ⟨ef, e1, e2⟩ := id he
  have gS := hw.1.1
  have gC := hw.1.2.2.2.1
  have gR := hw.2.1.1
  have gL := hw.2.2.1.1
  have gW := hw.2.2.2.1.1
  have gD := hw.2.2.2.2.1
  refine j_iload_n (pc := 0) C dX9_sound_0 rfl 1 rfl ?_
  refine j_callS (pc := 1) C [.int (nI n)] [] (rm0 := ({ frames := 6, cells := 1, slots := 6, locals := 81 } : Room)) (k' := 0) (n' := 0) Q.1 (c_X9_checkFeatures_t (xl X) (xw X) h1) mp_X9_checkFeatures wm_377 rfl rfl (Nat.le_of_ble_eq_true rfl) dX9_sound_1 ⟨by decide, by decide⟩ ⟨Nat.le_of_ble_eq_true rfl, Nat.le_of_ble_eq_true rfl⟩ rfl rfl (det0 ?_)
  refine j_aload_n (pc := 4) C dX9_sound_4 rfl 0 rfl ?_
  refine j_getA (pc := 5) C fp_X9_10 ha0 rfl (f := 576) rfl (6, 0) (hG σ (6, 0)) z2 (⟨hp.1.1, rfl⟩ : At _ (6, 0) _) dX9_sound_5 ?_
  refine j_iload_n (pc := 8) C dX9_sound_8 rfl 1 rfl ?_
  refine j_callV (pc := 9) C [.int (nI n)] [] (rm0 := ({ frames := 6, cells := 1, slots := 6, locals := 81 } : Room)) (k' := 0) (n' := 0) Q.1 (c_X5_hasSoundWith (xl X) (xw X) hw hp (⟨hp.1.1, rfl⟩ : At _ (6, 0) _) h1) mp_X5_hasSoundWith wm_443 (⟨hp.1.1, rfl⟩ : At _ (6, 0) _) rfl rfl (by decide) rfl rfl (Nat.le_of_ble_eq_true rfl) dX9_sound_9 ⟨by decide, by decide⟩ ⟨Nat.le_of_ble_eq_true rfl, Nat.le_of_ble_eq_true rfl⟩ rfl rfl (det1 ?_)
  refine jb_if_ne (pc := 12) C 27 (b := decide (wi S n ≠ 0)) dX9_sound_12 (by decide) (fun c1 => ?_) (fun c1 => ?_)
  · exact j_throw0 (pc := 27) C (rm := ({ frames := 6, cells := 1, slots := 6, locals := 81 } : Room)) Q NT tp_X9_48 dX9_sound_27 dX9_sound_30 dX9_sound_31 dX9_sound_34 ⟨by decide, by decide, by decide, by decide⟩ ⟨rfl, rfl⟩
  · refine j_aload_n (pc := 15) C dX9_sound_15 rfl 0 rfl ?_
    refine j_getA (pc := 16) C fp_X9_10 ha0 rfl (f := 576) rfl (6, 0) (hG σ (6, 0)) z2 (⟨hp.1.1, rfl⟩ : At _ (6, 0) _) dX9_sound_16 ?_
    refine j_callV (pc := 19) C [] [] (rm0 := ({ frames := 6, cells := 1, slots := 6, locals := 81 } : Room)) (k' := 0) (n' := 0) Q.1 (c_X5_soundCount (xl X) (xw X) hw hp (⟨hp.1.1, rfl⟩ : At _ (6, 0) _)) mp_X5_soundCount wm_447 (⟨hp.1.1, rfl⟩ : At _ (6, 0) _) rfl rfl (by decide) rfl rfl (Nat.le_of_ble_eq_true rfl) dX9_sound_19 ⟨by decide, by decide⟩ ⟨Nat.le_of_ble_eq_true rfl, Nat.le_of_ble_eq_true rfl⟩ rfl rfl (det1 ?_)
    have c2 := of_decide_eq_false c1
    refine j_bipush (pc := 22) C (nI 16) dX9_sound_22 (by decide) ?_
    refine jn_icmp_lt (pc := 24) C 35 (a := nS S) (b := 16) (by omega) (by omega) dX9_sound_24 (by decide) (fun c0 => (absurd c0 (by omega) : False).elim) (fun c0 => ?_)
    exact j_throw0 (pc := 27) C (rm := ({ frames := 6, cells := 1, slots := 6, locals := 81 } : Room)) Q NT tp_X9_48 dX9_sound_27 dX9_sound_30 dX9_sound_31 dX9_sound_34 ⟨by decide, by decide, by decide, by decide⟩ ⟨rfl, rfl⟩
set_option maxHeartbeats 4000000 in
set_option maxRecDepth 100000 in
theorem c_X9_kind_0 (L9 : Launch) (w9 : Wd) {σ : HS} {S : SP} (hw : WF S) (hc : CI S σ) {a0 : Nat} (ha0 : At σ (9, 0) a0) {n b : Nat} (h1 : n < 64) (h2 : b < 64) (h3 : nC S < 12) : MJ L9 w9 yX9_kind cX9_kind 3 (some .int) ({ frames := 8, cells := 2, slots := 52, locals := 216 } : Room) [.ref a0, .int (nI n), .int (nI b)] σ (fun a9 σ' => a9 = some (.int (nI (nC S))) ∧ CI (S_kind S n b) σ' ∧ Fr tgU σ σ') := by
  refine MJ.of (by decide +kernel) (Nat.le_of_ble_eq_true rfl) (fun X hX1 hX2 C Q hinit => ?_)
  subst hX1; subst hX2
  show J X 0 0 σ [(0, .ref a0), (1, .int (nI n)), (2, .int (nI b))] [] 0
  obtain ⟨hp, he, hx, hf9, hd⟩ := id hc
  obtain ⟨z1, z2, z3, z4⟩ := id hf9
  obtain ⟨ef, e1, e2⟩ := id he
  have gS := hw.1.1
  have gC := hw.1.2.2.2.1
  have gR := hw.2.1.1
  have gL := hw.2.2.1.1
  have gW := hw.2.2.2.1.1
  have gD := hw.2.2.2.2.1
  refine j_iload_n (pc := 0) C dX9_kind_0 rfl 1 rfl ?_
  refine j_callS (pc := 1) C [.int (nI n)] [] (rm0 := ({ frames := 8, cells := 2, slots := 52, locals := 216 } : Room)) (k' := 0) (n' := 0) Q.1 (c_X9_checkFeatures_t (xl X) (xw X) h1) mp_X9_checkFeatures wm_377 rfl rfl (Nat.le_of_ble_eq_true rfl) dX9_kind_1 ⟨by decide, by decide⟩ ⟨Nat.le_of_ble_eq_true rfl, Nat.le_of_ble_eq_true rfl⟩ rfl rfl (det0 ?_)
  refine j_iload_n (pc := 4) C dX9_kind_4 rfl 2 rfl ?_
  refine j_callS (pc := 5) C [.int (nI b)] [] (rm0 := ({ frames := 8, cells := 2, slots := 52, locals := 216 } : Room)) (k' := 0) (n' := 0) Q.1 (c_X9_checkFeatures_t (xl X) (xw X) h2) mp_X9_checkFeatures wm_377 rfl rfl (Nat.le_of_ble_eq_true rfl) dX9_kind_5 ⟨by decide, by decide⟩ ⟨Nat.le_of_ble_eq_true rfl, Nat.le_of_ble_eq_true rfl⟩ rfl rfl (det0 ?_)
  refine j_aload_n (pc := 8) C dX9_kind_8 rfl 0 rfl ?_
  refine j_getA (pc := 9) C fp_X9_10 ha0 rfl (f := 576) rfl (6, 0) (hG σ (6, 0)) z2 (⟨hp.1.1, rfl⟩ : At _ (6, 0) _) dX9_kind_9 ?_
  refine j_callV (pc := 12) C [] [] (rm0 := ({ frames := 8, cells := 2, slots := 52, locals := 216 } : Room)) (k' := 0) (n' := 0) Q.1 (c_X5_kindCount (xl X) (xw X) hw hp (⟨hp.1.1, rfl⟩ : At _ (6, 0) _)) mp_X5_kindCount wm_484 (⟨hp.1.1, rfl⟩ : At _ (6, 0) _) rfl rfl (by decide) rfl rfl (Nat.le_of_ble_eq_true rfl) dX9_kind_12 ⟨by decide, by decide⟩ ⟨Nat.le_of_ble_eq_true rfl, Nat.le_of_ble_eq_true rfl⟩ rfl rfl (det1 ?_)
  refine j_bipush (pc := 15) C (nI 12) dX9_kind_15 (by decide) ?_
  refine jn_icmp_lt (pc := 17) C 28 (a := nC S) (b := 12) (by omega) (by omega) dX9_kind_17 (by decide) (fun c0 => ?_) (fun c0 => (absurd c0 (by omega) : False).elim)
  refine j_aload_n (pc := 28) C dX9_kind_28 rfl 0 rfl ?_
  refine j_getA (pc := 29) C fp_X9_10 ha0 rfl (f := 576) rfl (6, 0) (hG σ (6, 0)) z2 (⟨hp.1.1, rfl⟩ : At _ (6, 0) _) dX9_kind_29 ?_
  refine j_iload_n (pc := 32) C dX9_kind_32 rfl 1 rfl ?_
  refine j_iload_n (pc := 33) C dX9_kind_33 rfl 2 rfl ?_
  refine j_callV (pc := 34) C [.int (nI n), .int (nI b)] [] (rm0 := ({ frames := 8, cells := 2, slots := 52, locals := 216 } : Room)) (k' := 2) (n' := 52) Q.1 (c_X5_addKind (xl X) (xw X) hw hp (⟨hp.1.1, rfl⟩ : At _ (6, 0) _) h1 h2 h3) mp_X5_addKind wm_488 (⟨hp.1.1, rfl⟩ : At _ (6, 0) _) rfl rfl (by decide) rfl rfl (Nat.le_of_ble_eq_true rfl) dX9_kind_34 ⟨by decide, by decide⟩ ⟨Nat.le_of_ble_eq_true rfl, Nat.le_of_ble_eq_true rfl⟩ rfl rfl (fun v9 σ1 hp9 => ?_)
  obtain ⟨rfl, hP1, hF1⟩ := hp9
  show J X 2 52 σ1 [(0, .ref a0), (1, .int (nI n)), (2, .int (nI b))] [.int (nI (nC S))] 37
  exact j_ireturn (pc := 37) C Q dX9_kind_37 (Nat.le_of_ble_eq_true rfl) (Nat.le_of_ble_eq_true rfl) (⟨rfl, hc.ph hw hP1 hF1 (fun t z => by simp only [tgKn, tgP, tgL] at z ⊢; omega) (eqn_kind rfl rfl rfl) rfl⟩)
set_option maxHeartbeats 4000000 in
set_option maxRecDepth 100000 in
theorem c_X9_kind_1 (L9 : Launch) (w9 : Wd) (hst9 : L9.stackTraces = false) {σ : HS} {S : SP} (hw : WF S) (hc : CI S σ) {a0 : Nat} (ha0 : At σ (9, 0) a0) {x y : Int32} (h : (inI x 64 && inI y 64) = false) : MX L9 w9 yX9_kind cX9_kind 3 (some .int) ({ frames := 7, cells := 1, slots := 6, locals := 101 } : Room) [.ref a0, .int x, .int y] σ (fun _ _ => False) (fun E σ' => E = "java/lang/IllegalArgumentException" ∧ σ' = σ) := by
  refine MX.of (by decide +kernel) (Nat.le_of_ble_eq_true rfl) hst9 (fun X hX1 hX2 C Q NT => ?_)
  subst hX1; subst hX2
  show J X 0 0 σ [(0, .ref a0), (1, .int x), (2, .int y)] [] 0
  obtain ⟨hp, he, hx, hf9, hd⟩ := id hc
  obtain ⟨z1, z2, z3, z4⟩ := id hf9
  obtain ⟨ef, e1, e2⟩ := id he
  have gS := hw.1.1
  have gC := hw.1.2.2.2.1
  have gR := hw.2.1.1
  have gL := hw.2.2.1.1
  have gW := hw.2.2.2.1.1
  have gD := hw.2.2.2.2.1
  by_cases e : inI x 64 = true
  · rw [e, Bool.true_and] at h
    obtain ⟨n1, n2⟩ := inI_t e
    generalize xN x = n at n1 n2
    subst n2
    show J X 0 0 σ [(0, .ref a0), (1, .int (nI n)), (2, .int y)] [] 0
    refine j_iload_n (pc := 0) C dX9_kind_0 rfl 1 rfl ?_
    refine j_callS (pc := 1) C [.int (nI n)] [] (rm0 := ({ frames := 7, cells := 1, slots := 6, locals := 101 } : Room)) (k' := 0) (n' := 0) Q.1 (c_X9_checkFeatures_t (xl X) (xw X) n1) mp_X9_checkFeatures wm_377 rfl rfl (Nat.le_of_ble_eq_true rfl) dX9_kind_1 ⟨by decide, by decide⟩ ⟨Nat.le_of_ble_eq_true rfl, Nat.le_of_ble_eq_true rfl⟩ rfl rfl (det0 ?_)
    refine j_iload_n (pc := 4) C dX9_kind_4 rfl 2 rfl ?_
    exact j_callSX (pc := 5) C [.int y] [] (rm0 := ({ frames := 7, cells := 1, slots := 6, locals := 101 } : Room)) (k' := 1) (n' := 6) Q NT (c_X9_checkFeatures_x (xl X) (xw X) hst9 h) mp_X9_checkFeatures wm_377 rfl rfl (Nat.le_of_ble_eq_true rfl) dX9_kind_5 ⟨by decide, by decide⟩ ⟨Nat.le_of_ble_eq_true rfl, Nat.le_of_ble_eq_true rfl⟩ rfl rfl (fun _ _ h => h) (fun _ _ h => (h : False).elim)
  · refine j_iload_n (pc := 0) C dX9_kind_0 rfl 1 rfl ?_
    exact j_callSX (pc := 1) C [.int x] [] (rm0 := ({ frames := 7, cells := 1, slots := 6, locals := 101 } : Room)) (k' := 1) (n' := 6) Q NT (c_X9_checkFeatures_x (xl X) (xw X) hst9 (ts_nt e)) mp_X9_checkFeatures wm_377 rfl rfl (Nat.le_of_ble_eq_true rfl) dX9_kind_1 ⟨by decide, by decide⟩ ⟨Nat.le_of_ble_eq_true rfl, Nat.le_of_ble_eq_true rfl⟩ rfl rfl (fun _ _ h => h) (fun _ _ h => (h : False).elim)
set_option maxHeartbeats 4000000 in
set_option maxRecDepth 100000 in
theorem c_X9_kind_2 (L9 : Launch) (w9 : Wd) (hst9 : L9.stackTraces = false) {σ : HS} {S : SP} (hw : WF S) (hc : CI S σ) {a0 : Nat} (ha0 : At σ (9, 0) a0) {n b : Nat} (h1 : n < 64) (h2 : b < 64) (h3 : nC S = 12) : MX L9 w9 yX9_kind cX9_kind 3 (some .int) ({ frames := 6, cells := 1, slots := 6, locals := 81 } : Room) [.ref a0, .int (nI n), .int (nI b)] σ (fun _ _ => False) (fun E σ' => E = "java/lang/IllegalStateException" ∧ σ' = σ) := by
  refine MX.of (by decide +kernel) (Nat.le_of_ble_eq_true rfl) hst9 (fun X hX1 hX2 C Q NT => ?_)
  subst hX1; subst hX2
  show J X 0 0 σ [(0, .ref a0), (1, .int (nI n)), (2, .int (nI b))] [] 0
  obtain ⟨hp, he, hx, hf9, hd⟩ := id hc
  obtain ⟨z1, z2, z3, z4⟩ := id hf9
  obtain ⟨ef, e1, e2⟩ := id he
  have gS := hw.1.1
  have gC := hw.1.2.2.2.1
  have gR := hw.2.1.1
  have gL := hw.2.2.1.1
  have gW := hw.2.2.2.1.1
  have gD := hw.2.2.2.2.1
  refine j_iload_n (pc := 0) C dX9_kind_0 rfl 1 rfl ?_
  refine j_callS (pc := 1) C [.int (nI n)] [] (rm0 := ({ frames := 6, cells := 1, slots := 6, locals := 81 } : Room)) (k' := 0) (n' := 0) Q.1 (c_X9_checkFeatures_t (xl X) (xw X) h1) mp_X9_checkFeatures wm_377 rfl rfl (Nat.le_of_ble_eq_true rfl) dX9_kind_1 ⟨by decide, by decide⟩ ⟨Nat.le_of_ble_eq_true rfl, Nat.le_of_ble_eq_true rfl⟩ rfl rfl (det0 ?_)
  refine j_iload_n (pc := 4) C dX9_kind_4 rfl 2 rfl ?_
  refine j_callS (pc := 5) C [.int (nI b)] [] (rm0 := ({ frames := 6, cells := 1, slots := 6, locals := 81 } : Room)) (k' := 0) (n' := 0) Q.1 (c_X9_checkFeatures_t (xl X) (xw X) h2) mp_X9_checkFeatures wm_377 rfl rfl (Nat.le_of_ble_eq_true rfl) dX9_kind_5 ⟨by decide, by decide⟩ ⟨Nat.le_of_ble_eq_true rfl, Nat.le_of_ble_eq_true rfl⟩ rfl rfl (det0 ?_)
  refine j_aload_n (pc := 8) C dX9_kind_8 rfl 0 rfl ?_
  refine j_getA (pc := 9) C fp_X9_10 ha0 rfl (f := 576) rfl (6, 0) (hG σ (6, 0)) z2 (⟨hp.1.1, rfl⟩ : At _ (6, 0) _) dX9_kind_9 ?_
  refine j_callV (pc := 12) C [] [] (rm0 := ({ frames := 6, cells := 1, slots := 6, locals := 81 } : Room)) (k' := 0) (n' := 0) Q.1 (c_X5_kindCount (xl X) (xw X) hw hp (⟨hp.1.1, rfl⟩ : At _ (6, 0) _)) mp_X5_kindCount wm_484 (⟨hp.1.1, rfl⟩ : At _ (6, 0) _) rfl rfl (by decide) rfl rfl (Nat.le_of_ble_eq_true rfl) dX9_kind_12 ⟨by decide, by decide⟩ ⟨Nat.le_of_ble_eq_true rfl, Nat.le_of_ble_eq_true rfl⟩ rfl rfl (det1 ?_)
  refine j_bipush (pc := 15) C (nI 12) dX9_kind_15 (by decide) ?_
  refine jn_icmp_lt (pc := 17) C 28 (a := nC S) (b := 12) (by omega) (by omega) dX9_kind_17 (by decide) (fun c0 => (absurd c0 (by omega) : False).elim) (fun c0 => ?_)
  exact j_throw0 (pc := 20) C (rm := ({ frames := 6, cells := 1, slots := 6, locals := 81 } : Room)) Q NT tp_X9_48 dX9_kind_20 dX9_kind_23 dX9_kind_24 dX9_kind_27 ⟨by decide, by decide, by decide, by decide⟩ ⟨rfl, rfl⟩
set_option maxHeartbeats 4000000 in
set_option maxRecDepth 100000 in
theorem c_X9_put_0 (L9 : Launch) (w9 : Wd) {σ : HS} {S : SP} (hw : WF S) (hc : CI S σ) {a0 : Nat} (ha0 : At σ (9, 0) a0) {n : Nat} (h1 : n < nS S) (h2 : (dr S).length < 8) : MJ L9 w9 yX9_put cX9_put 3 (some .int) ({ frames := 2, cells := 0, slots := 0, locals := 41 } : Room) [.ref a0, .int (nI n)] σ (fun a9 σ' => a9 = some (.int (nI ((dr S).length + 1))) ∧ CI (zR S 647 0 0 (some (dr S ++ [n]))) σ' ∧ Fr tgU σ σ') := by
  refine MJ.of (by decide +kernel) (Nat.le_of_ble_eq_true rfl) (fun X hX1 hX2 C Q hinit => ?_)
  subst hX1; subst hX2
  show J X 0 0 σ [(0, .ref a0), (1, .int (nI n))] [] 0
  obtain ⟨hp, he, hx, hf9, hd⟩ := id hc
  obtain ⟨z1, z2, z3, z4⟩ := id hf9
  obtain ⟨ef, e1, e2⟩ := id he
  have gS := hw.1.1
  have gC := hw.1.2.2.2.1
  have gR := hw.2.1.1
  have gL := hw.2.2.1.1
  have gW := hw.2.2.2.1.1
  have gD := hw.2.2.2.2.1
  refine j_aload_n (pc := 0) C dX9_put_0 rfl 0 rfl ?_
  refine j_iload_n (pc := 1) C dX9_put_1 rfl 1 rfl ?_
  refine j_callV (pc := 2) C [.int (nI n)] [] (rm0 := ({ frames := 2, cells := 0, slots := 0, locals := 41 } : Room)) (k' := 0) (n' := 0) Q.1 (c_X9_checkSound_t (xl X) (xw X) hw hc ha0 h1) mp_X9_checkSound wm_561 ha0 rfl rfl (by decide) rfl rfl (Nat.le_of_ble_eq_true rfl) dX9_put_2 ⟨by decide, by decide⟩ ⟨Nat.le_of_ble_eq_true rfl, Nat.le_of_ble_eq_true rfl⟩ rfl rfl (det0 ?_)
  refine j_aload_n (pc := 5) C dX9_put_5 rfl 0 rfl ?_
  refine j_getL (pc := 6) C fp_X9_32 ha0 rfl (f := 579) rfl dX9_put_6 ?_
  refine j_topl (enc5 (dr S)) hd ?_
  refine j_callS (pc := 9) C [.long (enc5 (dr S))] [] (rm0 := ({ frames := 2, cells := 0, slots := 0, locals := 41 } : Room)) (k' := 0) (n' := 0) Q.1 (c_X6_sizeOf (xl X) (xw X) (WF_drR hw)) mp_X6_sizeOf wm_223 rfl rfl (Nat.le_of_ble_eq_true rfl) dX9_put_9 ⟨by decide, by decide⟩ ⟨Nat.le_of_ble_eq_true rfl, Nat.le_of_ble_eq_true rfl⟩ rfl rfl (det1 ?_)
  refine j_istore_n (pc := 12) C [(2, .int (nI ((dr S).length))), (0, .ref a0), (1, .int (nI n))] dX9_put_12 rfl (by decide) rfl ?_
  refine j_iload_n (pc := 13) C dX9_put_13 rfl 0 rfl ?_
  refine j_bipush (pc := 14) C (nI 8) dX9_put_14 (by decide) ?_
  refine jn_icmp_lt (pc := 16) C 27 (a := (dr S).length) (b := 8) (by omega) (by omega) dX9_put_16 (by decide) (fun c0 => ?_) (fun c0 => (absurd c0 (by omega) : False).elim)
  refine j_aload_n (pc := 27) C dX9_put_27 rfl 1 rfl ?_
  refine j_aload_n (pc := 28) C dX9_put_28 rfl 1 rfl ?_
  refine j_getL (pc := 29) C fp_X9_32 ha0 rfl (f := 579) rfl dX9_put_29 ?_
  refine j_topl (enc5 (dr S)) hd ?_
  refine j_iload_n (pc := 32) C dX9_put_32 rfl 0 rfl ?_
  refine j_iload_n (pc := 33) C dX9_put_33 rfl 2 rfl ?_
  refine j_callS (pc := 34) C [.int (nI n)] [.int (nI ((dr S).length)), .long (enc5 (dr S)), .ref a0] (rm0 := ({ frames := 2, cells := 0, slots := 0, locals := 41 } : Room)) (k' := 0) (n' := 0) Q.1 (c_X6_codeOf (xl X) (xw X)) mp_X6_codeOf wm_580 rfl rfl (Nat.le_of_ble_eq_true rfl) dX9_put_34 ⟨by decide, by decide⟩ ⟨Nat.le_of_ble_eq_true rfl, Nat.le_of_ble_eq_true rfl⟩ rfl rfl (det1 ?_)
  refine j_callS (pc := 37) C [.long (enc5 (dr S)), .int (nI ((dr S).length)), .int (nI (n + 1))] [.ref a0] (rm0 := ({ frames := 2, cells := 0, slots := 0, locals := 41 } : Room)) (k' := 0) (n' := 0) Q.1 (c_X6_with (xl X) (xw X) (WF_drR hw) (by omega) h2) mp_X6_with wm_581 rfl rfl (Nat.le_of_ble_eq_true rfl) dX9_put_37 ⟨by decide, by decide⟩ ⟨Nat.le_of_ble_eq_true rfl, Nat.le_of_ble_eq_true rfl⟩ rfl rfl (det1 ?_)
  refine j_putL (pc := 40) C fp_X9_32 ha0 rfl rfl (Or.inl rfl) rfl (by decide) (f := 579) rfl dX9_put_40 ?_
  refine j_iload_n (pc := 43) C dX9_put_43 rfl 0 rfl ?_
  refine j_iconst (pc := 44) C (nI 1) dX9_put_44 (by decide) ?_
  refine j_iadd (pc := 45) C dX9_put_45 ?_
  refine j_topi (nI ((dr S).length + 1)) (nI_add ((dr S).length) 1) ?_
  exact j_ireturn (pc := 46) C Q dX9_put_46 (Nat.le_of_ble_eq_true rfl) (Nat.le_of_ble_eq_true rfl) (⟨rfl, hc.put hw⟩)
set_option maxHeartbeats 4000000 in
set_option maxRecDepth 100000 in
theorem c_X9_put_1 (L9 : Launch) (w9 : Wd) (hst9 : L9.stackTraces = false) {σ : HS} {S : SP} (hw : WF S) (hc : CI S σ) {a0 : Nat} (ha0 : At σ (9, 0) a0) {x : Int32} (h : inI x (nS S) = false) : MX L9 w9 yX9_put cX9_put 3 (some .int) ({ frames := 7, cells := 1, slots := 6, locals := 102 } : Room) [.ref a0, .int x] σ (fun _ _ => False) (fun E σ' => E = "java/lang/IndexOutOfBoundsException" ∧ σ' = σ) := by
  refine MX.of (by decide +kernel) (Nat.le_of_ble_eq_true rfl) hst9 (fun X hX1 hX2 C Q NT => ?_)
  subst hX1; subst hX2
  show J X 0 0 σ [(0, .ref a0), (1, .int x)] [] 0
  obtain ⟨hp, he, hx, hf9, hd⟩ := id hc
  obtain ⟨z1, z2, z3, z4⟩ := id hf9
  obtain ⟨ef, e1, e2⟩ := id he
  have gS := hw.1.1
  have gC := hw.1.2.2.2.1
  have gR := hw.2.1.1
  have gL := hw.2.2.1.1
  have gW := hw.2.2.2.1.1
  have gD := hw.2.2.2.2.1
  refine j_aload_n (pc := 0) C dX9_put_0 rfl 0 rfl ?_
  refine j_iload_n (pc := 1) C dX9_put_1 rfl 1 rfl ?_
  exact j_callVX (pc := 2) C [.int x] [] (rm0 := ({ frames := 7, cells := 1, slots := 6, locals := 102 } : Room)) (k' := 1) (n' := 6) Q NT (c_X9_checkSound_x (xl X) (xw X) hst9 hw hc ha0 h) mp_X9_checkSound wm_561 ha0 rfl rfl (Nat.le_of_ble_eq_true rfl) rfl rfl (Nat.le_of_ble_eq_true rfl) dX9_put_2 ⟨by decide, by decide⟩ ⟨Nat.le_of_ble_eq_true rfl, Nat.le_of_ble_eq_true rfl⟩ rfl rfl (fun _ _ h => h) (fun _ _ h => (h : False).elim)
set_option maxHeartbeats 4000000 in
set_option maxRecDepth 100000 in
theorem c_X9_put_2 (L9 : Launch) (w9 : Wd) (hst9 : L9.stackTraces = false) {σ : HS} {S : SP} (hw : WF S) (hc : CI S σ) {a0 : Nat} (ha0 : At σ (9, 0) a0) {n : Nat} (h1 : n < nS S) (h2 : (dr S).length = 8) : MX L9 w9 yX9_put cX9_put 3 (some .int) ({ frames := 6, cells := 1, slots := 6, locals := 81 } : Room) [.ref a0, .int (nI n)] σ (fun _ _ => False) (fun E σ' => E = "java/lang/IllegalStateException" ∧ σ' = σ) := by
  refine MX.of (by decide +kernel) (Nat.le_of_ble_eq_true rfl) hst9 (fun X hX1 hX2 C Q NT => ?_)
  subst hX1; subst hX2
  show J X 0 0 σ [(0, .ref a0), (1, .int (nI n))] [] 0
  obtain ⟨hp, he, hx, hf9, hd⟩ := id hc
  obtain ⟨z1, z2, z3, z4⟩ := id hf9
  obtain ⟨ef, e1, e2⟩ := id he
  have gS := hw.1.1
  have gC := hw.1.2.2.2.1
  have gR := hw.2.1.1
  have gL := hw.2.2.1.1
  have gW := hw.2.2.2.1.1
  have gD := hw.2.2.2.2.1
  refine j_aload_n (pc := 0) C dX9_put_0 rfl 0 rfl ?_
  refine j_iload_n (pc := 1) C dX9_put_1 rfl 1 rfl ?_
  refine j_callV (pc := 2) C [.int (nI n)] [] (rm0 := ({ frames := 6, cells := 1, slots := 6, locals := 81 } : Room)) (k' := 0) (n' := 0) Q.1 (c_X9_checkSound_t (xl X) (xw X) hw hc ha0 h1) mp_X9_checkSound wm_561 ha0 rfl rfl (by decide) rfl rfl (Nat.le_of_ble_eq_true rfl) dX9_put_2 ⟨by decide, by decide⟩ ⟨Nat.le_of_ble_eq_true rfl, Nat.le_of_ble_eq_true rfl⟩ rfl rfl (det0 ?_)
  refine j_aload_n (pc := 5) C dX9_put_5 rfl 0 rfl ?_
  refine j_getL (pc := 6) C fp_X9_32 ha0 rfl (f := 579) rfl dX9_put_6 ?_
  refine j_topl (enc5 (dr S)) hd ?_
  refine j_callS (pc := 9) C [.long (enc5 (dr S))] [] (rm0 := ({ frames := 6, cells := 1, slots := 6, locals := 81 } : Room)) (k' := 0) (n' := 0) Q.1 (c_X6_sizeOf (xl X) (xw X) (WF_drR hw)) mp_X6_sizeOf wm_223 rfl rfl (Nat.le_of_ble_eq_true rfl) dX9_put_9 ⟨by decide, by decide⟩ ⟨Nat.le_of_ble_eq_true rfl, Nat.le_of_ble_eq_true rfl⟩ rfl rfl (det1 ?_)
  refine j_istore_n (pc := 12) C [(2, .int (nI ((dr S).length))), (0, .ref a0), (1, .int (nI n))] dX9_put_12 rfl (by decide) rfl ?_
  refine j_iload_n (pc := 13) C dX9_put_13 rfl 0 rfl ?_
  refine j_bipush (pc := 14) C (nI 8) dX9_put_14 (by decide) ?_
  refine jn_icmp_lt (pc := 16) C 27 (a := (dr S).length) (b := 8) (by omega) (by omega) dX9_put_16 (by decide) (fun c0 => (absurd c0 (by omega) : False).elim) (fun c0 => ?_)
  exact j_throw0 (pc := 19) C (rm := ({ frames := 6, cells := 1, slots := 6, locals := 81 } : Room)) Q NT tp_X9_48 dX9_put_19 dX9_put_22 dX9_put_23 dX9_put_26 ⟨by decide, by decide, by decide, by decide⟩ ⟨rfl, rfl⟩
set_option maxHeartbeats 4000000 in
set_option maxRecDepth 100000 in
theorem c_X9_wipe_0 (L9 : Launch) (w9 : Wd) {σ : HS} {S : SP} (hw : WF S) (hc : CI S σ) {a0 : Nat} (ha0 : At σ (9, 0) a0)  : MJ L9 w9 yX9_wipe cX9_wipe 1 (some .int) ({ frames := 1, cells := 0, slots := 0, locals := 22 } : Room) [.ref a0] σ (fun a9 σ' => a9 = some (.int (nI (dr S).length)) ∧ CI (noDraft S) σ' ∧ Fr tgU σ σ') := by
  refine MJ.of (by decide +kernel) (Nat.le_of_ble_eq_true rfl) (fun X hX1 hX2 C Q hinit => ?_)
  subst hX1; subst hX2
  show J X 0 0 σ [(0, .ref a0)] [] 0
  obtain ⟨hp, he, hx, hf9, hd⟩ := id hc
  obtain ⟨z1, z2, z3, z4⟩ := id hf9
  obtain ⟨ef, e1, e2⟩ := id he
  have gS := hw.1.1
  have gC := hw.1.2.2.2.1
  have gR := hw.2.1.1
  have gL := hw.2.2.1.1
  have gW := hw.2.2.2.1.1
  have gD := hw.2.2.2.2.1
  refine j_aload_n (pc := 0) C dX9_wipe_0 rfl 0 rfl ?_
  refine j_callV (pc := 1) C [] [] (rm0 := ({ frames := 1, cells := 0, slots := 0, locals := 22 } : Room)) (k' := 0) (n' := 0) Q.1 (k_take (xl X) (xw X) hw hc ha0) mp_X9_takeDraft wm_219 ha0 rfl rfl (by decide) rfl rfl (Nat.le_of_ble_eq_true rfl) dX9_wipe_1 ⟨by decide, by decide⟩ ⟨Nat.le_of_ble_eq_true rfl, Nat.le_of_ble_eq_true rfl⟩ rfl rfl (fun v9 σ1 hp9 => ?_)
  obtain ⟨rfl, hC1, hF1⟩ := hp9
  show J X 0 0 σ1 [(0, .ref a0)] [.long (enc5 (dr S))] 4
  have hw1 := hw.noDraft
  refine j_callS (pc := 4) C [.long (enc5 (dr S))] [] (rm0 := ({ frames := 1, cells := 0, slots := 0, locals := 22 } : Room)) (k' := 0) (n' := 0) Q.1 (c_X6_sizeOf (xl X) (xw X) (WF_drR hw)) mp_X6_sizeOf wm_223 rfl rfl (Nat.le_of_ble_eq_true rfl) dX9_wipe_4 ⟨by decide, by decide⟩ ⟨Nat.le_of_ble_eq_true rfl, Nat.le_of_ble_eq_true rfl⟩ rfl rfl (det1 ?_)
  exact j_ireturn (pc := 7) C Q dX9_wipe_7 (Nat.le_of_ble_eq_true rfl) (Nat.le_of_ble_eq_true rfl) (⟨rfl, hC1, hF1.wide (fun t z => tg99_U z)⟩)
set_option maxHeartbeats 4000000 in
set_option maxRecDepth 100000 in
theorem c_X9_lexeme_0 (L9 : Launch) (w9 : Wd) {σ : HS} {S : SP} (hw : WF S) (hc : CI S σ) {a0 : Nat} (ha0 : At σ (9, 0) a0) (h1 : nL S ≠ 16) (h2 : isForm9 S = true) : MJ L9 w9 yX9_lexeme cX9_lexeme 1 (some .int) ({ frames := 8, cells := 4, slots := 63, locals := 214 } : Room) [.ref a0] σ (fun a9 σ' => a9 = some (.int (nI (nL S))) ∧ CI (makes9 (noDraft S) (dr S)) σ' ∧ Fr tgU σ σ') := by
  refine MJ.of (by decide +kernel) (Nat.le_of_ble_eq_true rfl) (fun X hX1 hX2 C Q hinit => ?_)
  subst hX1; subst hX2
  show J X 0 0 σ [(0, .ref a0)] [] 0
  obtain ⟨hp, he, hx, hf9, hd⟩ := id hc
  obtain ⟨z1, z2, z3, z4⟩ := id hf9
  obtain ⟨ef, e1, e2⟩ := id he
  have gS := hw.1.1
  have gC := hw.1.2.2.2.1
  have gR := hw.2.1.1
  have gL := hw.2.2.1.1
  have gW := hw.2.2.2.1.1
  have gD := hw.2.2.2.2.1
  refine j_aload_n (pc := 0) C dX9_lexeme_0 rfl 0 rfl ?_
  refine j_callV (pc := 1) C [] [] (rm0 := ({ frames := 8, cells := 4, slots := 63, locals := 214 } : Room)) (k' := 0) (n' := 0) Q.1 (c_X9_checkLexemesLeft_t (xl X) (xw X) hw hc ha0 h1) mp_X9_checkLexemesLeft wm_589 ha0 rfl rfl (by decide) rfl rfl (Nat.le_of_ble_eq_true rfl) dX9_lexeme_1 ⟨by decide, by decide⟩ ⟨Nat.le_of_ble_eq_true rfl, Nat.le_of_ble_eq_true rfl⟩ rfl rfl (det0 ?_)
  refine j_aload_n (pc := 4) C dX9_lexeme_4 rfl 0 rfl ?_
  refine j_callV (pc := 5) C [] [] (rm0 := ({ frames := 8, cells := 4, slots := 63, locals := 214 } : Room)) (k' := 0) (n' := 0) Q.1 (c_X9_checkDraftIsForm_t (xl X) (xw X) hw hc ha0 h2) mp_X9_checkDraftIsForm wm_593 ha0 rfl rfl (by decide) rfl rfl (Nat.le_of_ble_eq_true rfl) dX9_lexeme_5 ⟨by decide, by decide⟩ ⟨Nat.le_of_ble_eq_true rfl, Nat.le_of_ble_eq_true rfl⟩ rfl rfl (det0 ?_)
  refine j_aload_n (pc := 8) C dX9_lexeme_8 rfl 0 rfl ?_
  refine j_getA (pc := 9) C fp_X9_19 ha0 rfl (f := 577) rfl (5, 0) (hG σ (5, 0)) z3 (⟨hx.1.1, rfl⟩ : At _ (5, 0) _) dX9_lexeme_9 ?_
  refine j_aload_n (pc := 12) C dX9_lexeme_12 rfl 0 rfl ?_
  refine j_callV (pc := 13) C [] [.ref (hG σ (5, 0))] (rm0 := ({ frames := 8, cells := 4, slots := 63, locals := 214 } : Room)) (k' := 0) (n' := 0) Q.1 (k_take (xl X) (xw X) hw hc ha0) mp_X9_takeDraft wm_219 ha0 rfl rfl (by decide) rfl rfl (Nat.le_of_ble_eq_true rfl) dX9_lexeme_13 ⟨by decide, by decide⟩ ⟨Nat.le_of_ble_eq_true rfl, Nat.le_of_ble_eq_true rfl⟩ rfl rfl (fun v9 σ1 hp9 => ?_)
  obtain ⟨rfl, hC1, hF1⟩ := hp9
  show J X 0 0 σ1 [(0, .ref a0)] [.long (enc5 (dr S)), .ref (hG σ (5, 0))] 16
  have hw1 := hw.noDraft
  refine j_callV (pc := 16) C [.long (enc5 (dr S))] [] (rm0 := ({ frames := 8, cells := 4, slots := 63, locals := 214 } : Room)) (k' := 4) (n' := 63) Q.1 (c_X4_addLexeme (xl X) (xw X) hw1 hC1.2.2.1 (hF1.at ⟨hx.1.1, rfl⟩) (r := dr S) (show nL S < 16 by omega)) mp_X4_addLexeme wm_597 (hF1.at (⟨hx.1.1, rfl⟩ : At _ (5, 0) _)) rfl rfl (by decide) rfl rfl (Nat.le_of_ble_eq_true rfl) dX9_lexeme_16 ⟨by decide, by decide⟩ ⟨Nat.le_of_ble_eq_true rfl, Nat.le_of_ble_eq_true rfl⟩ rfl rfl (fun v9 σ2 hp9 => ?_)
  obtain ⟨rfl, hL2, hF2⟩ := hp9
  have l9 : nL S < nL (makes9 (noDraft S) (dr S)) := by rw [mk_nL]; exact Nat.lt_succ_self _
  show J X 4 63 σ2 [(0, .ref a0)] [.ref (hG σ2 (4, nL S))] 19
  refine j_getI (pc := 19) C fp_X9_90 (⟨hL2.2.1.1.live l9, rfl⟩ : At _ (4, nL S) _) rfl (f := 256) rfl dX9_lexeme_19 ?_
  refine j_topi (nI (nL S)) ((hL2.2.1.2.1 (nL S) l9).1) ?_
  exact j_ireturn (pc := 22) C Q dX9_lexeme_22 (Nat.le_of_ble_eq_true rfl) (Nat.le_of_ble_eq_true rfl) (⟨rfl, ci_tr hF1 (fun t z => tg99_U z) (hC1.lx hw1 hL2 hF2 (fun t z => Or.inl z) (mk_N rfl rfl) (mk_R rfl))⟩)
set_option maxHeartbeats 4000000 in
set_option maxRecDepth 100000 in
theorem c_X9_lexeme_1 (L9 : Launch) (w9 : Wd) (hst9 : L9.stackTraces = false) {σ : HS} {S : SP} (hw : WF S) (hc : CI S σ) {a0 : Nat} (ha0 : At σ (9, 0) a0) (h : nL S = 16 ∨ isForm9 S = false) : MX L9 w9 yX9_lexeme cX9_lexeme 1 (some .int) ({ frames := 7, cells := 1, slots := 6, locals := 102 } : Room) [.ref a0] σ (fun _ _ => False) (fun E σ' => E = "java/lang/IllegalStateException" ∧ σ' = σ) := by
  refine MX.of (by decide +kernel) (Nat.le_of_ble_eq_true rfl) hst9 (fun X hX1 hX2 C Q NT => ?_)
  subst hX1; subst hX2
  show J X 0 0 σ [(0, .ref a0)] [] 0
  obtain ⟨hp, he, hx, hf9, hd⟩ := id hc
  obtain ⟨z1, z2, z3, z4⟩ := id hf9
  obtain ⟨ef, e1, e2⟩ := id he
  have gS := hw.1.1
  have gC := hw.1.2.2.2.1
  have gR := hw.2.1.1
  have gL := hw.2.2.1.1
  have gW := hw.2.2.2.1.1
  have gD := hw.2.2.2.2.1
  by_cases e : nL S = 16
  · refine j_aload_n (pc := 0) C dX9_lexeme_0 rfl 0 rfl ?_
    exact j_callVX (pc := 1) C [] [] (rm0 := ({ frames := 7, cells := 1, slots := 6, locals := 102 } : Room)) (k' := 1) (n' := 6) Q NT (c_X9_checkLexemesLeft_x (xl X) (xw X) hst9 hw hc ha0 e) mp_X9_checkLexemesLeft wm_589 ha0 rfl rfl (Nat.le_of_ble_eq_true rfl) rfl rfl (Nat.le_of_ble_eq_true rfl) dX9_lexeme_1 ⟨by decide, by decide⟩ ⟨Nat.le_of_ble_eq_true rfl, Nat.le_of_ble_eq_true rfl⟩ rfl rfl (fun _ _ h => h) (fun _ _ h => (h : False).elim)
  · have h2 := h.resolve_left e
    refine j_aload_n (pc := 0) C dX9_lexeme_0 rfl 0 rfl ?_
    refine j_callV (pc := 1) C [] [] (rm0 := ({ frames := 7, cells := 1, slots := 6, locals := 102 } : Room)) (k' := 0) (n' := 0) Q.1 (c_X9_checkLexemesLeft_t (xl X) (xw X) hw hc ha0 e) mp_X9_checkLexemesLeft wm_589 ha0 rfl rfl (by decide) rfl rfl (Nat.le_of_ble_eq_true rfl) dX9_lexeme_1 ⟨by decide, by decide⟩ ⟨Nat.le_of_ble_eq_true rfl, Nat.le_of_ble_eq_true rfl⟩ rfl rfl (det0 ?_)
    refine j_aload_n (pc := 4) C dX9_lexeme_4 rfl 0 rfl ?_
    exact j_callVX (pc := 5) C [] [] (rm0 := ({ frames := 7, cells := 1, slots := 6, locals := 102 } : Room)) (k' := 1) (n' := 6) Q NT (c_X9_checkDraftIsForm_x (xl X) (xw X) hst9 hw hc ha0 h2) mp_X9_checkDraftIsForm wm_593 ha0 rfl rfl (Nat.le_of_ble_eq_true rfl) rfl rfl (Nat.le_of_ble_eq_true rfl) dX9_lexeme_5 ⟨by decide, by decide⟩ ⟨Nat.le_of_ble_eq_true rfl, Nat.le_of_ble_eq_true rfl⟩ rfl rfl (fun _ _ h => h) (fun _ _ h => (h : False).elim)
set_option maxHeartbeats 4000000 in
set_option maxRecDepth 100000 in
theorem c_X9_reform_0 (L9 : Launch) (w9 : Wd) {σ : HS} {S : SP} (hw : WF S) (hc : CI S σ) {a0 : Nat} (ha0 : At σ (9, 0) a0) {l : Nat} (n1 : l < nL S) (n2 : th S l = 1) (h2 : isForm9 S = true) : MJ L9 w9 yX9_reform cX9_reform 3 none ({ frames := 5, cells := 0, slots := 0, locals := 108 } : Room) [.ref a0, .int (nI l)] σ (fun a9 σ' => a9 = none ∧ CI (zR (noDraft S) 768 408 l (some (dr S))) σ' ∧ Fr tgU σ σ') := by
  refine MJ.of (by decide +kernel) (Nat.le_of_ble_eq_true rfl) (fun X hX1 hX2 C Q hinit => ?_)
  subst hX1; subst hX2
  show J X 0 0 σ [(0, .ref a0), (1, .int (nI l))] [] 0
  obtain ⟨hp, he, hx, hf9, hd⟩ := id hc
  obtain ⟨z1, z2, z3, z4⟩ := id hf9
  obtain ⟨ef, e1, e2⟩ := id he
  have gS := hw.1.1
  have gC := hw.1.2.2.2.1
  have gR := hw.2.1.1
  have gL := hw.2.2.1.1
  have gW := hw.2.2.2.1.1
  have gD := hw.2.2.2.2.1
  refine j_aload_n (pc := 0) C dX9_reform_0 rfl 0 rfl ?_
  refine j_iload_n (pc := 1) C dX9_reform_1 rfl 1 rfl ?_
  refine j_callV (pc := 2) C [.int (nI l)] [] (rm0 := ({ frames := 5, cells := 0, slots := 0, locals := 108 } : Room)) (k' := 0) (n' := 0) Q.1 (c_X9_lexemeNumbered_t (xl X) (xw X) hw hc ha0 n1 n2) mp_X9_lexemeNumbered wm_636 ha0 rfl rfl (by decide) rfl rfl (Nat.le_of_ble_eq_true rfl) dX9_reform_2 ⟨by decide, by decide⟩ ⟨Nat.le_of_ble_eq_true rfl, Nat.le_of_ble_eq_true rfl⟩ rfl rfl (det1 ?_)
  refine j_astore_n (pc := 5) C [(2, .ref (hG σ (4, l))), (0, .ref a0), (1, .int (nI l))] dX9_reform_5 rfl (by decide) rfl ?_
  refine j_aload_n (pc := 6) C dX9_reform_6 rfl 1 rfl ?_
  refine j_callV (pc := 7) C [] [] (rm0 := ({ frames := 5, cells := 0, slots := 0, locals := 108 } : Room)) (k' := 0) (n' := 0) Q.1 (c_X9_checkDraftIsForm_t (xl X) (xw X) hw hc ha0 h2) mp_X9_checkDraftIsForm wm_593 ha0 rfl rfl (by decide) rfl rfl (Nat.le_of_ble_eq_true rfl) dX9_reform_7 ⟨by decide, by decide⟩ ⟨Nat.le_of_ble_eq_true rfl, Nat.le_of_ble_eq_true rfl⟩ rfl rfl (det0 ?_)
  refine j_aload_n (pc := 10) C dX9_reform_10 rfl 0 rfl ?_
  refine j_aload_n (pc := 11) C dX9_reform_11 rfl 1 rfl ?_
  refine j_callV (pc := 12) C [] [.ref (hG σ (4, l))] (rm0 := ({ frames := 5, cells := 0, slots := 0, locals := 108 } : Room)) (k' := 0) (n' := 0) Q.1 (k_take (xl X) (xw X) hw hc ha0) mp_X9_takeDraft wm_219 ha0 rfl rfl (by decide) rfl rfl (Nat.le_of_ble_eq_true rfl) dX9_reform_12 ⟨by decide, by decide⟩ ⟨Nat.le_of_ble_eq_true rfl, Nat.le_of_ble_eq_true rfl⟩ rfl rfl (fun v9 σ1 hp9 => ?_)
  obtain ⟨rfl, hC1, hF1⟩ := hp9
  show J X 0 0 σ1 [(2, .ref (hG σ (4, l))), (0, .ref a0), (1, .int (nI l))] [.long (enc5 (dr S)), .ref (hG σ (4, l))] 15
  have hw1 := hw.noDraft
  refine j_putL (pc := 15) C fp_X9_100 (hF1.at ⟨hx.2.1.1.live n1, rfl⟩) rfl rfl (Or.inl rfl) rfl (by decide) (f := 257) rfl dX9_reform_15 ?_
  exact j_vreturn (pc := 18) C Q dX9_reform_18 (Nat.le_of_ble_eq_true rfl) (Nat.le_of_ble_eq_true rfl) (⟨rfl, ci_tr hF1 (fun t z => tg99_U z) (hC1.lx hw1 (hC1.2.2.1.form hw1 (dr S)) (Fr.rf.sL (f := 257) (i := l) (j := 0) (v := enc5 (dr S)) (P := fun t => t = (4, l)) rfl) (fun t z => Or.inl (Or.inl (by rw [z]; exact ⟨rfl, by show l < 100; omega⟩))) EqN.rf.zR (EqR.rf.zR rfl))⟩)
set_option maxHeartbeats 4000000 in
set_option maxRecDepth 100000 in
theorem c_X9_reform_1 (L9 : Launch) (w9 : Wd) (hst9 : L9.stackTraces = false) {σ : HS} {S : SP} (hw : WF S) (hc : CI S σ) {a0 : Nat} (ha0 : At σ (9, 0) a0) {x : Int32} (h : isLex S x = false) : MX L9 w9 yX9_reform cX9_reform 3 none ({ frames := 7, cells := 1, slots := 6, locals := 108 } : Room) [.ref a0, .int x] σ (fun _ _ => False) (fun E σ' => E = "java/lang/IndexOutOfBoundsException" ∧ σ' = σ) := by
  refine MX.of (by decide +kernel) (Nat.le_of_ble_eq_true rfl) hst9 (fun X hX1 hX2 C Q NT => ?_)
  subst hX1; subst hX2
  show J X 0 0 σ [(0, .ref a0), (1, .int x)] [] 0
  obtain ⟨hp, he, hx, hf9, hd⟩ := id hc
  obtain ⟨z1, z2, z3, z4⟩ := id hf9
  obtain ⟨ef, e1, e2⟩ := id he
  have gS := hw.1.1
  have gC := hw.1.2.2.2.1
  have gR := hw.2.1.1
  have gL := hw.2.2.1.1
  have gW := hw.2.2.2.1.1
  have gD := hw.2.2.2.2.1
  refine j_aload_n (pc := 0) C dX9_reform_0 rfl 0 rfl ?_
  refine j_iload_n (pc := 1) C dX9_reform_1 rfl 1 rfl ?_
  exact j_callVX (pc := 2) C [.int x] [] (rm0 := ({ frames := 7, cells := 1, slots := 6, locals := 108 } : Room)) (k' := 1) (n' := 6) Q NT (c_X9_lexemeNumbered_x (xl X) (xw X) hst9 hw hc ha0 h) mp_X9_lexemeNumbered wm_636 ha0 rfl rfl (Nat.le_of_ble_eq_true rfl) rfl rfl (Nat.le_of_ble_eq_true rfl) dX9_reform_2 ⟨by decide, by decide⟩ ⟨Nat.le_of_ble_eq_true rfl, Nat.le_of_ble_eq_true rfl⟩ rfl rfl (fun _ _ h => h) (fun _ _ h => (h : False).elim)
set_option maxHeartbeats 4000000 in
set_option maxRecDepth 100000 in
theorem c_X9_reform_2 (L9 : Launch) (w9 : Wd) (hst9 : L9.stackTraces = false) {σ : HS} {S : SP} (hw : WF S) (hc : CI S σ) {a0 : Nat} (ha0 : At σ (9, 0) a0) {l : Nat} (n1 : l < nL S) (n2 : th S l = 1) (h2 : isForm9 S = false) : MX L9 w9 yX9_reform cX9_reform 3 none ({ frames := 7, cells := 1, slots := 6, locals := 108 } : Room) [.ref a0, .int (nI l)] σ (fun _ _ => False) (fun E σ' => E = "java/lang/IllegalStateException" ∧ σ' = σ) := by
  refine MX.of (by decide +kernel) (Nat.le_of_ble_eq_true rfl) hst9 (fun X hX1 hX2 C Q NT => ?_)
  subst hX1; subst hX2
  show J X 0 0 σ [(0, .ref a0), (1, .int (nI l))] [] 0
  obtain ⟨hp, he, hx, hf9, hd⟩ := id hc
  obtain ⟨z1, z2, z3, z4⟩ := id hf9
  obtain ⟨ef, e1, e2⟩ := id he
  have gS := hw.1.1
  have gC := hw.1.2.2.2.1
  have gR := hw.2.1.1
  have gL := hw.2.2.1.1
  have gW := hw.2.2.2.1.1
  have gD := hw.2.2.2.2.1
  refine j_aload_n (pc := 0) C dX9_reform_0 rfl 0 rfl ?_
  refine j_iload_n (pc := 1) C dX9_reform_1 rfl 1 rfl ?_
  refine j_callV (pc := 2) C [.int (nI l)] [] (rm0 := ({ frames := 7, cells := 1, slots := 6, locals := 108 } : Room)) (k' := 0) (n' := 0) Q.1 (c_X9_lexemeNumbered_t (xl X) (xw X) hw hc ha0 n1 n2) mp_X9_lexemeNumbered wm_636 ha0 rfl rfl (by decide) rfl rfl (Nat.le_of_ble_eq_true rfl) dX9_reform_2 ⟨by decide, by decide⟩ ⟨Nat.le_of_ble_eq_true rfl, Nat.le_of_ble_eq_true rfl⟩ rfl rfl (det1 ?_)
  refine j_astore_n (pc := 5) C [(2, .ref (hG σ (4, l))), (0, .ref a0), (1, .int (nI l))] dX9_reform_5 rfl (by decide) rfl ?_
  refine j_aload_n (pc := 6) C dX9_reform_6 rfl 1 rfl ?_
  exact j_callVX (pc := 7) C [] [] (rm0 := ({ frames := 7, cells := 1, slots := 6, locals := 108 } : Room)) (k' := 1) (n' := 6) Q NT (c_X9_checkDraftIsForm_x (xl X) (xw X) hst9 hw hc ha0 h2) mp_X9_checkDraftIsForm wm_593 ha0 rfl rfl (Nat.le_of_ble_eq_true rfl) rfl rfl (Nat.le_of_ble_eq_true rfl) dX9_reform_7 ⟨by decide, by decide⟩ ⟨Nat.le_of_ble_eq_true rfl, Nat.le_of_ble_eq_true rfl⟩ rfl rfl (fun _ _ h => h) (fun _ _ h => (h : False).elim)
set_option maxHeartbeats 4000000 in
set_option maxRecDepth 100000 in
theorem c_X9_ending_0 (L9 : Launch) (w9 : Wd) {σ : HS} {S : SP} (hw : WF S) (hc : CI S σ) {a0 : Nat} (ha0 : At σ (9, 0) a0) {c : Nat} (h1 : c < 8) (h2 : (dr S).length ≤ 2) : MJ L9 w9 yX9_ending cX9_ending 2 none ({ frames := 2, cells := 0, slots := 0, locals := 43 } : Room) [.ref a0, .int (nI c)] σ (fun a9 σ' => a9 = none ∧ CI (zR (noDraft S) 768 411 c (some (dr S))) σ' ∧ Fr tgU σ σ') := by
  refine MJ.of (by decide +kernel) (Nat.le_of_ble_eq_true rfl) (fun X hX1 hX2 C Q hinit => ?_)
  subst hX1; subst hX2
  show J X 0 0 σ [(0, .ref a0), (1, .int (nI c))] [] 0
  obtain ⟨hp, he, hx, hf9, hd⟩ := id hc
  obtain ⟨z1, z2, z3, z4⟩ := id hf9
  obtain ⟨ef, e1, e2⟩ := id he
  have gS := hw.1.1
  have gC := hw.1.2.2.2.1
  have gR := hw.2.1.1
  have gL := hw.2.2.1.1
  have gW := hw.2.2.2.1.1
  have gD := hw.2.2.2.2.1
  refine j_iload_n (pc := 0) C dX9_ending_0 rfl 1 rfl ?_
  refine j_callS (pc := 1) C [.int (nI c)] [] (rm0 := ({ frames := 2, cells := 0, slots := 0, locals := 43 } : Room)) (k' := 0) (n' := 0) Q.1 (c_X9_checkCell_t (xl X) (xw X) h1) mp_X9_checkCell wm_647 rfl rfl (Nat.le_of_ble_eq_true rfl) dX9_ending_1 ⟨by decide, by decide⟩ ⟨Nat.le_of_ble_eq_true rfl, Nat.le_of_ble_eq_true rfl⟩ rfl rfl (det0 ?_)
  refine j_aload_n (pc := 4) C dX9_ending_4 rfl 0 rfl ?_
  refine j_getL (pc := 5) C fp_X9_32 ha0 rfl (f := 579) rfl dX9_ending_5 ?_
  refine j_topl (enc5 (dr S)) hd ?_
  refine j_callS (pc := 8) C [.long (enc5 (dr S))] [] (rm0 := ({ frames := 2, cells := 0, slots := 0, locals := 43 } : Room)) (k' := 0) (n' := 0) Q.1 (c_X6_sizeOf (xl X) (xw X) (WF_drR hw)) mp_X6_sizeOf wm_223 rfl rfl (Nat.le_of_ble_eq_true rfl) dX9_ending_8 ⟨by decide, by decide⟩ ⟨Nat.le_of_ble_eq_true rfl, Nat.le_of_ble_eq_true rfl⟩ rfl rfl (det1 ?_)
  refine j_iconst (pc := 11) C (nI 2) dX9_ending_11 (by decide) ?_
  refine jn_icmp_le (pc := 12) C 23 (a := (dr S).length) (b := 2) (by omega) (by omega) dX9_ending_12 (by decide) (fun c0 => ?_) (fun c0 => (absurd c0 (by omega) : False).elim)
  refine j_aload_n (pc := 23) C dX9_ending_23 rfl 0 rfl ?_
  refine j_getA (pc := 24) C fp_X9_26 ha0 rfl (f := 578) rfl (1, 100) (hG σ (1, 100)) z4 (⟨e1.1, rfl⟩ : At _ (1, 100) _) dX9_ending_24 ?_
  refine j_iload_n (pc := 27) C dX9_ending_27 rfl 1 rfl ?_
  refine j_aload_n (pc := 28) C dX9_ending_28 rfl 0 rfl ?_
  refine j_callV (pc := 29) C [] [.int (nI c), .ref (hG σ (1, 100))] (rm0 := ({ frames := 2, cells := 0, slots := 0, locals := 43 } : Room)) (k' := 0) (n' := 0) Q.1 (k_take (xl X) (xw X) hw hc ha0) mp_X9_takeDraft wm_219 ha0 rfl rfl (by decide) rfl rfl (Nat.le_of_ble_eq_true rfl) dX9_ending_29 ⟨by decide, by decide⟩ ⟨Nat.le_of_ble_eq_true rfl, Nat.le_of_ble_eq_true rfl⟩ rfl rfl (fun v9 σ1 hp9 => ?_)
  obtain ⟨rfl, hC1, hF1⟩ := hp9
  show J X 0 0 σ1 [(0, .ref a0), (1, .int (nI c))] [.long (enc5 (dr S)), .int (nI c), .ref (hG σ (1, 100))] 32
  have hw1 := hw.noDraft
  have e11 := e1.fr hF1 (fun t z => by simp only [tgC, tg99] at z ⊢; omega)
  refine j_callV (pc := 32) C [.int (nI c), .long (enc5 (dr S))] [] (rm0 := ({ frames := 2, cells := 0, slots := 0, locals := 43 } : Room)) (k' := 0) (n' := 0) Q.1 (c_X0_give (xl X) (xw X) e11 (hF1.at ⟨e1.1, rfl⟩) h1 (dr S)) mp_X0_give wm_651 (hF1.at ⟨e1.1, rfl⟩) rfl rfl (by decide) rfl rfl (Nat.le_of_ble_eq_true rfl) dX9_ending_32 ⟨by decide, by decide⟩ ⟨Nat.le_of_ble_eq_true rfl, Nat.le_of_ble_eq_true rfl⟩ rfl rfl (fun v9 σ2 hp9 => ?_)
  obtain ⟨rfl, hE2, hF2⟩ := hp9
  show J X 0 0 σ2 [(0, .ref a0), (1, .int (nI c))] [] 35
  exact j_vreturn (pc := 35) C Q dX9_ending_35 (Nat.le_of_ble_eq_true rfl) (Nat.le_of_ble_eq_true rfl) (⟨rfl, ci_tr hF1 (fun t z => tg99_U z) (hC1.ending hw1 h1 e2 hE2 hF2)⟩)
set_option maxHeartbeats 4000000 in
set_option maxRecDepth 100000 in
theorem c_X9_ending_1 (L9 : Launch) (w9 : Wd) (hst9 : L9.stackTraces = false) {σ : HS} {S : SP} (hw : WF S) (hc : CI S σ) {a0 : Nat} (ha0 : At σ (9, 0) a0) {x : Int32} (h : inI x 8 = false) : MX L9 w9 yX9_ending cX9_ending 2 none ({ frames := 7, cells := 1, slots := 6, locals := 101 } : Room) [.ref a0, .int x] σ (fun _ _ => False) (fun E σ' => E = "java/lang/IndexOutOfBoundsException" ∧ σ' = σ) := by
  refine MX.of (by decide +kernel) (Nat.le_of_ble_eq_true rfl) hst9 (fun X hX1 hX2 C Q NT => ?_)
  subst hX1; subst hX2
  show J X 0 0 σ [(0, .ref a0), (1, .int x)] [] 0
  obtain ⟨hp, he, hx, hf9, hd⟩ := id hc
  obtain ⟨z1, z2, z3, z4⟩ := id hf9
  obtain ⟨ef, e1, e2⟩ := id he
  have gS := hw.1.1
  have gC := hw.1.2.2.2.1
  have gR := hw.2.1.1
  have gL := hw.2.2.1.1
  have gW := hw.2.2.2.1.1
  have gD := hw.2.2.2.2.1
  refine j_iload_n (pc := 0) C dX9_ending_0 rfl 1 rfl ?_
  exact j_callSX (pc := 1) C [.int x] [] (rm0 := ({ frames := 7, cells := 1, slots := 6, locals := 101 } : Room)) (k' := 1) (n' := 6) Q NT (c_X9_checkCell_x (xl X) (xw X) hst9 h) mp_X9_checkCell wm_647 rfl rfl (Nat.le_of_ble_eq_true rfl) dX9_ending_1 ⟨by decide, by decide⟩ ⟨Nat.le_of_ble_eq_true rfl, Nat.le_of_ble_eq_true rfl⟩ rfl rfl (fun _ _ h => h) (fun _ _ h => (h : False).elim)
set_option maxHeartbeats 4000000 in
set_option maxRecDepth 100000 in
theorem c_X9_ending_2 (L9 : Launch) (w9 : Wd) (hst9 : L9.stackTraces = false) {σ : HS} {S : SP} (hw : WF S) (hc : CI S σ) {a0 : Nat} (ha0 : At σ (9, 0) a0) {c : Nat} (h1 : c < 8) (h2 : 2 < (dr S).length) : MX L9 w9 yX9_ending cX9_ending 2 none ({ frames := 6, cells := 1, slots := 6, locals := 81 } : Room) [.ref a0, .int (nI c)] σ (fun _ _ => False) (fun E σ' => E = "java/lang/IllegalStateException" ∧ σ' = σ) := by
  refine MX.of (by decide +kernel) (Nat.le_of_ble_eq_true rfl) hst9 (fun X hX1 hX2 C Q NT => ?_)
  subst hX1; subst hX2
  show J X 0 0 σ [(0, .ref a0), (1, .int (nI c))] [] 0
  obtain ⟨hp, he, hx, hf9, hd⟩ := id hc
  obtain ⟨z1, z2, z3, z4⟩ := id hf9
  obtain ⟨ef, e1, e2⟩ := id he
  have gS := hw.1.1
  have gC := hw.1.2.2.2.1
  have gR := hw.2.1.1
  have gL := hw.2.2.1.1
  have gW := hw.2.2.2.1.1
  have gD := hw.2.2.2.2.1
  have h8 := (WF_drR hw).1
  refine j_iload_n (pc := 0) C dX9_ending_0 rfl 1 rfl ?_
  refine j_callS (pc := 1) C [.int (nI c)] [] (rm0 := ({ frames := 6, cells := 1, slots := 6, locals := 81 } : Room)) (k' := 0) (n' := 0) Q.1 (c_X9_checkCell_t (xl X) (xw X) h1) mp_X9_checkCell wm_647 rfl rfl (Nat.le_of_ble_eq_true rfl) dX9_ending_1 ⟨by decide, by decide⟩ ⟨Nat.le_of_ble_eq_true rfl, Nat.le_of_ble_eq_true rfl⟩ rfl rfl (det0 ?_)
  refine j_aload_n (pc := 4) C dX9_ending_4 rfl 0 rfl ?_
  refine j_getL (pc := 5) C fp_X9_32 ha0 rfl (f := 579) rfl dX9_ending_5 ?_
  refine j_topl (enc5 (dr S)) hd ?_
  refine j_callS (pc := 8) C [.long (enc5 (dr S))] [] (rm0 := ({ frames := 6, cells := 1, slots := 6, locals := 81 } : Room)) (k' := 0) (n' := 0) Q.1 (c_X6_sizeOf (xl X) (xw X) (WF_drR hw)) mp_X6_sizeOf wm_223 rfl rfl (Nat.le_of_ble_eq_true rfl) dX9_ending_8 ⟨by decide, by decide⟩ ⟨Nat.le_of_ble_eq_true rfl, Nat.le_of_ble_eq_true rfl⟩ rfl rfl (det1 ?_)
  refine j_iconst (pc := 11) C (nI 2) dX9_ending_11 (by decide) ?_
  refine jn_icmp_le (pc := 12) C 23 (a := (dr S).length) (b := 2) (by omega) (by omega) dX9_ending_12 (by decide) (fun c0 => (absurd c0 (by omega) : False).elim) (fun c0 => ?_)
  exact j_throw0 (pc := 15) C (rm := ({ frames := 6, cells := 1, slots := 6, locals := 81 } : Room)) Q NT tp_X9_48 dX9_ending_15 dX9_ending_18 dX9_ending_19 dX9_ending_22 ⟨by decide, by decide, by decide, by decide⟩ ⟨rfl, rfl⟩
