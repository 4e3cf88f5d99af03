set_option maxHeartbeats 4000000 in
set_option maxRecDepth 100000 in
theorem c_X0_init (L9 : Launch) (w9 : Wd) {σ : HS} {r a0 : Nat} (ha0 : At σ (1, r) a0) (hz : hI σ 65 r 0 = nI 0) (hf : hV σ (12, r) = false) : MJ L9 w9 yX0_init cX0_init 1 none ({ frames := 1, cells := 1, slots := 8, locals := 12 } : Room) [.ref a0] σ (fun a9 σ' => a9 = none ∧ CR9 σ' r (fun _ => none) ∧ Fr (tgC r) σ σ') := by
  refine MJ.of (by decide +kernel) (Nat.le_of_ble_eq_true rfl) (fun X hX1 hX2 C Q hinit => ?_)
  subst hX1; subst hX2
  show J X 0 0 σ [(0, .ref a0)] [] 0
  refine j_aload_n (pc := 0) C dX0_init_0 rfl 0 rfl ?_
  refine j_objInit (pc := 1) C (rm0 := ({ frames := 1, cells := 1, slots := 8, locals := 12 } : Room)) Q.1 wm_194 wm_87 wm_88 rfl dX0_init_1 ⟨by decide, by decide⟩ ?_
  refine j_aload_n (pc := 4) C dX0_init_4 rfl 0 rfl ?_
  refine j_bipush (pc := 5) C (nI 8) dX0_init_5 (by decide) ?_
  refine j_newa (pc := 7) C (k' := 1) (n' := 8) (rm0 := ({ frames := 1, cells := 1, slots := 8, locals := 12 } : Room)) (12, r) Q.1 wm_170 rfl (Or.inr (Or.inl ⟨rfl, rfl⟩)) hf (M := 8) rfl (by decide) dX0_init_7 ⟨by decide, by decide⟩ rfl rfl (fun q => ?_)
  show J X 1 8 (sNew σ (12, r) q 8) [(0, .ref a0)] [.ref q, .ref a0] 9
  refine j_putR (pc := 9) C (12, r) (At.new (σ := σ) (t := (12, r)) (q := q) (n := 8)).2 (Or.inl (At.new (σ := σ) (t := (12, r)) (q := q) (n := 8)).1) fp_X0_9 (ha0.ext (Ext.new (q := q) (n := 8) hf)) rfl rfl (Or.inr ⟨rfl, hinit rfl⟩) rfl (by decide) (f := 64) rfl dX0_init_9 ?_
  have hC : CR9 (sR (sNew σ (12, r) q 8) 64 r 0 (some (12, r))) r (fun _ => none) := ⟨((Ext.new (q := q) (n := 8) hf) (1, r) ha0.1).1, sR_eq, up1_eq, if_pos ⟨rfl, rfl⟩, fun c _ => clr_eq (t := (12, r)) rfl rfl, 0, by decide, (clr_ne (f := hI σ) (t := (12, r)) (v := 0) (x := 65) (y := r) (z := 0) (fun z => absurd z.1 (by show ¬ 65 / 64 = 12; decide))).trans hz, fun c _ => Nat.zero_testBit c⟩
  exact j_vreturn (pc := 12) C Q dX0_init_12 (Nat.le_of_ble_eq_true rfl) (Nat.le_of_ble_eq_true rfl) (⟨rfl, hC, (Fr.rf.new hf ⟨Or.inr rfl, rfl⟩).sR ⟨Or.inl rfl, rfl⟩⟩)
set_option maxHeartbeats 4000000 in
set_option maxRecDepth 100000 in
theorem c_X0_give (L9 : Launch) (w9 : Wd) {σ : HS} {r a0 : Nat} {f : Nat → Option (List Nat)} (h : CR9 σ r f) (ha0 : At σ (1, r) a0) {c : Nat} (hc : c < 8) (l : List Nat) : MJ L9 w9 yX0_give cX0_give 4 none ({ frames := 1, cells := 0, slots := 0, locals := 20 } : Room) [.ref a0, .int (nI c), .long (enc5 l)] σ (fun a9 σ' => a9 = none ∧ CR9 σ' r (fun u => if u = c then some l else f u) ∧ Fr (tgC r) σ σ') := by
  refine MJ.of (by decide +kernel) (Nat.le_of_ble_eq_true rfl) (fun X hX1 hX2 C Q hinit => ?_)
  subst hX1; subst hX2
  show J X 0 0 σ [(0, .ref a0), (1, .int (nI c)), (2, .long (enc5 l))] [] 0
  obtain ⟨m, m1, hm, m2⟩ := h.2.2.2.2.2
  have ki : inI (nI c) 8 = true := by rw [inI_nI (by omega), decide_eq_true hc]
  refine j_iload_n (pc := 0) C dX0_give_0 rfl 1 rfl ?_
  refine j_callS (pc := 1) C [.int (nI c)] [] (rm0 := ({ frames := 1, cells := 0, slots := 0, locals := 20 } : Room)) (k' := 0) (n' := 0) Q.1 (c_X0_isCell (xl X) (xw X) (nI c)) mp_X0_isCell wm_275 rfl rfl (Nat.le_of_ble_eq_true rfl) dX0_give_1 ⟨by decide, by decide⟩ ⟨Nat.le_of_ble_eq_true rfl, Nat.le_of_ble_eq_true rfl⟩ rfl rfl (det1 ?_)
  refine j_topi (bI true) (by rw [ki]) ?_
  refine j_if_eq (pc := 4) C 26 dX0_give_4 (by decide) (fun q => absurd q (by decide)) (fun _ => ?_)
  refine j_aload_n (pc := 7) C dX0_give_7 rfl 0 rfl ?_
  refine j_getA (pc := 8) C fp_X0_9 ha0 rfl (f := 64) rfl (12, r) (hG σ (12, r)) h.2.1 (⟨h.2.2.1, rfl⟩ : At _ (12, r) _) dX0_give_8 ?_
  refine j_iload_n (pc := 11) C dX0_give_11 rfl 1 rfl ?_
  refine j_lload_n (pc := 12) C dX0_give_12 rfl 2 rfl ?_
  refine j_last (pc := 13) C (p := c) (M := 8) (⟨h.2.2.1, rfl⟩ : At _ (12, r) _) rfl h.2.2.2.1 hc (by decide) dX0_give_13 ?_
  refine j_aload_n (pc := 14) C dX0_give_14 rfl 0 rfl ?_
  refine j_dup (pc := 15) C dX0_give_15 rfl ?_
  refine j_getI (pc := 16) C fp_X0_19 ha0 rfl (f := 65) rfl dX0_give_16 ?_
  refine j_topi (nI m) hm ?_
  refine j_iconst (pc := 19) C (nI 1) dX0_give_19 (by decide) ?_
  refine j_iload_n (pc := 20) C dX0_give_20 rfl 1 rfl ?_
  refine j_ishl (pc := 21) C dX0_give_21 ?_
  refine j_topi (nI (2 ^ c)) (shl1 (by omega)) ?_
  refine j_ior (pc := 22) C dX0_give_22 ?_
  refine j_topi (nI (m ||| (2 ^ c))) (nx_or m (2 ^ c)) ?_
  refine j_putI (pc := 23) C fp_X0_19 ha0 rfl rfl (Or.inl rfl) rfl (by decide) (f := 65) rfl dX0_give_23 ?_
  have k := h.put (m := m ||| 2 ^ c) (c := c) (some l) (Nat.or_lt_two_pow (n := 8) m1 (Nat.pow_lt_pow_right (by decide) hc)) (fun u hu => by
    rw [Nat.testBit_or, Nat.testBit_two_pow, m2 u hu]
    by_cases e : u = c
    · rw [if_pos e, decide_eq_true e.symm, Bool.or_true]; rfl
    · rw [if_neg e, decide_eq_false (fun z => e z.symm), Bool.or_false])
  exact j_vreturn (pc := 26) C Q dX0_give_26 (Nat.le_of_ble_eq_true rfl) (Nat.le_of_ble_eq_true rfl) (⟨rfl, k.1, (Fr.rf.sL ⟨Or.inr rfl, rfl⟩).sI ⟨Or.inl rfl, rfl⟩⟩)
set_option maxHeartbeats 4000000 in
set_option maxRecDepth 100000 in
theorem c_X0_drop (L9 : Launch) (w9 : Wd) {σ : HS} {r a0 : Nat} {f : Nat → Option (List Nat)} (h : CR9 σ r f) (ha0 : At σ (1, r) a0) {c : Nat} (hc : c < 8) : MJ L9 w9 yX0_drop cX0_drop 2 none ({ frames := 1, cells := 0, slots := 0, locals := 20 } : Room) [.ref a0, .int (nI c)] σ (fun a9 σ' => a9 = none ∧ CR9 σ' r (fun u => if u = c then none else f u) ∧ Fr (tgC r) σ σ') := by
  refine MJ.of (by decide +kernel) (Nat.le_of_ble_eq_true rfl) (fun X hX1 hX2 C Q hinit => ?_)
  subst hX1; subst hX2
  show J X 0 0 σ [(0, .ref a0), (1, .int (nI c))] [] 0
  obtain ⟨m, m1, hm, m2⟩ := h.2.2.2.2.2
  have ki : inI (nI c) 8 = true := by rw [inI_nI (by omega), decide_eq_true hc]
  refine j_iload_n (pc := 0) C dX0_drop_0 rfl 1 rfl ?_
  refine j_callS (pc := 1) C [.int (nI c)] [] (rm0 := ({ frames := 1, cells := 0, slots := 0, locals := 20 } : Room)) (k' := 0) (n' := 0) Q.1 (c_X0_isCell (xl X) (xw X) (nI c)) mp_X0_isCell wm_275 rfl rfl (Nat.le_of_ble_eq_true rfl) dX0_drop_1 ⟨by decide, by decide⟩ ⟨Nat.le_of_ble_eq_true rfl, Nat.le_of_ble_eq_true rfl⟩ rfl rfl (det1 ?_)
  refine j_topi (bI true) (by rw [ki]) ?_
  refine j_if_eq (pc := 4) C 28 dX0_drop_4 (by decide) (fun q => absurd q (by decide)) (fun _ => ?_)
  refine j_aload_n (pc := 7) C dX0_drop_7 rfl 0 rfl ?_
  refine j_getA (pc := 8) C fp_X0_9 ha0 rfl (f := 64) rfl (12, r) (hG σ (12, r)) h.2.1 (⟨h.2.2.1, rfl⟩ : At _ (12, r) _) dX0_drop_8 ?_
  refine j_iload_n (pc := 11) C dX0_drop_11 rfl 1 rfl ?_
  refine j_lconst (pc := 12) C (lN 0) dX0_drop_12 (by decide) ?_
  refine j_last (pc := 13) C (p := c) (M := 8) (⟨h.2.2.1, rfl⟩ : At _ (12, r) _) rfl h.2.2.2.1 hc (by decide) dX0_drop_13 ?_
  refine j_aload_n (pc := 14) C dX0_drop_14 rfl 0 rfl ?_
  refine j_dup (pc := 15) C dX0_drop_15 rfl ?_
  refine j_getI (pc := 16) C fp_X0_19 ha0 rfl (f := 65) rfl dX0_drop_16 ?_
  refine j_topi (nI m) hm ?_
  refine j_iconst (pc := 19) C (nI 1) dX0_drop_19 (by decide) ?_
  refine j_iload_n (pc := 20) C dX0_drop_20 rfl 1 rfl ?_
  refine j_ishl (pc := 21) C dX0_drop_21 ?_
  refine j_topi (nI (2 ^ c)) (shl1 (by omega)) ?_
  refine j_iconst (pc := 22) C (-1) dX0_drop_22 (by decide) ?_
  refine j_ixor (pc := 23) C dX0_drop_23 ?_
  refine j_iand (pc := 24) C dX0_drop_24 ?_
  refine j_topi (nI (setOn m c false)) (setOn_off (by omega)) ?_
  refine j_putI (pc := 25) C fp_X0_19 ha0 rfl rfl (Or.inl rfl) rfl (by decide) (f := 65) rfl dX0_drop_25 ?_
  have k := h.put (m := setOn m c false) (c := c) (none) (setOn_lt (n := 8) m1 hc) (fun u hu => by rw [setOn_bit, m2 u hu]; rfl)
  exact j_vreturn (pc := 28) C Q dX0_drop_28 (Nat.le_of_ble_eq_true rfl) (Nat.le_of_ble_eq_true rfl) (⟨rfl, k.1, (Fr.rf.sL ⟨Or.inr rfl, rfl⟩).sI ⟨Or.inl rfl, rfl⟩⟩)
set_option maxHeartbeats 4000000 in
set_option maxRecDepth 100000 in
theorem c_X0_copyFrom (L9 : Launch) (w9 : Wd) {σ : HS} {r r' a0 a1 : Nat} {f f' : Nat → Option (List Nat)} (h : CR9 σ r f) (h' : CR9 σ r' f') (hne : r ≠ r') (ha0 : At σ (1, r) a0) (ha1 : At σ (1, r') a1) : MJ L9 w9 yX0_copyFrom cX0_copyFrom 3 none ({ frames := 2, cells := 0, slots := 0, locals := 41 } : Room) [.ref a0, .ref a1] σ (fun a9 σ' => a9 = none ∧ CR9 σ' r f' ∧ Fr (tgC r) σ σ') := by
  refine MJ.of (by decide +kernel) (Nat.le_of_ble_eq_true rfl) (fun X hX1 hX2 C Q hinit => ?_)
  subst hX1; subst hX2
  show J X 0 0 σ [(0, .ref a0), (1, .ref a1)] [] 0
  refine j_iconst (pc := 0) C (nI 0) dX0_copyFrom_0 (by decide) ?_
  refine j_istore_n (pc := 1) C [(2, .int (nI 0)), (0, .ref a0), (1, .ref a1)] dX0_copyFrom_1 rfl (by decide) rfl ?_
  have loop : ∀ (f : Nat) (k : Nat) (σ9 : HS), (k ≤ 8) → (8 < k + f) → (Fr (fun t => t.1 = 12 ∧ t.2 = r) σ σ9) → (∀ c, c < k → hL σ9 768 r c = enc5 ((f' c).getD [])) → J X 0 0 σ9 [(2, .int (nI k)), (0, .ref a0), (1, .ref a1)] [] 2 := by
    intro f
    induction f with
    | zero => intro k σ9 h1 h2 hF hq; exact absurd h2 (by omega)
    | succ f ih =>
      intro k σ9 h1 h2 hF hq
      have h9 := h'.fr hF (fun t ht => by simp only [tgC] at ht <;> omega)
      have h4 : hR σ9 64 r 0 = some (12, r) := (hF.rR (f := 64) (by simp)).trans h.2.1
      have h5 : hV σ9 (12, r) = true := hF.live h.2.2.1
      have h6 : hN σ9 12 r = 8 := (hF.len h.2.2.1).trans h.2.2.2.1
      obtain ⟨m, m1, hm, m2⟩ := h9.2.2.2.2.2
      refine j_iload_n (pc := 2) C dX0_copyFrom_2 rfl 0 rfl ?_
      refine j_bipush (pc := 3) C (nI 8) dX0_copyFrom_3 (by decide) ?_
      refine jn_icmp_ge (pc := 5) C 25 (a := k) (b := 8) (by omega) (by omega) dX0_copyFrom_5 (by decide) (fun d1 => ?_) (fun d1 => ?_)
      · have e : k = 8 := Nat.le_antisymm h1 d1
        rw [e] at hq
        refine j_aload_n (pc := 25) C dX0_copyFrom_25 rfl 1 rfl ?_
        refine j_aload_n (pc := 26) C dX0_copyFrom_26 rfl 2 rfl ?_
        refine j_getI (pc := 27) C fp_X0_19 (hF.at ha1) rfl (f := 65) rfl dX0_copyFrom_27 ?_
        refine j_topi (nI m) hm ?_
        refine j_putI (pc := 30) C fp_X0_19 (hF.at ha0) rfl rfl (Or.inl rfl) rfl (by decide) (f := 65) rfl dX0_copyFrom_30 ?_
        exact j_vreturn (pc := 33) C Q dX0_copyFrom_33 (Nat.le_of_ble_eq_true rfl) (Nat.le_of_ble_eq_true rfl) (⟨rfl, ⟨hF.live h.1, h4, h5, h6, hq, m, m1, sI_eq, m2⟩, (hF.wide (fun t z => ⟨Or.inr z.1, z.2⟩)).sI ⟨Or.inl rfl, rfl⟩⟩)
      · refine j_aload_n (pc := 8) C dX0_copyFrom_8 rfl 1 rfl ?_
        refine j_getA (pc := 9) C fp_X0_9 (hF.at ha0) rfl (f := 64) rfl (12, r) (hG σ9 (12, r)) h4 (⟨h5, rfl⟩ : At _ (12, r) _) dX0_copyFrom_9 ?_
        refine j_iload_n (pc := 12) C dX0_copyFrom_12 rfl 0 rfl ?_
        refine j_aload_n (pc := 13) C dX0_copyFrom_13 rfl 2 rfl ?_
        refine j_iload_n (pc := 14) C dX0_copyFrom_14 rfl 0 rfl ?_
        refine j_callV (pc := 15) C [.int (nI k)] [.int (nI k), .ref (hG σ9 (12, r))] (rm0 := ({ frames := 2, cells := 0, slots := 0, locals := 41 } : Room)) (k' := 0) (n' := 0) Q.1 (MJ.at (hF.at ha1) (c_X0_in (xl X) (xw X) h9 d1)) mp_X0_in wm_865 (hF.at ha1) rfl rfl (Nat.le_of_ble_eq_true rfl) rfl rfl (Nat.le_of_ble_eq_true rfl) dX0_copyFrom_15 ⟨by decide, by decide⟩ ⟨Nat.le_of_ble_eq_true rfl, Nat.le_of_ble_eq_true rfl⟩ rfl rfl (det1 ?_)
        refine j_last (pc := 18) C (p := k) (M := 8) (⟨h5, rfl⟩ : At _ (12, r) _) rfl h6 d1 (by decide) dX0_copyFrom_18 ?_
        refine j_iinc (pc := 19) C (nI (k + 1)) [(2, .int (nI (k + 1))), (0, .ref a0), (1, .ref a1)] dX0_copyFrom_19 0 rfl (nI_add k 1) (by decide) rfl ?_
        refine j_goto (pc := 22) C 2 dX0_copyFrom_22 (by decide) ?_
        have hq2 : ∀ c, c < k + 1 → hL (sL σ9 768 r k (enc5 ((f' k).getD []))) 768 r c = enc5 ((f' c).getD []) := fun c hc => by
          by_cases e : c = k
          · rw [e]; exact sL_eq
          · exact (up3_ne (fun z => e z.2.2)).trans (hq c (by omega))
        exact J.to [0, 1, 2] rfl (ih (k + 1) _ (by omega) (by omega) (hF.sL ⟨rfl, rfl⟩) hq2)
  exact J.to [0, 1, 2] rfl (loop 9 0 σ (Nat.zero_le _) (by omega) Fr.rf (fun c hc => absurd hc (Nat.not_lt_zero c)))
set_option maxHeartbeats 4000000 in
set_option maxRecDepth 100000 in
theorem c_X0_fillGapsFrom (L9 : Launch) (w9 : Wd) {σ : HS} {r r' a0 a1 : Nat} {f f' : Nat → Option (List Nat)} (h : CR9 σ r f) (h' : CR9 σ r' f') (hne : r ≠ r') (ha0 : At σ (1, r) a0) (ha1 : At σ (1, r') a1) : MJ L9 w9 yX0_fillGapsFrom cX0_fillGapsFrom 3 none ({ frames := 2, cells := 0, slots := 0, locals := 43 } : Room) [.ref a0, .ref a1] σ (fun a9 σ' => a9 = none ∧ CR9 σ' r (fun c => if (f c).isNone = true then f' c else f c) ∧ Fr (tgC r) σ σ') := by
  refine MJ.of (by decide +kernel) (Nat.le_of_ble_eq_true rfl) (fun X hX1 hX2 C Q hinit => ?_)
  subst hX1; subst hX2
  show J X 0 0 σ [(0, .ref a0), (1, .ref a1)] [] 0
  refine j_iconst (pc := 0) C (nI 0) dX0_fillGapsFrom_0 (by decide) ?_
  refine j_istore_n (pc := 1) C [(2, .int (nI 0)), (0, .ref a0), (1, .ref a1)] dX0_fillGapsFrom_1 rfl (by decide) rfl ?_
  have loop : ∀ (f9 : Nat) (k : Nat) (σ9 : HS), (k ≤ 8) → (8 < k + f9) → (Fr (tgC r) σ σ9) → (CR9 σ9 r (fun c => if c < k ∧ (f c).isNone = true then f' c else f c)) → J X 0 0 σ9 [(2, .int (nI k)), (0, .ref a0), (1, .ref a1)] [] 2 := by
    intro f9
    induction f9 with
    | zero => intro k σ9 h1 h2 hF hC; exact absurd h2 (by omega)
    | succ f9 ih =>
      intro k σ9 h1 h2 hF hC
      have h9 := h'.fr hF (fun t ht => by simp only [tgC] at ht ⊢ <;> omega)
      refine j_iload_n (pc := 2) C dX0_fillGapsFrom_2 rfl 0 rfl ?_
      refine j_bipush (pc := 3) C (nI 8) dX0_fillGapsFrom_3 (by decide) ?_
      refine jn_icmp_ge (pc := 5) C 40 (a := k) (b := 8) (by omega) (by omega) dX0_fillGapsFrom_5 (by decide) (fun d1 => ?_) (fun d1 => ?_)
      · have e : k = 8 := Nat.le_antisymm h1 d1
        exact j_vreturn (pc := 40) C Q dX0_fillGapsFrom_40 (Nat.le_of_ble_eq_true rfl) (Nat.le_of_ble_eq_true rfl) (⟨rfl, hC.cong (fun c hc => by rw [e]; simp only [hc, true_and]), hF⟩)
      · refine j_aload_n (pc := 8) C dX0_fillGapsFrom_8 rfl 2 rfl ?_
        refine j_iload_n (pc := 9) C dX0_fillGapsFrom_9 rfl 0 rfl ?_
        refine j_callV (pc := 10) C [.int (nI k)] [] (rm0 := ({ frames := 2, cells := 0, slots := 0, locals := 43 } : Room)) (k' := 0) (n' := 0) Q.1 (MJ.at (hF.at ha1) (c_X0_has (xl X) (xw X) h9 d1)) mp_X0_has wm_870 (hF.at ha1) rfl rfl (Nat.le_of_ble_eq_true rfl) rfl rfl (Nat.le_of_ble_eq_true rfl) dX0_fillGapsFrom_10 ⟨by decide, by decide⟩ ⟨Nat.le_of_ble_eq_true rfl, Nat.le_of_ble_eq_true rfl⟩ rfl rfl (det1 ?_)
        refine jb_if_eq (pc := 13) C 34 (b := (f' k).isSome) dX0_fillGapsFrom_13 (by decide) (fun d2 => ?_) (fun d2 => ?_)
        · refine j_iinc (pc := 34) C (nI (k + 1)) [(2, .int (nI (k + 1))), (0, .ref a0), (1, .ref a1)] dX0_fillGapsFrom_34 0 rfl (nI_add k 1) (by decide) rfl ?_
          refine j_goto (pc := 37) C 2 dX0_fillGapsFrom_37 (by decide) ?_
          exact J.to [0, 1, 2] rfl (ih (k + 1) _ (by omega) (by omega) hF (hC.cong (fun c hc => by
            by_cases e : c = k
            · subst e
              have e2 : f' c = none := by cases e3 : f' c with
                | none => rfl
                | some l => rw [e3] at d2; exact absurd d2 (by simp)
              rw [if_neg (by omega), e2]
              cases e4 : f c <;> simp
            · have : (c < k) ↔ (c < k + 1) := by omega
              simp only [this])))
        · refine j_aload_n (pc := 16) C dX0_fillGapsFrom_16 rfl 1 rfl ?_
          refine j_iload_n (pc := 17) C dX0_fillGapsFrom_17 rfl 0 rfl ?_
          refine j_callV (pc := 18) C [.int (nI k)] [] (rm0 := ({ frames := 2, cells := 0, slots := 0, locals := 43 } : Room)) (k' := 0) (n' := 0) Q.1 (MJ.at (hF.at ha0) (c_X0_has (xl X) (xw X) hC d1)) mp_X0_has wm_870 (hF.at ha0) rfl rfl (Nat.le_of_ble_eq_true rfl) rfl rfl (Nat.le_of_ble_eq_true rfl) dX0_fillGapsFrom_18 ⟨by decide, by decide⟩ ⟨Nat.le_of_ble_eq_true rfl, Nat.le_of_ble_eq_true rfl⟩ rfl rfl (det1 ?_)
          refine j_topi (bI ((f k).isSome)) (congrArg (fun z => bI (Option.isSome z)) (if_neg (fun z => absurd z.1 (Nat.lt_irrefl k)))) ?_
          refine jb_if_ne (pc := 21) C 34 (b := (f k).isSome) dX0_fillGapsFrom_21 (by decide) (fun d3 => ?_) (fun d3 => ?_)
          · refine j_iinc (pc := 34) C (nI (k + 1)) [(2, .int (nI (k + 1))), (0, .ref a0), (1, .ref a1)] dX0_fillGapsFrom_34 0 rfl (nI_add k 1) (by decide) rfl ?_
            refine j_goto (pc := 37) C 2 dX0_fillGapsFrom_37 (by decide) ?_
            exact J.to [0, 1, 2] rfl (ih (k + 1) _ (by omega) (by omega) hF (hC.cong (fun c hc => by
              by_cases e : c = k
              · subst e
                have e2 : (f c).isNone = false := by cases e3 : f c with
                  | none => rw [e3] at d3; exact absurd d3 (by simp)
                  | some l => rfl
                rw [if_neg (by omega), if_neg (by rw [e2]; simp)]
              · have : (c < k) ↔ (c < k + 1) := by omega
                simp only [this])))
          · obtain ⟨l, hl⟩ : ∃ l, f' k = some l := Option.isSome_iff_exists.mp d2
            refine j_aload_n (pc := 24) C dX0_fillGapsFrom_24 rfl 1 rfl ?_
            refine j_iload_n (pc := 25) C dX0_fillGapsFrom_25 rfl 0 rfl ?_
            refine j_aload_n (pc := 26) C dX0_fillGapsFrom_26 rfl 2 rfl ?_
            refine j_iload_n (pc := 27) C dX0_fillGapsFrom_27 rfl 0 rfl ?_
            refine j_callV (pc := 28) C [.int (nI k)] [.int (nI k), .ref a0] (rm0 := ({ frames := 2, cells := 0, slots := 0, locals := 43 } : Room)) (k' := 0) (n' := 0) Q.1 (MJ.at (hF.at ha1) (c_X0_in (xl X) (xw X) h9 d1)) mp_X0_in wm_865 (hF.at ha1) rfl rfl (Nat.le_of_ble_eq_true rfl) rfl rfl (Nat.le_of_ble_eq_true rfl) dX0_fillGapsFrom_28 ⟨by decide, by decide⟩ ⟨Nat.le_of_ble_eq_true rfl, Nat.le_of_ble_eq_true rfl⟩ rfl rfl (det1 ?_)
            refine j_topl (enc5 l) (by rw [hl]; rfl) ?_
            refine j_callV (pc := 31) C [.int (nI k), .long (enc5 l)] [] (rm0 := ({ frames := 2, cells := 0, slots := 0, locals := 43 } : Room)) (k' := 0) (n' := 0) Q.1 (c_X0_give (xl X) (xw X) hC (hF.at ha0) d1 l) mp_X0_give wm_871 (hF.at ha0) rfl rfl (Nat.le_of_ble_eq_true rfl) rfl rfl (Nat.le_of_ble_eq_true rfl) dX0_fillGapsFrom_31 ⟨by decide, by decide⟩ ⟨Nat.le_of_ble_eq_true rfl, Nat.le_of_ble_eq_true rfl⟩ rfl rfl (fun v9 σ8 hp9 => ?_)
            obtain ⟨rfl, hC8, hF8⟩ := hp9
            show J X 0 0 σ8 [(2, .int (nI k)), (0, .ref a0), (1, .ref a1)] [] 34
            refine j_iinc (pc := 34) C (nI (k + 1)) [(2, .int (nI (k + 1))), (0, .ref a0), (1, .ref a1)] dX0_fillGapsFrom_34 0 rfl (nI_add k 1) (by decide) rfl ?_
            refine j_goto (pc := 37) C 2 dX0_fillGapsFrom_37 (by decide) ?_
            exact J.to [0, 1, 2] rfl (ih (k + 1) _ (by omega) (by omega) (hF.tr hF8) (hC8.cong (fun c hc => by
              by_cases e : c = k
              · subst e
                have e2 : (f c).isNone = true := by cases e3 : f c with
                  | none => rfl
                  | some l => rw [e3] at d3; exact absurd d3 (by simp)
                rw [if_pos rfl, if_pos ⟨by omega, e2⟩, hl]
              · rw [if_neg e]
                have : (c < k) ↔ (c < k + 1) := by omega
                simp only [this])))
  exact J.to [0, 1, 2] rfl (loop 9 0 σ (Nat.zero_le _) (by omega) Fr.rf (h.cong (fun c hc => (if_neg (fun z => absurd z.1 (Nat.not_lt_zero c))).symm)))
set_option maxHeartbeats 4000000 in
set_option maxRecDepth 100000 in
theorem c_X0_moveTo (L9 : Launch) (w9 : Wd) {σ : HS} {r r' a0 a1 : Nat} {f f' : Nat → Option (List Nat)} (h : CR9 σ r f) (h' : CR9 σ r' f') (hne : r ≠ r') (ha0 : At σ (1, r) a0) (ha1 : At σ (1, r') a1) {M : Nat} (hM : M < 256) : MJ L9 w9 yX0_moveTo cX0_moveTo 4 none ({ frames := 2, cells := 0, slots := 0, locals := 43 } : Room) [.ref a0, .ref a1, .int (nI M)] σ (fun a9 σ' => a9 = none ∧ CR9 σ' r (fun c => if M.testBit c = true then none else f c) ∧ CR9 σ' r' (fun c => if M.testBit c = true ∧ (f c).isSome = true then f c else f' c) ∧ Fr (fun t => tgC r t ∨ tgC r' t) σ σ') := by
  refine MJ.of (by decide +kernel) (Nat.le_of_ble_eq_true rfl) (fun X hX1 hX2 C Q hinit => ?_)
  subst hX1; subst hX2
  show J X 0 0 σ [(0, .ref a0), (1, .ref a1), (2, .int (nI M))] [] 0
  refine j_iconst (pc := 0) C (nI 0) dX0_moveTo_0 (by decide) ?_
  refine j_istore_n (pc := 1) C [(3, .int (nI 0)), (0, .ref a0), (1, .ref a1), (2, .int (nI M))] dX0_moveTo_1 rfl (by decide) rfl ?_
  have loop : ∀ (f9 : Nat) (k : Nat) (σ9 : HS), (k ≤ 8) → (8 < k + f9) → (Fr (fun t => tgC r t ∨ tgC r' t) σ σ9) → (CR9 σ9 r (fun c => if c < k ∧ M.testBit c = true then none else f c)) → (CR9 σ9 r' (fun c => if c < k ∧ M.testBit c = true ∧ (f c).isSome = true then f c else f' c)) → J X 0 0 σ9 [(3, .int (nI k)), (0, .ref a0), (1, .ref a1), (2, .int (nI M))] [] 2 := by
    intro f9
    induction f9 with
    | zero => intro k σ9 h1 h2 hF hC hD; exact absurd h2 (by omega)
    | succ f9 ih =>
      intro k σ9 h1 h2 hF hC hD
      refine j_iload_n (pc := 2) C dX0_moveTo_2 rfl 0 rfl ?_
      refine j_bipush (pc := 3) C (nI 8) dX0_moveTo_3 (by decide) ?_
      refine jn_icmp_ge (pc := 5) C 45 (a := k) (b := 8) (by omega) (by omega) dX0_moveTo_5 (by decide) (fun d1 => ?_) (fun d1 => ?_)
      · have e : k = 8 := Nat.le_antisymm h1 d1
        exact j_vreturn (pc := 45) C Q dX0_moveTo_45 (Nat.le_of_ble_eq_true rfl) (Nat.le_of_ble_eq_true rfl) (⟨rfl, hC.cong (fun c hc => by rw [e]; simp only [hc, true_and]), hD.cong (fun c hc => by rw [e]; simp only [hc, true_and]), hF⟩)
      · refine j_aload_n (pc := 8) C dX0_moveTo_8 rfl 1 rfl ?_
        refine j_iload_n (pc := 9) C dX0_moveTo_9 rfl 0 rfl ?_
        refine j_callV (pc := 10) C [.int (nI k)] [] (rm0 := ({ frames := 2, cells := 0, slots := 0, locals := 43 } : Room)) (k' := 0) (n' := 0) Q.1 (MJ.at (hF.at ha0) (c_X0_has (xl X) (xw X) hC d1)) mp_X0_has wm_870 (hF.at ha0) rfl rfl (Nat.le_of_ble_eq_true rfl) rfl rfl (Nat.le_of_ble_eq_true rfl) dX0_moveTo_10 ⟨by decide, by decide⟩ ⟨Nat.le_of_ble_eq_true rfl, Nat.le_of_ble_eq_true rfl⟩ rfl rfl (det1 ?_)
        refine j_topi (bI ((f k).isSome)) (congrArg (fun z => bI (Option.isSome z)) (if_neg (fun z => absurd z.1 (Nat.lt_irrefl k)))) ?_
        refine jb_if_eq (pc := 13) C 39 (b := (f k).isSome) dX0_moveTo_13 (by decide) (fun d2 => ?_) (fun d2 => ?_)
        · have e2 : f k = none := by cases e3 : f k with
            | none => rfl
            | some l => rw [e3] at d2; exact absurd d2 (by simp)
          refine j_iinc (pc := 39) C (nI (k + 1)) [(3, .int (nI (k + 1))), (0, .ref a0), (1, .ref a1), (2, .int (nI M))] dX0_moveTo_39 0 rfl (nI_add k 1) (by decide) rfl ?_
          refine j_goto (pc := 42) C 2 dX0_moveTo_42 (by decide) ?_
          exact J.to [0, 1, 2, 3] rfl (ih (k + 1) _ (by omega) (by omega) hF (hC.cong (fun c hc => by
            by_cases e : c = k
            · subst e
              rw [if_neg (by omega), e2]
              simp
            · have : (c < k) ↔ (c < k + 1) := by omega
              simp only [this])) (hD.cong (fun c hc => by
            by_cases e : c = k
            · subst e
              rw [if_neg (by omega), if_neg (by rw [e2]; simp)]
            · have : (c < k) ↔ (c < k + 1) := by omega
              simp only [this])))
        · refine j_iload_n (pc := 16) C dX0_moveTo_16 rfl 3 rfl ?_
          refine j_iload_n (pc := 17) C dX0_moveTo_17 rfl 0 rfl ?_
          refine j_iushr (pc := 18) C dX0_moveTo_18 ?_
          refine j_iconst (pc := 19) C (nI 1) dX0_moveTo_19 (by decide) ?_
          refine j_iand (pc := 20) C dX0_moveTo_20 ?_
          refine j_topi (nI ((M.testBit k).toNat)) (ubit M hM k d1) ?_
          refine jn_if_eq (pc := 21) C 39 (a := (M.testBit k).toNat) (by first | exact bool_lt _ | omega) dX0_moveTo_21 (by decide) (fun d3 => ?_) (fun d3 => ?_)
          · have e2 : M.testBit k = false := bool0.mp d3
            refine j_iinc (pc := 39) C (nI (k + 1)) [(3, .int (nI (k + 1))), (0, .ref a0), (1, .ref a1), (2, .int (nI M))] dX0_moveTo_39 0 rfl (nI_add k 1) (by decide) rfl ?_
            refine j_goto (pc := 42) C 2 dX0_moveTo_42 (by decide) ?_
            exact J.to [0, 1, 2, 3] rfl (ih (k + 1) _ (by omega) (by omega) hF (hC.cong (fun c hc => by
              by_cases e : c = k
              · subst e
                rw [if_neg (by omega), if_neg (by rw [e2]; simp)]
              · have : (c < k) ↔ (c < k + 1) := by omega
                simp only [this])) (hD.cong (fun c hc => by
              by_cases e : c = k
              · subst e
                rw [if_neg (by omega), if_neg (by rw [e2]; simp)]
              · have : (c < k) ↔ (c < k + 1) := by omega
                simp only [this])))
          · have e2 : M.testBit k = true := by cases e3 : M.testBit k with
              | false => rw [e3] at d3; exact absurd rfl d3
              | true => rfl
            obtain ⟨l, hl⟩ : ∃ l, f k = some l := Option.isSome_iff_exists.mp d2
            refine j_aload_n (pc := 24) C dX0_moveTo_24 rfl 2 rfl ?_
            refine j_iload_n (pc := 25) C dX0_moveTo_25 rfl 0 rfl ?_
            refine j_aload_n (pc := 26) C dX0_moveTo_26 rfl 1 rfl ?_
            refine j_iload_n (pc := 27) C dX0_moveTo_27 rfl 0 rfl ?_
            refine j_callV (pc := 28) C [.int (nI k)] [.int (nI k), .ref a1] (rm0 := ({ frames := 2, cells := 0, slots := 0, locals := 43 } : Room)) (k' := 0) (n' := 0) Q.1 (MJ.at (hF.at ha0) (c_X0_in (xl X) (xw X) hC d1)) mp_X0_in wm_865 (hF.at ha0) rfl rfl (Nat.le_of_ble_eq_true rfl) rfl rfl (Nat.le_of_ble_eq_true rfl) dX0_moveTo_28 ⟨by decide, by decide⟩ ⟨Nat.le_of_ble_eq_true rfl, Nat.le_of_ble_eq_true rfl⟩ rfl rfl (det1 ?_)
            refine j_topl (enc5 l) (congrArg (fun z => enc5 (Option.getD z [])) ((if_neg (fun z => absurd z.1 (Nat.lt_irrefl k))).trans hl)) ?_
            refine j_callV (pc := 31) C [.int (nI k), .long (enc5 l)] [] (rm0 := ({ frames := 2, cells := 0, slots := 0, locals := 43 } : Room)) (k' := 0) (n' := 0) Q.1 (c_X0_give (xl X) (xw X) hD (hF.at ha1) d1 l) mp_X0_give wm_871 (hF.at ha1) rfl rfl (Nat.le_of_ble_eq_true rfl) rfl rfl (Nat.le_of_ble_eq_true rfl) dX0_moveTo_31 ⟨by decide, by decide⟩ ⟨Nat.le_of_ble_eq_true rfl, Nat.le_of_ble_eq_true rfl⟩ rfl rfl (fun v9 σ8 hp9 => ?_)
            obtain ⟨rfl, hD8, hF8⟩ := hp9
            show J X 0 0 σ8 [(3, .int (nI k)), (0, .ref a0), (1, .ref a1), (2, .int (nI M))] [] 34
            have hF2 : Fr (fun t => tgC r t ∨ tgC r' t) σ σ8 := hF.tr (hF8.wide (fun t z => Or.inr z))
            have hC8 := hC.fr hF8 (fun t z => by simp only [tgC] at z ⊢ <;> omega)
            refine j_aload_n (pc := 34) C dX0_moveTo_34 rfl 1 rfl ?_
            refine j_iload_n (pc := 35) C dX0_moveTo_35 rfl 0 rfl ?_
            refine j_callV (pc := 36) C [.int (nI k)] [] (rm0 := ({ frames := 2, cells := 0, slots := 0, locals := 43 } : Room)) (k' := 0) (n' := 0) Q.1 (c_X0_drop (xl X) (xw X) hC8 (hF2.at ha0) d1) mp_X0_drop wm_893 (hF2.at ha0) rfl rfl (Nat.le_of_ble_eq_true rfl) rfl rfl (Nat.le_of_ble_eq_true rfl) dX0_moveTo_36 ⟨by decide, by decide⟩ ⟨Nat.le_of_ble_eq_true rfl, Nat.le_of_ble_eq_true rfl⟩ rfl rfl (fun v9 σ7 hp9 => ?_)
            obtain ⟨rfl, hC7, hF7⟩ := hp9
            show J X 0 0 σ7 [(3, .int (nI k)), (0, .ref a0), (1, .ref a1), (2, .int (nI M))] [] 39
            have hF3 : Fr (fun t => tgC r t ∨ tgC r' t) σ σ7 := hF2.tr (hF7.wide (fun t z => Or.inl z))
            have hD7 := hD8.fr hF7 (fun t z => by simp only [tgC] at z ⊢ <;> omega)
            refine j_iinc (pc := 39) C (nI (k + 1)) [(3, .int (nI (k + 1))), (0, .ref a0), (1, .ref a1), (2, .int (nI M))] dX0_moveTo_39 0 rfl (nI_add k 1) (by decide) rfl ?_
            refine j_goto (pc := 42) C 2 dX0_moveTo_42 (by decide) ?_
            exact J.to [0, 1, 2, 3] rfl (ih (k + 1) _ (by omega) (by omega) hF3 (hC7.cong (fun c hc => by
              by_cases e : c = k
              · subst e
                rw [if_pos rfl, if_pos ⟨by omega, e2⟩]
              · rw [if_neg e]
                have : (c < k) ↔ (c < k + 1) := by omega
                simp only [this])) (hD7.cong (fun c hc => by
              by_cases e : c = k
              · subst e
                rw [if_pos rfl, if_pos ⟨by omega, e2, d2⟩, hl]
              · rw [if_neg e]
                have : (c < k) ↔ (c < k + 1) := by omega
                simp only [this])))
  exact J.to [0, 1, 2, 3] rfl (loop 9 0 σ (Nat.zero_le _) (by omega) Fr.rf (h.cong (fun c hc => (if_neg (fun z => absurd z.1 (Nat.not_lt_zero c))).symm)) (h'.cong (fun c hc => (if_neg (fun z => absurd z.1 (Nat.not_lt_zero c))).symm)))
