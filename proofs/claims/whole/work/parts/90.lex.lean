set_option maxHeartbeats 4000000 in
set_option maxRecDepth 100000 in
theorem c_X4_lexemeCount (L9 : Launch) (w9 : Wd) {σ : HS} {S : SP} (hw : WF S) (hp : LX9 S σ) {a0 : Nat} (ha0 : At σ (5, 0) a0) : MJ L9 w9 yX4_lexemeCount cX4_lexemeCount 1 (some .int) ({ frames := 1, cells := 0, slots := 0, locals := 20 } : Room) [.ref a0] σ (fun a9 σ' => a9 = some (.int (nI (nL S))) ∧ σ' = σ) := by
  refine MJ.of (by decide +kernel) (Nat.le_of_ble_eq_true rfl) (fun X hX1 hX2 C Q hinit => ?_)
  subst hX1; subst hX2
  show J X 0 0 σ [(0, .ref a0)] [] 0
  obtain ⟨hf, hl, hx, hv, hch⟩ := hp
  obtain ⟨y0, y1, y2, y3⟩ := id hf
  have gL := hw.2.2.1.1
  have gW := hw.2.2.2.1.1
  have gD := hw.2.2.2.2.1
  refine j_aload_n (pc := 0) C dX4_lexemeCount_0 rfl 0 rfl ?_
  refine j_getA (pc := 1) C fp_X4_12 ha0 rfl (f := 320) rfl (0, 3) (hG σ (0, 3)) y1 (⟨hl.1.self, rfl⟩ : At _ (0, 3) _) dX4_lexemeCount_1 ?_
  refine j_callV (pc := 4) C [] [] (rm0 := ({ frames := 1, cells := 0, slots := 0, locals := 20 } : Room)) (k' := 0) (n' := 0) Q.1 (k_size (xl X) (xw X) hl.1 (⟨hl.1.self, rfl⟩ : At _ (0, 3) _)) mp_Jx4a65c_size_8abf5 wm_247 (⟨hl.1.self, rfl⟩ : At _ (0, 3) _) rfl rfl (by decide) rfl rfl (Nat.le_of_ble_eq_true rfl) dX4_lexemeCount_4 ⟨by decide, by decide⟩ ⟨Nat.le_of_ble_eq_true rfl, Nat.le_of_ble_eq_true rfl⟩ rfl rfl (det1 ?_)
  exact j_ireturn (pc := 7) C Q dX4_lexemeCount_7 (Nat.le_of_ble_eq_true rfl) (Nat.le_of_ble_eq_true rfl) (⟨rfl, rfl⟩)
set_option maxHeartbeats 4000000 in
set_option maxRecDepth 100000 in
theorem c_X4_wordCount (L9 : Launch) (w9 : Wd) {σ : HS} {S : SP} (hw : WF S) (hp : LX9 S σ) {a0 : Nat} (ha0 : At σ (5, 0) a0) : MJ L9 w9 yX4_wordCount cX4_wordCount 1 (some .int) ({ frames := 1, cells := 0, slots := 0, locals := 20 } : Room) [.ref a0] σ (fun a9 σ' => a9 = some (.int (nI (nW S))) ∧ σ' = σ) := by
  refine MJ.of (by decide +kernel) (Nat.le_of_ble_eq_true rfl) (fun X hX1 hX2 C Q hinit => ?_)
  subst hX1; subst hX2
  show J X 0 0 σ [(0, .ref a0)] [] 0
  obtain ⟨hf, hl, hx, hv, hch⟩ := hp
  obtain ⟨y0, y1, y2, y3⟩ := id hf
  have gL := hw.2.2.1.1
  have gW := hw.2.2.2.1.1
  have gD := hw.2.2.2.2.1
  refine j_aload_n (pc := 0) C dX4_wordCount_0 rfl 0 rfl ?_
  refine j_getA (pc := 1) C fp_X4_18 ha0 rfl (f := 321) rfl (0, 4) (hG σ (0, 4)) y2 (⟨hv.1.self, rfl⟩ : At _ (0, 4) _) dX4_wordCount_1 ?_
  refine j_callV (pc := 4) C [] [] (rm0 := ({ frames := 1, cells := 0, slots := 0, locals := 20 } : Room)) (k' := 0) (n' := 0) Q.1 (k_size (xl X) (xw X) hv.1 (⟨hv.1.self, rfl⟩ : At _ (0, 4) _)) mp_Jx4a65c_size_8abf5 wm_247 (⟨hv.1.self, rfl⟩ : At _ (0, 4) _) rfl rfl (by decide) rfl rfl (Nat.le_of_ble_eq_true rfl) dX4_wordCount_4 ⟨by decide, by decide⟩ ⟨Nat.le_of_ble_eq_true rfl, Nat.le_of_ble_eq_true rfl⟩ rfl rfl (det1 ?_)
  exact j_ireturn (pc := 7) C Q dX4_wordCount_7 (Nat.le_of_ble_eq_true rfl) (Nat.le_of_ble_eq_true rfl) (⟨rfl, rfl⟩)
set_option maxHeartbeats 4000000 in
set_option maxRecDepth 100000 in
theorem c_X4_changesLeft (L9 : Launch) (w9 : Wd) {σ : HS} {S : SP} (hw : WF S) (hp : LX9 S σ) {a0 : Nat} (ha0 : At σ (5, 0) a0) : MJ L9 w9 yX4_changesLeft cX4_changesLeft 1 (some .int) ({ frames := 1, cells := 0, slots := 0, locals := 20 } : Room) [.ref a0] σ (fun a9 σ' => a9 = some (.int (nI (nD S))) ∧ σ' = σ) := by
  refine MJ.of (by decide +kernel) (Nat.le_of_ble_eq_true rfl) (fun X hX1 hX2 C Q hinit => ?_)
  subst hX1; subst hX2
  show J X 0 0 σ [(0, .ref a0)] [] 0
  obtain ⟨hf, hl, hx, hv, hch⟩ := hp
  obtain ⟨y0, y1, y2, y3⟩ := id hf
  have gL := hw.2.2.1.1
  have gW := hw.2.2.2.1.1
  have gD := hw.2.2.2.2.1
  obtain ⟨g, N, hc1, -⟩ := hch
  refine j_aload_n (pc := 0) C dX4_changesLeft_0 rfl 0 rfl ?_
  refine j_getA (pc := 1) C fp_X4_21 ha0 rfl (f := 322) rfl (0, 5) (hG σ (0, 5)) y3 (⟨hc1.self, rfl⟩ : At _ (0, 5) _) dX4_changesLeft_1 ?_
  refine j_callV (pc := 4) C [] [] (rm0 := ({ frames := 1, cells := 0, slots := 0, locals := 20 } : Room)) (k' := 0) (n' := 0) Q.1 (k_size (xl X) (xw X) hc1 (⟨hc1.self, rfl⟩ : At _ (0, 5) _)) mp_Jx4a65c_size_8abf5 wm_247 (⟨hc1.self, rfl⟩ : At _ (0, 5) _) rfl rfl (by decide) rfl rfl (Nat.le_of_ble_eq_true rfl) dX4_changesLeft_4 ⟨by decide, by decide⟩ ⟨Nat.le_of_ble_eq_true rfl, Nat.le_of_ble_eq_true rfl⟩ rfl rfl (det1 ?_)
  exact j_ireturn (pc := 7) C Q dX4_changesLeft_7 (Nat.le_of_ble_eq_true rfl) (Nat.le_of_ble_eq_true rfl) (⟨rfl, rfl⟩)
set_option maxHeartbeats 4000000 in
set_option maxRecDepth 100000 in
theorem c_X4_lexemeNumbered_t (L9 : Launch) (w9 : Wd) {σ : HS} {S : SP} (hw : WF S) (hp : LX9 S σ) {a0 : Nat} (ha0 : At σ (5, 0) a0) {n : Nat} (n1 : n < nL S) (n2 : th S n = 1) : MJ L9 w9 yX4_lexemeNumbered cX4_lexemeNumbered 3 (some (.object "Fieldgrammar$Lexeme")) ({ frames := 3, cells := 0, slots := 0, locals := 64 } : Room) [.ref a0, .int (nI n)] σ (fun a9 σ' => a9 = some (.ref (hG σ (4, n))) ∧ σ' = σ) := by
  refine MJ.of (by decide +kernel) (Nat.le_of_ble_eq_true rfl) (fun X hX1 hX2 C Q hinit => ?_)
  subst hX1; subst hX2
  show J X 0 0 σ [(0, .ref a0), (1, .int (nI n))] [] 0
  obtain ⟨hf, hl, hx, hv, hch⟩ := hp
  obtain ⟨y0, y1, y2, y3⟩ := id hf
  have gL := hw.2.2.1.1
  have gW := hw.2.2.2.1.1
  have gD := hw.2.2.2.2.1
  refine j_iload_n (pc := 0) C dX4_lexemeNumbered_0 rfl 1 rfl ?_
  refine jn_if_lt (pc := 1) C 15 (a := n) (by omega) dX4_lexemeNumbered_1 (by decide) (fun c0 => (c0 : False).elim) (fun c0 => ?_)
  refine j_iload_n (pc := 4) C dX4_lexemeNumbered_4 rfl 1 rfl ?_
  refine j_aload_n (pc := 5) C dX4_lexemeNumbered_5 rfl 0 rfl ?_
  refine j_getA (pc := 6) C fp_X4_12 ha0 rfl (f := 320) rfl (0, 3) (hG σ (0, 3)) y1 (⟨hl.1.self, rfl⟩ : At _ (0, 3) _) dX4_lexemeNumbered_6 ?_
  refine j_callV (pc := 9) C [] [.int (nI n)] (rm0 := ({ frames := 3, cells := 0, slots := 0, locals := 64 } : Room)) (k' := 0) (n' := 0) Q.1 (k_size (xl X) (xw X) hl.1 (⟨hl.1.self, rfl⟩ : At _ (0, 3) _)) mp_Jx4a65c_size_8abf5 wm_247 (⟨hl.1.self, rfl⟩ : At _ (0, 3) _) rfl rfl (by decide) rfl rfl (Nat.le_of_ble_eq_true rfl) dX4_lexemeNumbered_9 ⟨by decide, by decide⟩ ⟨Nat.le_of_ble_eq_true rfl, Nat.le_of_ble_eq_true rfl⟩ rfl rfl (det1 ?_)
  refine jn_icmp_lt (pc := 12) C 17 (a := n) (b := nL S) (by omega) (by omega) dX4_lexemeNumbered_12 (by decide) (fun c0 => ?_) (fun c0 => (absurd c0 (by omega) : False).elim)
  refine j_aload_n (pc := 17) C dX4_lexemeNumbered_17 rfl 0 rfl ?_
  refine j_getA (pc := 18) C fp_X4_12 ha0 rfl (f := 320) rfl (0, 3) (hG σ (0, 3)) y1 (⟨hl.1.self, rfl⟩ : At _ (0, 3) _) dX4_lexemeNumbered_18 ?_
  refine j_iload_n (pc := 21) C dX4_lexemeNumbered_21 rfl 1 rfl ?_
  refine j_callV (pc := 22) C [.int (nI n)] [] (rm0 := ({ frames := 3, cells := 0, slots := 0, locals := 64 } : Room)) (k' := 0) (n' := 0) Q.1 (k_get (xl X) (xw X) hl.1 n1 (⟨hl.1.self, rfl⟩ : At _ (0, 3) _)) mp_Jx4a65c_get_915e3 wm_252 (⟨hl.1.self, rfl⟩ : At _ (0, 3) _) rfl rfl (by decide) rfl rfl (Nat.le_of_ble_eq_true rfl) dX4_lexemeNumbered_22 ⟨by decide, by decide⟩ ⟨Nat.le_of_ble_eq_true rfl, Nat.le_of_ble_eq_true rfl⟩ rfl rfl (det1 ?_)
  refine j_cast (pc := 25) C cp_X4_32 (⟨hl.1.live n1, rfl⟩ : At _ (4, n) _) dX4_lexemeNumbered_25 ?_
  refine j_astore_n (pc := 28) C [(2, .ref (hG σ (4, n))), (0, .ref a0), (1, .int (nI n))] dX4_lexemeNumbered_28 rfl (by decide) rfl ?_
  refine j_aload_n (pc := 29) C dX4_lexemeNumbered_29 rfl 0 rfl ?_
  refine j_getI (pc := 30) C fp_X4_34 (⟨hl.1.live n1, rfl⟩ : At _ (4, n) _) rfl (f := 258) rfl dX4_lexemeNumbered_30 ?_
  refine j_topi (bI false) (((hl.2.1 n n1).2.2.1).trans (bI_dn n2)) ?_
  refine j_if_eq (pc := 33) C 40 dX4_lexemeNumbered_33 (by decide) (fun _ => ?_) (fun q => absurd q (by decide))
  refine j_aload_n (pc := 40) C dX4_lexemeNumbered_40 rfl 0 rfl ?_
  exact j_areturn (pc := 41) C Q (Or.inl ⟨_, rfl⟩) (Or.inr ⟨_, rfl⟩) dX4_lexemeNumbered_41 (Nat.le_of_ble_eq_true rfl) (Nat.le_of_ble_eq_true rfl) (⟨rfl, rfl⟩)
set_option maxHeartbeats 4000000 in
set_option maxRecDepth 100000 in
theorem c_X4_lexemeNumbered_f (L9 : Launch) (w9 : Wd) {σ : HS} {S : SP} (hw : WF S) (hp : LX9 S σ) {a0 : Nat} (ha0 : At σ (5, 0) a0) {x : Int32} (h9 : isLex S x = false) : MJ L9 w9 yX4_lexemeNumbered cX4_lexemeNumbered 3 (some (.object "Fieldgrammar$Lexeme")) ({ frames := 3, cells := 0, slots := 0, locals := 64 } : Room) [.ref a0, .int x] σ (fun a9 σ' => a9 = some (.null) ∧ σ' = σ) := by
  refine MJ.of (by decide +kernel) (Nat.le_of_ble_eq_true rfl) (fun X hX1 hX2 C Q hinit => ?_)
  subst hX1; subst hX2
  show J X 0 0 σ [(0, .ref a0), (1, .int x)] [] 0
  obtain ⟨hf, hl, hx, hv, hch⟩ := hp
  obtain ⟨y0, y1, y2, y3⟩ := id hf
  have gL := hw.2.2.1.1
  have gW := hw.2.2.2.1.1
  have gD := hw.2.2.2.2.1
  refine j_iload_n (pc := 0) C dX4_lexemeNumbered_0 rfl 1 rfl ?_
  refine j_if_lt (pc := 1) C 15 dX4_lexemeNumbered_1 (by decide) (fun c1 => ?_) (fun c1 => ?_)
  · refine j_null (pc := 15) C dX4_lexemeNumbered_15 ?_
    exact j_areturn (pc := 16) C Q (Or.inl ⟨_, rfl⟩) (Or.inl rfl) dX4_lexemeNumbered_16 (Nat.le_of_ble_eq_true rfl) (Nat.le_of_ble_eq_true rfl) (⟨rfl, rfl⟩)
  · have c3 : 0 ≤ x.toInt := Decidable.byContradiction (fun z => c1 (lt0_iff.mpr z))
    obtain ⟨n1, n2⟩ := nn_t c3
    generalize xN x = n at n1 n2
    subst n2
    rw [isLex_nI n1] at h9
    show J X 0 0 σ [(0, .ref a0), (1, .int (nI n))] [] 4
    refine j_iload_n (pc := 4) C dX4_lexemeNumbered_4 rfl 1 rfl ?_
    refine j_aload_n (pc := 5) C dX4_lexemeNumbered_5 rfl 0 rfl ?_
    refine j_getA (pc := 6) C fp_X4_12 ha0 rfl (f := 320) rfl (0, 3) (hG σ (0, 3)) y1 (⟨hl.1.self, rfl⟩ : At _ (0, 3) _) dX4_lexemeNumbered_6 ?_
    refine j_callV (pc := 9) C [] [.int (nI n)] (rm0 := ({ frames := 3, cells := 0, slots := 0, locals := 64 } : Room)) (k' := 0) (n' := 0) Q.1 (k_size (xl X) (xw X) hl.1 (⟨hl.1.self, rfl⟩ : At _ (0, 3) _)) mp_Jx4a65c_size_8abf5 wm_247 (⟨hl.1.self, rfl⟩ : At _ (0, 3) _) rfl rfl (by decide) rfl rfl (Nat.le_of_ble_eq_true rfl) dX4_lexemeNumbered_9 ⟨by decide, by decide⟩ ⟨Nat.le_of_ble_eq_true rfl, Nat.le_of_ble_eq_true rfl⟩ rfl rfl (det1 ?_)
    refine jn_icmp_lt (pc := 12) C 17 (a := n) (b := nL S) (by omega) (by omega) dX4_lexemeNumbered_12 (by decide) (fun c2 => ?_) (fun c2 => ?_)
    · rw [decide_eq_true c2, Bool.true_and] at h9
      have n3 := of_decide_eq_false h9
      refine j_aload_n (pc := 17) C dX4_lexemeNumbered_17 rfl 0 rfl ?_
      refine j_getA (pc := 18) C fp_X4_12 ha0 rfl (f := 320) rfl (0, 3) (hG σ (0, 3)) y1 (⟨hl.1.self, rfl⟩ : At _ (0, 3) _) dX4_lexemeNumbered_18 ?_
      refine j_iload_n (pc := 21) C dX4_lexemeNumbered_21 rfl 1 rfl ?_
      refine j_callV (pc := 22) C [.int (nI n)] [] (rm0 := ({ frames := 3, cells := 0, slots := 0, locals := 64 } : Room)) (k' := 0) (n' := 0) Q.1 (k_get (xl X) (xw X) hl.1 c2 (⟨hl.1.self, rfl⟩ : At _ (0, 3) _)) mp_Jx4a65c_get_915e3 wm_252 (⟨hl.1.self, rfl⟩ : At _ (0, 3) _) rfl rfl (by decide) rfl rfl (Nat.le_of_ble_eq_true rfl) dX4_lexemeNumbered_22 ⟨by decide, by decide⟩ ⟨Nat.le_of_ble_eq_true rfl, Nat.le_of_ble_eq_true rfl⟩ rfl rfl (det1 ?_)
      refine j_cast (pc := 25) C cp_X4_32 (⟨hl.1.live c2, rfl⟩ : At _ (4, n) _) dX4_lexemeNumbered_25 ?_
      refine j_astore_n (pc := 28) C [(2, .ref (hG σ (4, n))), (0, .ref a0), (1, .int (nI n))] dX4_lexemeNumbered_28 rfl (by decide) rfl ?_
      refine j_aload_n (pc := 29) C dX4_lexemeNumbered_29 rfl 0 rfl ?_
      refine j_getI (pc := 30) C fp_X4_34 (⟨hl.1.live c2, rfl⟩ : At _ (4, n) _) rfl (f := 258) rfl dX4_lexemeNumbered_30 ?_
      refine j_topi (bI true) (((hl.2.1 n c2).2.2.1).trans (by rw [decide_eq_true (show th S n ≠ 1 from n3)])) ?_
      refine j_if_eq (pc := 33) C 40 dX4_lexemeNumbered_33 (by decide) (fun q => absurd q (by decide)) (fun _ => ?_)
      refine j_null (pc := 36) C dX4_lexemeNumbered_36 ?_
      refine j_goto (pc := 37) C 41 dX4_lexemeNumbered_37 (by decide) ?_
      exact j_areturn (pc := 41) C Q (Or.inl ⟨_, rfl⟩) (Or.inl rfl) dX4_lexemeNumbered_41 (Nat.le_of_ble_eq_true rfl) (Nat.le_of_ble_eq_true rfl) (⟨rfl, rfl⟩)
    · refine j_null (pc := 15) C dX4_lexemeNumbered_15 ?_
      exact j_areturn (pc := 16) C Q (Or.inl ⟨_, rfl⟩) (Or.inl rfl) dX4_lexemeNumbered_16 (Nat.le_of_ble_eq_true rfl) (Nat.le_of_ble_eq_true rfl) (⟨rfl, rfl⟩)
set_option maxHeartbeats 4000000 in
set_option maxRecDepth 100000 in
theorem c_X4_wordNumbered_t (L9 : Launch) (w9 : Wd) {σ : HS} {S : SP} {o : Nat → Nat} (gW : nW S ≤ 40) (hf : LXf σ) (hv : LXo S o σ) {a0 : Nat} (ha0 : At σ (5, 0) a0) {n : Nat} (n1 : n < nW S) (n2 : hd9 S n = 1) : MJ L9 w9 yX4_wordNumbered cX4_wordNumbered 3 (some (.object "Fieldgrammar$Word")) ({ frames := 3, cells := 0, slots := 0, locals := 64 } : Room) [.ref a0, .int (nI n)] σ (fun a9 σ' => a9 = some (.ref (hG σ (8, n))) ∧ σ' = σ) := by
  refine MJ.of (by decide +kernel) (Nat.le_of_ble_eq_true rfl) (fun X hX1 hX2 C Q hinit => ?_)
  subst hX1; subst hX2
  show J X 0 0 σ [(0, .ref a0), (1, .int (nI n))] [] 0
  obtain ⟨y0, y1, y2, y3⟩ := id hf
  refine j_iload_n (pc := 0) C dX4_wordNumbered_0 rfl 1 rfl ?_
  refine jn_if_lt (pc := 1) C 15 (a := n) (by omega) dX4_wordNumbered_1 (by decide) (fun c0 => (c0 : False).elim) (fun c0 => ?_)
  refine j_iload_n (pc := 4) C dX4_wordNumbered_4 rfl 1 rfl ?_
  refine j_aload_n (pc := 5) C dX4_wordNumbered_5 rfl 0 rfl ?_
  refine j_getA (pc := 6) C fp_X4_18 ha0 rfl (f := 321) rfl (0, 4) (hG σ (0, 4)) y2 (⟨hv.1.self, rfl⟩ : At _ (0, 4) _) dX4_wordNumbered_6 ?_
  refine j_callV (pc := 9) C [] [.int (nI n)] (rm0 := ({ frames := 3, cells := 0, slots := 0, locals := 64 } : Room)) (k' := 0) (n' := 0) Q.1 (k_size (xl X) (xw X) hv.1 (⟨hv.1.self, rfl⟩ : At _ (0, 4) _)) mp_Jx4a65c_size_8abf5 wm_247 (⟨hv.1.self, rfl⟩ : At _ (0, 4) _) rfl rfl (by decide) rfl rfl (Nat.le_of_ble_eq_true rfl) dX4_wordNumbered_9 ⟨by decide, by decide⟩ ⟨Nat.le_of_ble_eq_true rfl, Nat.le_of_ble_eq_true rfl⟩ rfl rfl (det1 ?_)
  refine jn_icmp_lt (pc := 12) C 17 (a := n) (b := nW S) (by omega) (by omega) dX4_wordNumbered_12 (by decide) (fun c0 => ?_) (fun c0 => (absurd c0 (by omega) : False).elim)
  refine j_aload_n (pc := 17) C dX4_wordNumbered_17 rfl 0 rfl ?_
  refine j_getA (pc := 18) C fp_X4_18 ha0 rfl (f := 321) rfl (0, 4) (hG σ (0, 4)) y2 (⟨hv.1.self, rfl⟩ : At _ (0, 4) _) dX4_wordNumbered_18 ?_
  refine j_iload_n (pc := 21) C dX4_wordNumbered_21 rfl 1 rfl ?_
  refine j_callV (pc := 22) C [.int (nI n)] [] (rm0 := ({ frames := 3, cells := 0, slots := 0, locals := 64 } : Room)) (k' := 0) (n' := 0) Q.1 (k_get (xl X) (xw X) hv.1 n1 (⟨hv.1.self, rfl⟩ : At _ (0, 4) _)) mp_Jx4a65c_get_915e3 wm_252 (⟨hv.1.self, rfl⟩ : At _ (0, 4) _) rfl rfl (by decide) rfl rfl (Nat.le_of_ble_eq_true rfl) dX4_wordNumbered_22 ⟨by decide, by decide⟩ ⟨Nat.le_of_ble_eq_true rfl, Nat.le_of_ble_eq_true rfl⟩ rfl rfl (det1 ?_)
  refine j_cast (pc := 25) C cp_X4_38 (⟨hv.1.live n1, rfl⟩ : At _ (8, n) _) dX4_wordNumbered_25 ?_
  refine j_astore_n (pc := 28) C [(2, .ref (hG σ (8, n))), (0, .ref a0), (1, .int (nI n))] dX4_wordNumbered_28 rfl (by decide) rfl ?_
  refine j_aload_n (pc := 29) C dX4_wordNumbered_29 rfl 0 rfl ?_
  refine j_getI (pc := 30) C fp_X4_40 (⟨hv.1.live n1, rfl⟩ : At _ (8, n) _) rfl (f := 516) rfl dX4_wordNumbered_30 ?_
  refine j_topi (bI false) (((hv.2.1 n n1).2.2.2.2).trans (bI_dn n2)) ?_
  refine j_if_eq (pc := 33) C 40 dX4_wordNumbered_33 (by decide) (fun _ => ?_) (fun q => absurd q (by decide))
  refine j_aload_n (pc := 40) C dX4_wordNumbered_40 rfl 0 rfl ?_
  exact j_areturn (pc := 41) C Q (Or.inl ⟨_, rfl⟩) (Or.inr ⟨_, rfl⟩) dX4_wordNumbered_41 (Nat.le_of_ble_eq_true rfl) (Nat.le_of_ble_eq_true rfl) (⟨rfl, rfl⟩)
set_option maxHeartbeats 4000000 in
set_option maxRecDepth 100000 in
theorem c_X4_wordNumbered_f (L9 : Launch) (w9 : Wd) {σ : HS} {S : SP} {o : Nat → Nat} (gW : nW S ≤ 40) (hf : LXf σ) (hv : LXo S o σ) {a0 : Nat} (ha0 : At σ (5, 0) a0) {x : Int32} (h9 : isWrd S x = false) : MJ L9 w9 yX4_wordNumbered cX4_wordNumbered 3 (some (.object "Fieldgrammar$Word")) ({ frames := 3, cells := 0, slots := 0, locals := 64 } : Room) [.ref a0, .int x] σ (fun a9 σ' => a9 = some (.null) ∧ σ' = σ) := by
  refine MJ.of (by decide +kernel) (Nat.le_of_ble_eq_true rfl) (fun X hX1 hX2 C Q hinit => ?_)
  subst hX1; subst hX2
  show J X 0 0 σ [(0, .ref a0), (1, .int x)] [] 0
  obtain ⟨y0, y1, y2, y3⟩ := id hf
  refine j_iload_n (pc := 0) C dX4_wordNumbered_0 rfl 1 rfl ?_
  refine j_if_lt (pc := 1) C 15 dX4_wordNumbered_1 (by decide) (fun c1 => ?_) (fun c1 => ?_)
  · refine j_null (pc := 15) C dX4_wordNumbered_15 ?_
    exact j_areturn (pc := 16) C Q (Or.inl ⟨_, rfl⟩) (Or.inl rfl) dX4_wordNumbered_16 (Nat.le_of_ble_eq_true rfl) (Nat.le_of_ble_eq_true rfl) (⟨rfl, rfl⟩)
  · have c3 : 0 ≤ x.toInt := Decidable.byContradiction (fun z => c1 (lt0_iff.mpr z))
    obtain ⟨n1, n2⟩ := nn_t c3
    generalize xN x = n at n1 n2
    subst n2
    rw [isWrd_nI n1] at h9
    show J X 0 0 σ [(0, .ref a0), (1, .int (nI n))] [] 4
    refine j_iload_n (pc := 4) C dX4_wordNumbered_4 rfl 1 rfl ?_
    refine j_aload_n (pc := 5) C dX4_wordNumbered_5 rfl 0 rfl ?_
    refine j_getA (pc := 6) C fp_X4_18 ha0 rfl (f := 321) rfl (0, 4) (hG σ (0, 4)) y2 (⟨hv.1.self, rfl⟩ : At _ (0, 4) _) dX4_wordNumbered_6 ?_
    refine j_callV (pc := 9) C [] [.int (nI n)] (rm0 := ({ frames := 3, cells := 0, slots := 0, locals := 64 } : Room)) (k' := 0) (n' := 0) Q.1 (k_size (xl X) (xw X) hv.1 (⟨hv.1.self, rfl⟩ : At _ (0, 4) _)) mp_Jx4a65c_size_8abf5 wm_247 (⟨hv.1.self, rfl⟩ : At _ (0, 4) _) rfl rfl (by decide) rfl rfl (Nat.le_of_ble_eq_true rfl) dX4_wordNumbered_9 ⟨by decide, by decide⟩ ⟨Nat.le_of_ble_eq_true rfl, Nat.le_of_ble_eq_true rfl⟩ rfl rfl (det1 ?_)
    refine jn_icmp_lt (pc := 12) C 17 (a := n) (b := nW S) (by omega) (by omega) dX4_wordNumbered_12 (by decide) (fun c2 => ?_) (fun c2 => ?_)
    · rw [decide_eq_true c2, Bool.true_and] at h9
      have n3 := of_decide_eq_false h9
      refine j_aload_n (pc := 17) C dX4_wordNumbered_17 rfl 0 rfl ?_
      refine j_getA (pc := 18) C fp_X4_18 ha0 rfl (f := 321) rfl (0, 4) (hG σ (0, 4)) y2 (⟨hv.1.self, rfl⟩ : At _ (0, 4) _) dX4_wordNumbered_18 ?_
      refine j_iload_n (pc := 21) C dX4_wordNumbered_21 rfl 1 rfl ?_
      refine j_callV (pc := 22) C [.int (nI n)] [] (rm0 := ({ frames := 3, cells := 0, slots := 0, locals := 64 } : Room)) (k' := 0) (n' := 0) Q.1 (k_get (xl X) (xw X) hv.1 c2 (⟨hv.1.self, rfl⟩ : At _ (0, 4) _)) mp_Jx4a65c_get_915e3 wm_252 (⟨hv.1.self, rfl⟩ : At _ (0, 4) _) rfl rfl (by decide) rfl rfl (Nat.le_of_ble_eq_true rfl) dX4_wordNumbered_22 ⟨by decide, by decide⟩ ⟨Nat.le_of_ble_eq_true rfl, Nat.le_of_ble_eq_true rfl⟩ rfl rfl (det1 ?_)
      refine j_cast (pc := 25) C cp_X4_38 (⟨hv.1.live c2, rfl⟩ : At _ (8, n) _) dX4_wordNumbered_25 ?_
      refine j_astore_n (pc := 28) C [(2, .ref (hG σ (8, n))), (0, .ref a0), (1, .int (nI n))] dX4_wordNumbered_28 rfl (by decide) rfl ?_
      refine j_aload_n (pc := 29) C dX4_wordNumbered_29 rfl 0 rfl ?_
      refine j_getI (pc := 30) C fp_X4_40 (⟨hv.1.live c2, rfl⟩ : At _ (8, n) _) rfl (f := 516) rfl dX4_wordNumbered_30 ?_
      refine j_topi (bI true) (((hv.2.1 n c2).2.2.2.2).trans (by rw [decide_eq_true (show hd9 S n ≠ 1 from n3)])) ?_
      refine j_if_eq (pc := 33) C 40 dX4_wordNumbered_33 (by decide) (fun q => absurd q (by decide)) (fun _ => ?_)
      refine j_null (pc := 36) C dX4_wordNumbered_36 ?_
      refine j_goto (pc := 37) C 41 dX4_wordNumbered_37 (by decide) ?_
      exact j_areturn (pc := 41) C Q (Or.inl ⟨_, rfl⟩) (Or.inl rfl) dX4_wordNumbered_41 (Nat.le_of_ble_eq_true rfl) (Nat.le_of_ble_eq_true rfl) (⟨rfl, rfl⟩)
    · refine j_null (pc := 15) C dX4_wordNumbered_15 ?_
      exact j_areturn (pc := 16) C Q (Or.inl ⟨_, rfl⟩) (Or.inl rfl) dX4_wordNumbered_16 (Nat.le_of_ble_eq_true rfl) (Nat.le_of_ble_eq_true rfl) (⟨rfl, rfl⟩)
set_option maxHeartbeats 4000000 in
set_option maxRecDepth 100000 in
theorem c_X4_wordsLeft (L9 : Launch) (w9 : Wd) {σ : HS} {S : SP} (hw : WF S) (hp : LX9 S σ) {a0 : Nat} (ha0 : At σ (5, 0) a0) : MJ L9 w9 yX4_wordsLeft cX4_wordsLeft 3 (some .int) ({ frames := 3, cells := 0, slots := 0, locals := 64 } : Room) [.ref a0] σ (fun a9 σ' => a9 = some (.int (nI (heards S (nW S)))) ∧ σ' = σ) := by
  refine MJ.of (by decide +kernel) (Nat.le_of_ble_eq_true rfl) (fun X hX1 hX2 C Q hinit => ?_)
  subst hX1; subst hX2
  show J X 0 0 σ [(0, .ref a0)] [] 0
  obtain ⟨hf, hl, hx, hv, hch⟩ := hp
  obtain ⟨y0, y1, y2, y3⟩ := id hf
  have gL := hw.2.2.1.1
  have gW := hw.2.2.2.1.1
  have gD := hw.2.2.2.2.1
  refine j_iconst (pc := 0) C (nI 0) dX4_wordsLeft_0 (by decide) ?_
  refine j_istore_n (pc := 1) C [(1, .int (nI 0)), (0, .ref a0)] dX4_wordsLeft_1 rfl (by decide) rfl ?_
  refine j_iconst (pc := 2) C (nI 0) dX4_wordsLeft_2 (by decide) ?_
  refine j_istore_n (pc := 3) C [(2, .int (nI 0)), (1, .int (nI 0)), (0, .ref a0)] dX4_wordsLeft_3 rfl (by decide) rfl ?_
  have loop : ∀ (f : Nat) (k : Nat), (k ≤ nW S) → (nW S < k + f) → J X 0 0 σ [(2, .int (nI k)), (1, .int (nI (heards S k))), (0, .ref a0)] [] 4 := by
    intro f
    induction f with
    | zero => intro k h1 h2; exact absurd h2 (by omega)
    | succ f ih =>
      intro k h1 h2
      have hle := fb_ct_le (fun w => decide (hd9 S w = 1)) k
      refine j_iload_n (pc := 4) C dX4_wordsLeft_4 rfl 0 rfl ?_
      refine j_aload_n (pc := 5) C dX4_wordsLeft_5 rfl 2 rfl ?_
      refine j_getA (pc := 6) C fp_X4_18 ha0 rfl (f := 321) rfl (0, 4) (hG σ (0, 4)) y2 (⟨hv.1.self, rfl⟩ : At _ (0, 4) _) dX4_wordsLeft_6 ?_
      refine j_callV (pc := 9) C [] [.int (nI k)] (rm0 := ({ frames := 3, cells := 0, slots := 0, locals := 64 } : Room)) (k' := 0) (n' := 0) Q.1 (k_size (xl X) (xw X) hv.1 (⟨hv.1.self, rfl⟩ : At _ (0, 4) _)) mp_Jx4a65c_size_8abf5 wm_247 (⟨hv.1.self, rfl⟩ : At _ (0, 4) _) rfl rfl (by decide) rfl rfl (Nat.le_of_ble_eq_true rfl) dX4_wordsLeft_9 ⟨by decide, by decide⟩ ⟨Nat.le_of_ble_eq_true rfl, Nat.le_of_ble_eq_true rfl⟩ rfl rfl (det1 ?_)
      refine jn_icmp_ge (pc := 12) C 41 (a := k) (b := nW S) (by omega) (by omega) dX4_wordsLeft_12 (by decide) (fun c1 => ?_) (fun c1 => ?_)
      · have e9 : k = nW S := Nat.le_antisymm h1 c1
        refine j_iload_n (pc := 41) C dX4_wordsLeft_41 rfl 1 rfl ?_
        refine j_topi (nI (heards S (nW S))) (by rw [e9]) ?_
        exact j_ireturn (pc := 42) C Q dX4_wordsLeft_42 (Nat.le_of_ble_eq_true rfl) (Nat.le_of_ble_eq_true rfl) (⟨rfl, rfl⟩)
      · refine j_aload_n (pc := 15) C dX4_wordsLeft_15 rfl 2 rfl ?_
        refine j_getA (pc := 16) C fp_X4_18 ha0 rfl (f := 321) rfl (0, 4) (hG σ (0, 4)) y2 (⟨hv.1.self, rfl⟩ : At _ (0, 4) _) dX4_wordsLeft_16 ?_
        refine j_iload_n (pc := 19) C dX4_wordsLeft_19 rfl 0 rfl ?_
        refine j_callV (pc := 20) C [.int (nI k)] [] (rm0 := ({ frames := 3, cells := 0, slots := 0, locals := 64 } : Room)) (k' := 0) (n' := 0) Q.1 (k_get (xl X) (xw X) hv.1 c1 (⟨hv.1.self, rfl⟩ : At _ (0, 4) _)) mp_Jx4a65c_get_915e3 wm_252 (⟨hv.1.self, rfl⟩ : At _ (0, 4) _) rfl rfl (by decide) rfl rfl (Nat.le_of_ble_eq_true rfl) dX4_wordsLeft_20 ⟨by decide, by decide⟩ ⟨Nat.le_of_ble_eq_true rfl, Nat.le_of_ble_eq_true rfl⟩ rfl rfl (det1 ?_)
        refine j_cast (pc := 23) C cp_X4_38 (⟨hv.1.live c1, rfl⟩ : At _ (8, k) _) dX4_wordsLeft_23 ?_
        refine j_getI (pc := 26) C fp_X4_40 (⟨hv.1.live c1, rfl⟩ : At _ (8, k) _) rfl (f := 516) rfl dX4_wordsLeft_26 ?_
        refine j_topi (bI (decide (hd9 S k ≠ 1))) ((hv.2.1 k c1).2.2.2.2) ?_
        refine jb_if_ne (pc := 29) C 35 (b := decide (hd9 S k ≠ 1)) dX4_wordsLeft_29 (by decide) (fun c2 => ?_) (fun c2 => ?_)
        · refine j_iinc (pc := 35) C (nI (k + 1)) [(2, .int (nI (k + 1))), (1, .int (nI (heards S k))), (0, .ref a0)] dX4_wordsLeft_35 0 rfl (nI_add k 1) (by decide) rfl ?_
          refine j_goto (pc := 38) C 4 dX4_wordsLeft_38 (by decide) ?_
          have l0 := ih (k + 1) (by omega) (by omega)
          rw [show heards S (k + 1) = heards S k from by unfold heards; rw [fb_ct_succ, decide_eq_false (of_decide_eq_true c2)]; rfl] at l0
          exact J.to [0, 1, 2] rfl l0
        · have c3 : hd9 S k = 1 := Decidable.byContradiction (fun z => by rw [decide_eq_true (show hd9 S k ≠ 1 from z)] at c2; cases c2)
          refine j_iinc (pc := 32) C (nI (heards S k + 1)) [(1, .int (nI (heards S k + 1))), (2, .int (nI k)), (0, .ref a0)] dX4_wordsLeft_32 1 rfl (nI_add (heards S k) 1) (by decide) rfl ?_
          refine j_iinc (pc := 35) C (nI (k + 1)) [(2, .int (nI (k + 1))), (1, .int (nI (heards S k + 1))), (0, .ref a0)] dX4_wordsLeft_35 1 rfl (nI_add k 1) (by decide) rfl ?_
          refine j_goto (pc := 38) C 4 dX4_wordsLeft_38 (by decide) ?_
          have l0 := ih (k + 1) (by omega) (by omega)
          rw [show heards S (k + 1) = heards S k + 1 from by unfold heards; rw [fb_ct_succ, decide_eq_true c3]; rfl] at l0
          exact J.to [0, 1, 2] rfl l0
  exact J.to [0, 1, 2] rfl (loop (nW S + 1) 0 (Nat.zero_le _) (by omega))
set_option maxHeartbeats 4000000 in
set_option maxRecDepth 100000 in
theorem c_X4_cellsHeard (L9 : Launch) (w9 : Wd) {σ : HS} {S : SP} (hw : WF S) (hp : LX9 S σ) {a0 : Nat} (ha0 : At σ (5, 0) a0) {l b : Nat} (hb : At σ (4, l) b) : MJ L9 w9 yX4_cellsHeard cX4_cellsHeard 5 (some .int) ({ frames := 4, cells := 0, slots := 0, locals := 86 } : Room) [.ref a0, .ref b] σ (fun a9 σ' => a9 = some (.int (nI (heardIn S l (nW S)))) ∧ σ' = σ) := by
  refine MJ.of (by decide +kernel) (Nat.le_of_ble_eq_true rfl) (fun X hX1 hX2 C Q hinit => ?_)
  subst hX1; subst hX2
  show J X 0 0 σ [(0, .ref a0), (1, .ref b)] [] 0
  obtain ⟨hf, hl, hx, hv, hch⟩ := hp
  obtain ⟨y0, y1, y2, y3⟩ := id hf
  have gL := hw.2.2.1.1
  have gW := hw.2.2.2.1.1
  have gD := hw.2.2.2.2.1
  refine j_iconst (pc := 0) C (nI 0) dX4_cellsHeard_0 (by decide) ?_
  refine j_istore_n (pc := 1) C [(2, .int (nI 0)), (0, .ref a0), (1, .ref b)] dX4_cellsHeard_1 rfl (by decide) rfl ?_
  refine j_iconst (pc := 2) C (nI 0) dX4_cellsHeard_2 (by decide) ?_
  refine j_istore_n (pc := 3) C [(3, .int (nI 0)), (2, .int (nI 0)), (0, .ref a0), (1, .ref b)] dX4_cellsHeard_3 rfl (by decide) rfl ?_
  have loop : ∀ (f : Nat) (k : Nat), (k ≤ nW S) → (nW S < k + f) → J X 0 0 σ [(3, .int (nI k)), (2, .int (nI (heardIn S l k))), (0, .ref a0), (1, .ref b)] [] 4 := by
    intro f
    induction f with
    | zero => intro k h1 h2; exact absurd h2 (by omega)
    | succ f ih =>
      intro k h1 h2
      have hle := heardIn_lt hw l k h1
      refine j_iload_n (pc := 4) C dX4_cellsHeard_4 rfl 0 rfl ?_
      refine j_aload_n (pc := 5) C dX4_cellsHeard_5 rfl 2 rfl ?_
      refine j_getA (pc := 6) C fp_X4_18 ha0 rfl (f := 321) rfl (0, 4) (hG σ (0, 4)) y2 (⟨hv.1.self, rfl⟩ : At _ (0, 4) _) dX4_cellsHeard_6 ?_
      refine j_callV (pc := 9) C [] [.int (nI k)] (rm0 := ({ frames := 4, cells := 0, slots := 0, locals := 86 } : Room)) (k' := 0) (n' := 0) Q.1 (k_size (xl X) (xw X) hv.1 (⟨hv.1.self, rfl⟩ : At _ (0, 4) _)) mp_Jx4a65c_size_8abf5 wm_247 (⟨hv.1.self, rfl⟩ : At _ (0, 4) _) rfl rfl (by decide) rfl rfl (Nat.le_of_ble_eq_true rfl) dX4_cellsHeard_9 ⟨by decide, by decide⟩ ⟨Nat.le_of_ble_eq_true rfl, Nat.le_of_ble_eq_true rfl⟩ rfl rfl (det1 ?_)
      refine jn_icmp_ge (pc := 12) C 52 (a := k) (b := nW S) (by omega) (by omega) dX4_cellsHeard_12 (by decide) (fun c1 => ?_) (fun c1 => ?_)
      · have e9 : k = nW S := Nat.le_antisymm h1 c1
        refine j_iload_n (pc := 52) C dX4_cellsHeard_52 rfl 1 rfl ?_
        refine j_topi (nI (heardIn S l (nW S))) (by rw [e9]) ?_
        exact j_ireturn (pc := 53) C Q dX4_cellsHeard_53 (Nat.le_of_ble_eq_true rfl) (Nat.le_of_ble_eq_true rfl) (⟨rfl, rfl⟩)
      · refine j_aload_n (pc := 15) C dX4_cellsHeard_15 rfl 2 rfl ?_
        refine j_iload_n (pc := 16) C dX4_cellsHeard_16 rfl 0 rfl ?_
        by_cases c2 : hd9 S k = 1
        · refine j_callV (pc := 17) C [.int (nI k)] [] (rm0 := ({ frames := 4, cells := 0, slots := 0, locals := 86 } : Room)) (k' := 0) (n' := 0) Q.1 (c_X4_wordNumbered_t (xl X) (xw X) (o := ol S) gW hf hv ha0 c1 c2) mp_X4_wordNumbered wm_358 ha0 rfl rfl (by decide) rfl rfl (Nat.le_of_ble_eq_true rfl) dX4_cellsHeard_17 ⟨by decide, by decide⟩ ⟨Nat.le_of_ble_eq_true rfl, Nat.le_of_ble_eq_true rfl⟩ rfl rfl (det1 ?_)
          refine j_astore (pc := 20) C [(4, .ref (hG σ (8, k))), (3, .int (nI k)), (2, .int (nI (heardIn S l k))), (0, .ref a0), (1, .ref b)] dX4_cellsHeard_20 (by decide) rfl ?_
          refine j_aload (pc := 22) C dX4_cellsHeard_22 0 rfl ?_
          refine j_ifnull (pc := 24) C dX4_cellsHeard_24 ?_
          refine j_aload (pc := 27) C dX4_cellsHeard_27 0 rfl ?_
          refine j_getA (pc := 29) C fp_X4_57 (⟨hv.1.live c1, rfl⟩ : At _ (8, k) _) rfl (f := 512) rfl (4, ol S k) (hG σ (4, ol S k)) ((hv.2.1 k c1).1) (⟨hl.1.live (hw.2.2.2.1.2.2 k c1).1, rfl⟩ : At _ (4, ol S k) _) dX4_cellsHeard_29 ?_
          refine j_aload_n (pc := 32) C dX4_cellsHeard_32 rfl 4 rfl ?_
          refine jt_acmp_ne (pc := 33) C 46 (⟨hl.1.live (hw.2.2.2.1.2.2 k c1).1, rfl⟩ : At _ (4, ol S k) _) hb dX4_cellsHeard_33 (by decide) (fun c3 => ?_) (fun c3 => ?_)
          · refine j_iinc (pc := 46) C (nI (k + 1)) [(3, .int (nI (k + 1))), (4, .ref (hG σ (8, k))), (2, .int (nI (heardIn S l k))), (0, .ref a0), (1, .ref b)] dX4_cellsHeard_46 1 rfl (nI_add k 1) (by decide) rfl ?_
            refine j_goto (pc := 49) C 4 dX4_cellsHeard_49 (by decide) ?_
            have l0 := ih (k + 1) (by omega) (by omega)
            rw [show heardIn S l (k + 1) = heardIn S l k from if_neg (fun z => c3 (by rw [z.2]))] at l0
            exact J.to [0, 2, 3, 4] rfl l0
          · have c4 : ol S k = l := congrArg Prod.snd c3
            have q2 := (hw.2.2.2.1.2.2 k c1).2.1
            refine j_iload_n (pc := 36) C dX4_cellsHeard_36 rfl 2 rfl ?_
            refine j_iconst (pc := 37) C (nI 1) dX4_cellsHeard_37 (by decide) ?_
            refine j_aload (pc := 38) C dX4_cellsHeard_38 0 rfl ?_
            refine j_getI (pc := 40) C fp_X4_61 (⟨hv.1.live c1, rfl⟩ : At _ (8, k) _) rfl (f := 513) rfl dX4_cellsHeard_40 ?_
            refine j_topi (nI (cw S k)) ((hv.2.1 k c1).2.1) ?_
            refine j_ishl (pc := 43) C dX4_cellsHeard_43 ?_
            refine j_topi (nI (2 ^ cw S k)) (shl1 (by omega)) ?_
            refine j_ior (pc := 44) C dX4_cellsHeard_44 ?_
            refine j_topi (nI ((heardIn S l k) ||| (2 ^ cw S k))) (nx_or (heardIn S l k) (2 ^ cw S k)) ?_
            refine j_istore_n (pc := 45) C [(2, .int (nI ((heardIn S l k) ||| (2 ^ cw S k)))), (4, .ref (hG σ (8, k))), (3, .int (nI k)), (0, .ref a0), (1, .ref b)] dX4_cellsHeard_45 rfl (by decide) rfl ?_
            refine j_iinc (pc := 46) C (nI (k + 1)) [(3, .int (nI (k + 1))), (2, .int (nI ((heardIn S l k) ||| (2 ^ cw S k)))), (4, .ref (hG σ (8, k))), (0, .ref a0), (1, .ref b)] dX4_cellsHeard_46 2 rfl (nI_add k 1) (by decide) rfl ?_
            refine j_goto (pc := 49) C 4 dX4_cellsHeard_49 (by decide) ?_
            have l0 := ih (k + 1) (by omega) (by omega)
            rw [show heardIn S l (k + 1) = heardIn S l k ||| 2 ^ cw S k from if_pos ⟨c2, c4⟩] at l0
            exact J.to [0, 1, 3, 4] rfl l0
        · refine j_callV (pc := 17) C [.int (nI k)] [] (rm0 := ({ frames := 4, cells := 0, slots := 0, locals := 86 } : Room)) (k' := 0) (n' := 0) Q.1 (c_X4_wordNumbered_f (xl X) (xw X) (o := ol S) gW hf hv ha0 (x := nI k) (by rw [isWrd_nI (by omega), decide_eq_false c2, Bool.and_false])) mp_X4_wordNumbered wm_358 ha0 rfl rfl (by decide) rfl rfl (Nat.le_of_ble_eq_true rfl) dX4_cellsHeard_17 ⟨by decide, by decide⟩ ⟨Nat.le_of_ble_eq_true rfl, Nat.le_of_ble_eq_true rfl⟩ rfl rfl (det1 ?_)
          refine j_astoreN (pc := 20) C [(4, .null), (3, .int (nI k)), (2, .int (nI (heardIn S l k))), (0, .ref a0), (1, .ref b)] dX4_cellsHeard_20 (by decide) rfl ?_
          refine j_aloadN (pc := 22) C dX4_cellsHeard_22 0 rfl ?_
          refine j_ifnullN (pc := 24) C 46 dX4_cellsHeard_24 (by decide) ?_
          refine j_iinc (pc := 46) C (nI (k + 1)) [(3, .int (nI (k + 1))), (4, .null), (2, .int (nI (heardIn S l k))), (0, .ref a0), (1, .ref b)] dX4_cellsHeard_46 1 rfl (nI_add k 1) (by decide) rfl ?_
          refine j_goto (pc := 49) C 4 dX4_cellsHeard_49 (by decide) ?_
          have l0 := ih (k + 1) (by omega) (by omega)
          rw [show heardIn S l (k + 1) = heardIn S l k from if_neg (fun z => c2 z.1)] at l0
          exact J.to [0, 2, 3, 4] rfl l0
  exact J.to [0, 1, 2, 3] rfl (loop (nW S + 1) 0 (Nat.zero_le _) (by omega))
set_option maxHeartbeats 4000000 in
set_option maxRecDepth 100000 in
theorem c_X4_wasHeardBy (L9 : Launch) (w9 : Wd) {σ : HS} {S : SP} (hw : WF S) (hp : LX9 S σ) {a0 : Nat} (ha0 : At σ (5, 0) a0) {v b p : Nat} (hb : At σ (8, v) b) (hv9 : v < nW S) (hp4 : p < 4) : MJ L9 w9 yX4_wasHeardBy cX4_wasHeardBy 5 (some .boolean) ({ frames := 4, cells := 0, slots := 0, locals := 86 } : Room) [.ref a0, .int (nI p), .ref b] σ (fun a9 σ' => a9 = some (.int (bI (anyB (hbP S p v) (nW S)))) ∧ σ' = σ) := by
  refine MJ.of (by decide +kernel) (Nat.le_of_ble_eq_true rfl) (fun X hX1 hX2 C Q hinit => ?_)
  subst hX1; subst hX2
  show J X 0 0 σ [(0, .ref a0), (1, .int (nI p)), (2, .ref b)] [] 0
  obtain ⟨hf, hl, hx, hv, hch⟩ := hp
  obtain ⟨y0, y1, y2, y3⟩ := id hf
  have gL := hw.2.2.1.1
  have gW := hw.2.2.2.1.1
  have gD := hw.2.2.2.2.1
  refine j_iconst (pc := 0) C (nI 0) dX4_wasHeardBy_0 (by decide) ?_
  refine j_istore_n (pc := 1) C [(3, .int (nI 0)), (0, .ref a0), (1, .int (nI p)), (2, .ref b)] dX4_wasHeardBy_1 rfl (by decide) rfl ?_
  have loop : ∀ (f : Nat) (k : Nat), (k ≤ nW S) → (nW S < k + f) → (anyB (hbP S p v) k = false) → J X 0 0 σ [(3, .int (nI k)), (0, .ref a0), (1, .int (nI p)), (2, .ref b)] [] 2 := by
    intro f
    induction f with
    | zero => intro k h1 h2 h3; exact absurd h2 (by omega)
    | succ f ih =>
      intro k h1 h2 h3
      refine j_iload_n (pc := 2) C dX4_wasHeardBy_2 rfl 0 rfl ?_
      refine j_aload_n (pc := 3) C dX4_wasHeardBy_3 rfl 1 rfl ?_
      refine j_getA (pc := 4) C fp_X4_18 ha0 rfl (f := 321) rfl (0, 4) (hG σ (0, 4)) y2 (⟨hv.1.self, rfl⟩ : At _ (0, 4) _) dX4_wasHeardBy_4 ?_
      refine j_callV (pc := 7) C [] [.int (nI k)] (rm0 := ({ frames := 4, cells := 0, slots := 0, locals := 86 } : Room)) (k' := 0) (n' := 0) Q.1 (k_size (xl X) (xw X) hv.1 (⟨hv.1.self, rfl⟩ : At _ (0, 4) _)) mp_Jx4a65c_size_8abf5 wm_247 (⟨hv.1.self, rfl⟩ : At _ (0, 4) _) rfl rfl (by decide) rfl rfl (Nat.le_of_ble_eq_true rfl) dX4_wasHeardBy_7 ⟨by decide, by decide⟩ ⟨Nat.le_of_ble_eq_true rfl, Nat.le_of_ble_eq_true rfl⟩ rfl rfl (det1 ?_)
      refine jn_icmp_ge (pc := 10) C 79 (a := k) (b := nW S) (by omega) (by omega) dX4_wasHeardBy_10 (by decide) (fun c1 => ?_) (fun c1 => ?_)
      · have e9 : k = nW S := Nat.le_antisymm h1 c1
        refine j_iconst (pc := 79) C (nI 0) dX4_wasHeardBy_79 (by decide) ?_
        refine j_topi (bI (anyB (hbP S p v) (nW S))) (by rw [← e9, h3]; rfl) ?_
        exact j_zreturn (pc := 80) C Q dX4_wasHeardBy_80 (bI_nar _) (Nat.le_of_ble_eq_true rfl) (Nat.le_of_ble_eq_true rfl) (⟨rfl, rfl⟩)
      · obtain ⟨q1, q2, q3, q4, -⟩ := hw.2.2.2.1.2.2 k c1
        obtain ⟨r1, r2, r3, r4, -⟩ := hw.2.2.2.1.2.2 v hv9
        have i1 := enc5_inj (okR_hr hw k) (okR_hr hw v)
        refine j_aload_n (pc := 13) C dX4_wasHeardBy_13 rfl 1 rfl ?_
        refine j_iload_n (pc := 14) C dX4_wasHeardBy_14 rfl 0 rfl ?_
        by_cases c2 : hd9 S k = 1
        · refine j_callV (pc := 15) C [.int (nI k)] [] (rm0 := ({ frames := 4, cells := 0, slots := 0, locals := 86 } : Room)) (k' := 0) (n' := 0) Q.1 (c_X4_wordNumbered_t (xl X) (xw X) (o := ol S) gW hf hv ha0 c1 c2) mp_X4_wordNumbered wm_358 ha0 rfl rfl (by decide) rfl rfl (Nat.le_of_ble_eq_true rfl) dX4_wasHeardBy_15 ⟨by decide, by decide⟩ ⟨Nat.le_of_ble_eq_true rfl, Nat.le_of_ble_eq_true rfl⟩ rfl rfl (det1 ?_)
          refine j_astore (pc := 18) C [(4, .ref (hG σ (8, k))), (3, .int (nI k)), (0, .ref a0), (1, .int (nI p)), (2, .ref b)] dX4_wasHeardBy_18 (by decide) rfl ?_
          refine j_aload (pc := 20) C dX4_wasHeardBy_20 0 rfl ?_
          refine j_ifnull (pc := 22) C dX4_wasHeardBy_22 ?_
          refine j_aload (pc := 25) C dX4_wasHeardBy_25 0 rfl ?_
          refine j_getI (pc := 27) C fp_X4_65 (⟨hv.1.live c1, rfl⟩ : At _ (8, k) _) rfl (f := 514) rfl dX4_wasHeardBy_27 ?_
          refine j_topi (nI (sw S k)) ((hv.2.1 k c1).2.2.1) ?_
          refine j_iload_n (pc := 30) C dX4_wasHeardBy_30 rfl 3 rfl ?_
          refine jn_icmp_ne (pc := 31) C 73 (a := sw S k) (b := p) (by omega) (by omega) dX4_wasHeardBy_31 (by decide) (fun c3 => ?_) (fun c3 => ?_)
          · refine j_iinc (pc := 73) C (nI (k + 1)) [(3, .int (nI (k + 1))), (4, .ref (hG σ (8, k))), (0, .ref a0), (1, .int (nI p)), (2, .ref b)] dX4_wasHeardBy_73 1 rfl (nI_add k 1) (by decide) rfl ?_
            refine j_goto (pc := 76) C 2 dX4_wasHeardBy_76 (by decide) ?_
            exact J.to [0, 2, 3, 4] rfl (ih (k + 1) (by omega) (by omega) (by rw [anyB_succ, h3, Bool.false_or]; exact decide_eq_false (fun z => c3 z.2.1)))
          · refine j_aload (pc := 34) C dX4_wasHeardBy_34 0 rfl ?_
            refine j_getA (pc := 36) C fp_X4_57 (⟨hv.1.live c1, rfl⟩ : At _ (8, k) _) rfl (f := 512) rfl (4, ol S k) (hG σ (4, ol S k)) ((hv.2.1 k c1).1) (⟨hl.1.live (hw.2.2.2.1.2.2 k c1).1, rfl⟩ : At _ (4, ol S k) _) dX4_wasHeardBy_36 ?_
            refine j_aload_n (pc := 39) C dX4_wasHeardBy_39 rfl 4 rfl ?_
            refine j_getA (pc := 40) C fp_X4_57 hb rfl (f := 512) rfl (4, ol S v) (hG σ (4, ol S v)) ((hv.2.1 v hv9).1) (⟨hl.1.live (hw.2.2.2.1.2.2 v hv9).1, rfl⟩ : At _ (4, ol S v) _) dX4_wasHeardBy_40 ?_
            refine jt_acmp_ne (pc := 43) C 73 (⟨hl.1.live (hw.2.2.2.1.2.2 k c1).1, rfl⟩ : At _ (4, ol S k) _) (⟨hl.1.live (hw.2.2.2.1.2.2 v hv9).1, rfl⟩ : At _ (4, ol S v) _) dX4_wasHeardBy_43 (by decide) (fun c4 => ?_) (fun c4 => ?_)
            · refine j_iinc (pc := 73) C (nI (k + 1)) [(3, .int (nI (k + 1))), (4, .ref (hG σ (8, k))), (0, .ref a0), (1, .int (nI p)), (2, .ref b)] dX4_wasHeardBy_73 1 rfl (nI_add k 1) (by decide) rfl ?_
              refine j_goto (pc := 76) C 2 dX4_wasHeardBy_76 (by decide) ?_
              exact J.to [0, 2, 3, 4] rfl (ih (k + 1) (by omega) (by omega) (by rw [anyB_succ, h3, Bool.false_or]; exact decide_eq_false (fun z => c4 (by rw [z.2.2.1]))))
            · refine j_aload (pc := 46) C dX4_wasHeardBy_46 0 rfl ?_
              refine j_getI (pc := 48) C fp_X4_61 (⟨hv.1.live c1, rfl⟩ : At _ (8, k) _) rfl (f := 513) rfl dX4_wasHeardBy_48 ?_
              refine j_topi (nI (cw S k)) ((hv.2.1 k c1).2.1) ?_
              refine j_aload_n (pc := 51) C dX4_wasHeardBy_51 rfl 4 rfl ?_
              refine j_getI (pc := 52) C fp_X4_61 hb rfl (f := 513) rfl dX4_wasHeardBy_52 ?_
              refine j_topi (nI (cw S v)) ((hv.2.1 v hv9).2.1) ?_
              refine jn_icmp_ne (pc := 55) C 73 (a := cw S k) (b := cw S v) (by omega) (by omega) dX4_wasHeardBy_55 (by decide) (fun c5 => ?_) (fun c5 => ?_)
              · refine j_iinc (pc := 73) C (nI (k + 1)) [(3, .int (nI (k + 1))), (4, .ref (hG σ (8, k))), (0, .ref a0), (1, .int (nI p)), (2, .ref b)] dX4_wasHeardBy_73 1 rfl (nI_add k 1) (by decide) rfl ?_
                refine j_goto (pc := 76) C 2 dX4_wasHeardBy_76 (by decide) ?_
                exact J.to [0, 2, 3, 4] rfl (ih (k + 1) (by omega) (by omega) (by rw [anyB_succ, h3, Bool.false_or]; exact decide_eq_false (fun z => c5 z.2.2.2.1)))
              · refine j_aload (pc := 58) C dX4_wasHeardBy_58 0 rfl ?_
                refine j_getL (pc := 60) C fp_X4_72 (⟨hv.1.live c1, rfl⟩ : At _ (8, k) _) rfl (f := 515) rfl dX4_wasHeardBy_60 ?_
                refine j_topl (enc5 (hr S k)) ((hv.2.1 k c1).2.2.2.1) ?_
                refine j_aload_n (pc := 63) C dX4_wasHeardBy_63 rfl 4 rfl ?_
                refine j_getL (pc := 64) C fp_X4_72 hb rfl (f := 515) rfl dX4_wasHeardBy_64 ?_
                refine j_topl (enc5 (hr S v)) ((hv.2.1 v hv9).2.2.2.1) ?_
                refine j_lcmp (pc := 67) C dX4_wasHeardBy_67 ?_
                refine jl_if_ne (pc := 68) C 73 dX4_wasHeardBy_68 (by decide) (fun c6 => ?_) (fun c6 => ?_)
                · refine j_iinc (pc := 73) C (nI (k + 1)) [(3, .int (nI (k + 1))), (4, .ref (hG σ (8, k))), (0, .ref a0), (1, .int (nI p)), (2, .ref b)] dX4_wasHeardBy_73 1 rfl (nI_add k 1) (by decide) rfl ?_
                  refine j_goto (pc := 76) C 2 dX4_wasHeardBy_76 (by decide) ?_
                  exact J.to [0, 2, 3, 4] rfl (ih (k + 1) (by omega) (by omega) (by rw [anyB_succ, h3, Bool.false_or]; exact decide_eq_false (fun z => c6 (i1.mpr z.2.2.2.2))))
                · refine j_iconst (pc := 71) C (nI 1) dX4_wasHeardBy_71 (by decide) ?_
                  refine j_topi (bI (anyB (hbP S p v) (nW S))) (by rw [anyB_t c1 (decide_eq_true ⟨c2, c3, congrArg Prod.snd c4, c5, i1.mp c6⟩)]; rfl) ?_
                  exact j_zreturn (pc := 72) C Q dX4_wasHeardBy_72 (bI_nar _) (Nat.le_of_ble_eq_true rfl) (Nat.le_of_ble_eq_true rfl) (⟨rfl, rfl⟩)
        · refine j_callV (pc := 15) C [.int (nI k)] [] (rm0 := ({ frames := 4, cells := 0, slots := 0, locals := 86 } : Room)) (k' := 0) (n' := 0) Q.1 (c_X4_wordNumbered_f (xl X) (xw X) (o := ol S) gW hf hv ha0 (x := nI k) (by rw [isWrd_nI (by omega), decide_eq_false c2, Bool.and_false])) mp_X4_wordNumbered wm_358 ha0 rfl rfl (by decide) rfl rfl (Nat.le_of_ble_eq_true rfl) dX4_wasHeardBy_15 ⟨by decide, by decide⟩ ⟨Nat.le_of_ble_eq_true rfl, Nat.le_of_ble_eq_true rfl⟩ rfl rfl (det1 ?_)
          refine j_astoreN (pc := 18) C [(4, .null), (3, .int (nI k)), (0, .ref a0), (1, .int (nI p)), (2, .ref b)] dX4_wasHeardBy_18 (by decide) rfl ?_
          refine j_aloadN (pc := 20) C dX4_wasHeardBy_20 0 rfl ?_
          refine j_ifnullN (pc := 22) C 73 dX4_wasHeardBy_22 (by decide) ?_
          refine j_iinc (pc := 73) C (nI (k + 1)) [(3, .int (nI (k + 1))), (4, .null), (0, .ref a0), (1, .int (nI p)), (2, .ref b)] dX4_wasHeardBy_73 1 rfl (nI_add k 1) (by decide) rfl ?_
          refine j_goto (pc := 76) C 2 dX4_wasHeardBy_76 (by decide) ?_
          exact J.to [0, 2, 3, 4] rfl (ih (k + 1) (by omega) (by omega) (by rw [anyB_succ, h3, Bool.false_or]; exact decide_eq_false (fun z => c2 z.1)))
  exact J.to [0, 1, 2, 3] rfl (loop (nW S + 1) 0 (Nat.zero_le _) (by omega) rfl)
set_option maxHeartbeats 4000000 in
set_option maxRecDepth 100000 in
theorem c_X4_cellsShared (L9 : Launch) (w9 : Wd) {σ : HS} {S : SP} (hw : WF S) (hp : LX9 S σ) {a0 : Nat} (ha0 : At σ (5, 0) a0) {l b p q : Nat} (hb : At σ (4, l) b) (hp4 : p < 4) (hq4 : q < 4) : MJ L9 w9 yX4_cellsShared cX4_cellsShared 7 (some .int) ({ frames := 5, cells := 0, slots := 0, locals := 110 } : Room) [.ref a0, .ref b, .int (nI p), .int (nI q)] σ (fun a9 σ' => a9 = some (.int (nI (shIn S l p q (nW S)))) ∧ σ' = σ) := by
  refine MJ.of (by decide +kernel) (Nat.le_of_ble_eq_true rfl) (fun X hX1 hX2 C Q hinit => ?_)
  subst hX1; subst hX2
  show J X 0 0 σ [(0, .ref a0), (1, .ref b), (2, .int (nI p)), (3, .int (nI q))] [] 0
  obtain ⟨hf, hl, hx, hv, hch⟩ := hp
  obtain ⟨y0, y1, y2, y3⟩ := id hf
  have gL := hw.2.2.1.1
  have gW := hw.2.2.2.1.1
  have gD := hw.2.2.2.2.1
  refine j_iconst (pc := 0) C (nI 0) dX4_cellsShared_0 (by decide) ?_
  refine j_istore (pc := 1) C [(4, .int (nI 0)), (0, .ref a0), (1, .ref b), (2, .int (nI p)), (3, .int (nI q))] dX4_cellsShared_1 (by decide) rfl ?_
  refine j_iconst (pc := 3) C (nI 0) dX4_cellsShared_3 (by decide) ?_
  refine j_istore (pc := 4) C [(5, .int (nI 0)), (4, .int (nI 0)), (0, .ref a0), (1, .ref b), (2, .int (nI p)), (3, .int (nI q))] dX4_cellsShared_4 (by decide) rfl ?_
  have loop : ∀ (f : Nat) (k : Nat), (k ≤ nW S) → (nW S < k + f) → J X 0 0 σ [(5, .int (nI k)), (4, .int (nI (shIn S l p q k))), (0, .ref a0), (1, .ref b), (2, .int (nI p)), (3, .int (nI q))] [] 6 := by
    intro f
    induction f with
    | zero => intro k h1 h2; exact absurd h2 (by omega)
    | succ f ih =>
      intro k h1 h2
      have hle := shIn_lt hw l p q k h1
      refine j_iload (pc := 6) C dX4_cellsShared_6 0 rfl ?_
      refine j_aload_n (pc := 8) C dX4_cellsShared_8 rfl 2 rfl ?_
      refine j_getA (pc := 9) C fp_X4_18 ha0 rfl (f := 321) rfl (0, 4) (hG σ (0, 4)) y2 (⟨hv.1.self, rfl⟩ : At _ (0, 4) _) dX4_cellsShared_9 ?_
      refine j_callV (pc := 12) C [] [.int (nI k)] (rm0 := ({ frames := 5, cells := 0, slots := 0, locals := 110 } : Room)) (k' := 0) (n' := 0) Q.1 (k_size (xl X) (xw X) hv.1 (⟨hv.1.self, rfl⟩ : At _ (0, 4) _)) mp_Jx4a65c_size_8abf5 wm_247 (⟨hv.1.self, rfl⟩ : At _ (0, 4) _) rfl rfl (by decide) rfl rfl (Nat.le_of_ble_eq_true rfl) dX4_cellsShared_12 ⟨by decide, by decide⟩ ⟨Nat.le_of_ble_eq_true rfl, Nat.le_of_ble_eq_true rfl⟩ rfl rfl (det1 ?_)
      refine jn_icmp_ge (pc := 15) C 77 (a := k) (b := nW S) (by omega) (by omega) dX4_cellsShared_15 (by decide) (fun c1 => ?_) (fun c1 => ?_)
      · have e9 : k = nW S := Nat.le_antisymm h1 c1
        refine j_iload (pc := 77) C dX4_cellsShared_77 1 rfl ?_
        refine j_topi (nI (shIn S l p q (nW S))) (by rw [e9]) ?_
        exact j_ireturn (pc := 79) C Q dX4_cellsShared_79 (Nat.le_of_ble_eq_true rfl) (Nat.le_of_ble_eq_true rfl) (⟨rfl, rfl⟩)
      · obtain ⟨q1, q2, q3, q4, -⟩ := hw.2.2.2.1.2.2 k c1
        refine j_aload_n (pc := 18) C dX4_cellsShared_18 rfl 2 rfl ?_
        refine j_iload (pc := 19) C dX4_cellsShared_19 0 rfl ?_
        by_cases c2 : hd9 S k = 1
        · refine j_callV (pc := 21) C [.int (nI k)] [] (rm0 := ({ frames := 5, cells := 0, slots := 0, locals := 110 } : Room)) (k' := 0) (n' := 0) Q.1 (c_X4_wordNumbered_t (xl X) (xw X) (o := ol S) gW hf hv ha0 c1 c2) mp_X4_wordNumbered wm_358 ha0 rfl rfl (by decide) rfl rfl (Nat.le_of_ble_eq_true rfl) dX4_cellsShared_21 ⟨by decide, by decide⟩ ⟨Nat.le_of_ble_eq_true rfl, Nat.le_of_ble_eq_true rfl⟩ rfl rfl (det1 ?_)
          refine j_astore (pc := 24) C [(6, .ref (hG σ (8, k))), (5, .int (nI k)), (4, .int (nI (shIn S l p q k))), (0, .ref a0), (1, .ref b), (2, .int (nI p)), (3, .int (nI q))] dX4_cellsShared_24 (by decide) rfl ?_
          refine j_aload (pc := 26) C dX4_cellsShared_26 0 rfl ?_
          refine j_ifnull (pc := 28) C dX4_cellsShared_28 ?_
          refine j_aload (pc := 31) C dX4_cellsShared_31 0 rfl ?_
          refine j_getA (pc := 33) C fp_X4_57 (⟨hv.1.live c1, rfl⟩ : At _ (8, k) _) rfl (f := 512) rfl (4, ol S k) (hG σ (4, ol S k)) ((hv.2.1 k c1).1) (⟨hl.1.live (hw.2.2.2.1.2.2 k c1).1, rfl⟩ : At _ (4, ol S k) _) dX4_cellsShared_33 ?_
          refine j_aload_n (pc := 36) C dX4_cellsShared_36 rfl 4 rfl ?_
          refine jt_acmp_ne (pc := 37) C 71 (⟨hl.1.live (hw.2.2.2.1.2.2 k c1).1, rfl⟩ : At _ (4, ol S k) _) hb dX4_cellsShared_37 (by decide) (fun c3 => ?_) (fun c3 => ?_)
          · refine j_iinc (pc := 71) C (nI (k + 1)) [(5, .int (nI (k + 1))), (6, .ref (hG σ (8, k))), (4, .int (nI (shIn S l p q k))), (0, .ref a0), (1, .ref b), (2, .int (nI p)), (3, .int (nI q))] dX4_cellsShared_71 1 rfl (nI_add k 1) (by decide) rfl ?_
            refine j_goto (pc := 74) C 6 dX4_cellsShared_74 (by decide) ?_
            have l0 := ih (k + 1) (by omega) (by omega)
            rw [show shIn S l p q (k + 1) = shIn S l p q k from if_neg (by unfold shB; rw [decide_eq_false (fun z => c3 (by rw [z.2.1])), Bool.false_and]; decide)] at l0
            exact J.to [0, 2, 3, 4, 5, 6] rfl l0
          · refine j_aload (pc := 40) C dX4_cellsShared_40 0 rfl ?_
            refine j_getI (pc := 42) C fp_X4_65 (⟨hv.1.live c1, rfl⟩ : At _ (8, k) _) rfl (f := 514) rfl dX4_cellsShared_42 ?_
            refine j_topi (nI (sw S k)) ((hv.2.1 k c1).2.2.1) ?_
            refine j_iload_n (pc := 45) C dX4_cellsShared_45 rfl 5 rfl ?_
            refine jn_icmp_ne (pc := 46) C 71 (a := sw S k) (b := p) (by omega) (by omega) dX4_cellsShared_46 (by decide) (fun c4 => ?_) (fun c4 => ?_)
            · refine j_iinc (pc := 71) C (nI (k + 1)) [(5, .int (nI (k + 1))), (6, .ref (hG σ (8, k))), (4, .int (nI (shIn S l p q k))), (0, .ref a0), (1, .ref b), (2, .int (nI p)), (3, .int (nI q))] dX4_cellsShared_71 1 rfl (nI_add k 1) (by decide) rfl ?_
              refine j_goto (pc := 74) C 6 dX4_cellsShared_74 (by decide) ?_
              have l0 := ih (k + 1) (by omega) (by omega)
              rw [show shIn S l p q (k + 1) = shIn S l p q k from if_neg (by unfold shB; rw [decide_eq_false (fun z => c4 z.2.2), Bool.false_and]; decide)] at l0
              exact J.to [0, 2, 3, 4, 5, 6] rfl l0
            · refine j_aload_n (pc := 49) C dX4_cellsShared_49 rfl 3 rfl ?_
              refine j_iload_n (pc := 50) C dX4_cellsShared_50 rfl 6 rfl ?_
              refine j_aload (pc := 51) C dX4_cellsShared_51 0 rfl ?_
              refine j_callV (pc := 53) C [.int (nI q), .ref (hG σ (8, k))] [] (rm0 := ({ frames := 5, cells := 0, slots := 0, locals := 110 } : Room)) (k' := 0) (n' := 0) Q.1 (c_X4_wasHeardBy (xl X) (xw X) hw ⟨hf, hl, hx, hv, hch⟩ ha0 ⟨hv.1.live c1, rfl⟩ c1 hq4) mp_X4_wasHeardBy wm_1030 ha0 rfl rfl (by decide) rfl rfl (Nat.le_of_ble_eq_true rfl) dX4_cellsShared_53 ⟨by decide, by decide⟩ ⟨Nat.le_of_ble_eq_true rfl, Nat.le_of_ble_eq_true rfl⟩ rfl rfl (det1 ?_)
              refine jb_if_eq (pc := 56) C 71 (b := anyB (hbP S q k) (nW S)) dX4_cellsShared_56 (by decide) (fun c5 => ?_) (fun c5 => ?_)
              · refine j_iinc (pc := 71) C (nI (k + 1)) [(5, .int (nI (k + 1))), (6, .ref (hG σ (8, k))), (4, .int (nI (shIn S l p q k))), (0, .ref a0), (1, .ref b), (2, .int (nI p)), (3, .int (nI q))] dX4_cellsShared_71 1 rfl (nI_add k 1) (by decide) rfl ?_
                refine j_goto (pc := 74) C 6 dX4_cellsShared_74 (by decide) ?_
                have l0 := ih (k + 1) (by omega) (by omega)
                rw [show shIn S l p q (k + 1) = shIn S l p q k from if_neg (by unfold shB; rw [c5, Bool.and_false]; decide)] at l0
                exact J.to [0, 2, 3, 4, 5, 6] rfl l0
              · refine j_iload (pc := 59) C dX4_cellsShared_59 2 rfl ?_
                refine j_iconst (pc := 61) C (nI 1) dX4_cellsShared_61 (by decide) ?_
                refine j_aload (pc := 62) C dX4_cellsShared_62 0 rfl ?_
                refine j_getI (pc := 64) C fp_X4_61 (⟨hv.1.live c1, rfl⟩ : At _ (8, k) _) rfl (f := 513) rfl dX4_cellsShared_64 ?_
                refine j_topi (nI (cw S k)) ((hv.2.1 k c1).2.1) ?_
                refine j_ishl (pc := 67) C dX4_cellsShared_67 ?_
                refine j_topi (nI (2 ^ cw S k)) (shl1 (by omega)) ?_
                refine j_ior (pc := 68) C dX4_cellsShared_68 ?_
                refine j_topi (nI ((shIn S l p q k) ||| (2 ^ cw S k))) (nx_or (shIn S l p q k) (2 ^ cw S k)) ?_
                refine j_istore (pc := 69) C [(4, .int (nI ((shIn S l p q k) ||| (2 ^ cw S k)))), (6, .ref (hG σ (8, k))), (5, .int (nI k)), (0, .ref a0), (1, .ref b), (2, .int (nI p)), (3, .int (nI q))] dX4_cellsShared_69 (by decide) rfl ?_
                refine j_iinc (pc := 71) C (nI (k + 1)) [(5, .int (nI (k + 1))), (4, .int (nI ((shIn S l p q k) ||| (2 ^ cw S k)))), (6, .ref (hG σ (8, k))), (0, .ref a0), (1, .ref b), (2, .int (nI p)), (3, .int (nI q))] dX4_cellsShared_71 2 rfl (nI_add k 1) (by decide) rfl ?_
                refine j_goto (pc := 74) C 6 dX4_cellsShared_74 (by decide) ?_
                have l0 := ih (k + 1) (by omega) (by omega)
                rw [show shIn S l p q (k + 1) = shIn S l p q k ||| 2 ^ cw S k from if_pos (by unfold shB; rw [c5, decide_eq_true ⟨c2, congrArg Prod.snd c3, c4⟩]; rfl)] at l0
                exact J.to [0, 1, 3, 4, 5, 6] rfl l0
        · refine j_callV (pc := 21) C [.int (nI k)] [] (rm0 := ({ frames := 5, cells := 0, slots := 0, locals := 110 } : Room)) (k' := 0) (n' := 0) Q.1 (c_X4_wordNumbered_f (xl X) (xw X) (o := ol S) gW hf hv ha0 (x := nI k) (by rw [isWrd_nI (by omega), decide_eq_false c2, Bool.and_false])) mp_X4_wordNumbered wm_358 ha0 rfl rfl (by decide) rfl rfl (Nat.le_of_ble_eq_true rfl) dX4_cellsShared_21 ⟨by decide, by decide⟩ ⟨Nat.le_of_ble_eq_true rfl, Nat.le_of_ble_eq_true rfl⟩ rfl rfl (det1 ?_)
          refine j_astoreN (pc := 24) C [(6, .null), (5, .int (nI k)), (4, .int (nI (shIn S l p q k))), (0, .ref a0), (1, .ref b), (2, .int (nI p)), (3, .int (nI q))] dX4_cellsShared_24 (by decide) rfl ?_
          refine j_aloadN (pc := 26) C dX4_cellsShared_26 0 rfl ?_
          refine j_ifnullN (pc := 28) C 71 dX4_cellsShared_28 (by decide) ?_
          refine j_iinc (pc := 71) C (nI (k + 1)) [(5, .int (nI (k + 1))), (6, .null), (4, .int (nI (shIn S l p q k))), (0, .ref a0), (1, .ref b), (2, .int (nI p)), (3, .int (nI q))] dX4_cellsShared_71 1 rfl (nI_add k 1) (by decide) rfl ?_
          refine j_goto (pc := 74) C 6 dX4_cellsShared_74 (by decide) ?_
          have l0 := ih (k + 1) (by omega) (by omega)
          rw [show shIn S l p q (k + 1) = shIn S l p q k from if_neg (by unfold shB; rw [decide_eq_false (fun z => c2 z.1), Bool.false_and]; decide)] at l0
          exact J.to [0, 2, 3, 4, 5, 6] rfl l0
  exact J.to [0, 1, 2, 3, 4, 5] rfl (loop (nW S + 1) 0 (Nat.zero_le _) (by omega))
