def shN (S : SP) (a b l : Nat) : Nat := fb_ct (fun c => isShared9 S l c a b) 8
theorem shN_gone {S : SP} (hw : WF S) {l a b : Nat} (h : th S l ≠ 1) : shN S a b l = 0 := fb_ct_zero.mpr (fun c _ => decide_eq_false (fun z => by
  obtain ⟨v, hv, w, hw9, e1, e2, e3, -⟩ := z
  exact h (by rw [← e3]; exact (hw.2.2.2.1.2.2 v hv).2.2.2.2 e1)))
theorem shN_cnt {S : SP} {l a b : Nat} : cnt (shIn S l a b (nW S)) 8 = shN S a b l := by
  rw [cnt_ct]
  exact fb_ct_cong (fun c _ => shIn_shared l a b c)
theorem shN_le (S : SP) (a b k : Nat) : fb_sm (shN S a b) k ≤ 8 * k := by
  have := fb_sm_bound (f := shN S a b) (c := 8) (n := k) (fun v _ => fb_ct_le _ 8)
  omega
set_option maxHeartbeats 4000000 in
set_option maxRecDepth 100000 in
theorem c_X9_shared_0 (L9 : Launch) (w9 : Wd) {σ : HS} {S : SP} (hw : WF S) (hc : CI S σ) {a0 : Nat} (ha0 : At σ (9, 0) a0) {a b : Nat} (ha : a < 4) (hb : b < 4) : MJ L9 w9 yX9_shared cX9_shared 6 (some .int) ({ frames := 6, cells := 0, slots := 0, locals := 136 } : Room) [.ref a0, .int (nI a), .int (nI b)] σ (fun a9 σ' => a9 = some (.int (nI (shared9 S a b))) ∧ σ' = σ) := by
  refine MJ.of (by decide +kernel) (Nat.le_of_ble_eq_true rfl) (fun X hX1 hX2 C Q hinit => ?_)
  subst hX1; subst hX2
  show J X 0 0 σ [(0, .ref a0), (1, .int (nI a)), (2, .int (nI b))] [] 0
  obtain ⟨hp, he, hx, hf9, hd⟩ := id hc
  obtain ⟨z1, z2, z3, z4⟩ := id hf9
  obtain ⟨ef, e1, e2⟩ := id he
  have gS := hw.1.1
  have gC := hw.1.2.2.2.1
  have gR := hw.2.1.1
  have gL := hw.2.2.1.1
  have gW := hw.2.2.2.1.1
  have gD := hw.2.2.2.2.1
  refine j_iload_n (pc := 0) C dX9_shared_0 rfl 1 rfl ?_
  refine j_callS (pc := 1) C [.int (nI a)] [] (rm0 := ({ frames := 6, cells := 0, slots := 0, locals := 136 } : Room)) (k' := 0) (n' := 0) Q.1 (c_X9_checkSpeaker_t (xl X) (xw X) ha) mp_X9_checkSpeaker wm_744 rfl rfl (Nat.le_of_ble_eq_true rfl) dX9_shared_1 ⟨by decide, by decide⟩ ⟨Nat.le_of_ble_eq_true rfl, Nat.le_of_ble_eq_true rfl⟩ rfl rfl (det0 ?_)
  refine j_iload_n (pc := 4) C dX9_shared_4 rfl 2 rfl ?_
  refine j_callS (pc := 5) C [.int (nI b)] [] (rm0 := ({ frames := 6, cells := 0, slots := 0, locals := 136 } : Room)) (k' := 0) (n' := 0) Q.1 (c_X9_checkSpeaker_t (xl X) (xw X) hb) mp_X9_checkSpeaker wm_744 rfl rfl (Nat.le_of_ble_eq_true rfl) dX9_shared_5 ⟨by decide, by decide⟩ ⟨Nat.le_of_ble_eq_true rfl, Nat.le_of_ble_eq_true rfl⟩ rfl rfl (det0 ?_)
  refine j_iconst (pc := 8) C (nI 0) dX9_shared_8 (by decide) ?_
  refine j_istore_n (pc := 9) C [(3, .int (nI 0)), (0, .ref a0), (1, .int (nI a)), (2, .int (nI b))] dX9_shared_9 rfl (by decide) rfl ?_
  refine j_iconst (pc := 10) C (nI 0) dX9_shared_10 (by decide) ?_
  refine j_istore (pc := 11) C [(4, .int (nI 0)), (3, .int (nI 0)), (0, .ref a0), (1, .int (nI a)), (2, .int (nI b))] dX9_shared_11 (by decide) rfl ?_
  have loop : ∀ (f : Nat) (k : Nat), (k ≤ nL S) → (nL S < k + f) → J X 0 0 σ [(4, .int (nI k)), (3, .int (nI (fb_sm (shN S a b) k))), (0, .ref a0), (1, .int (nI a)), (2, .int (nI b))] [] 13 := by
    intro f
    induction f with
    | zero => intro k h1 h2; exact absurd h2 (by omega)
    | succ f ih =>
      intro k h1 h2
      have hle := shN_le S a b k
      refine j_iload (pc := 13) C dX9_shared_13 0 rfl ?_
      refine j_aload_n (pc := 15) C dX9_shared_15 rfl 2 rfl ?_
      refine j_getA (pc := 16) C fp_X9_19 ha0 rfl (f := 577) rfl (5, 0) (hG σ (5, 0)) z3 (⟨hx.1.1, rfl⟩ : At _ (5, 0) _) dX9_shared_16 ?_
      refine j_callV (pc := 19) C [] [.int (nI k)] (rm0 := ({ frames := 6, cells := 0, slots := 0, locals := 136 } : Room)) (k' := 0) (n' := 0) Q.1 (c_X4_lexemeCount (xl X) (xw X) hw hx (⟨hx.1.1, rfl⟩ : At _ (5, 0) _)) mp_X4_lexemeCount wm_345 (⟨hx.1.1, rfl⟩ : At _ (5, 0) _) rfl rfl (by decide) rfl rfl (Nat.le_of_ble_eq_true rfl) dX9_shared_19 ⟨by decide, by decide⟩ ⟨Nat.le_of_ble_eq_true rfl, Nat.le_of_ble_eq_true rfl⟩ rfl rfl (det1 ?_)
      refine jn_icmp_ge (pc := 22) C 64 (a := k) (b := nL S) (by omega) (by omega) dX9_shared_22 (by decide) (fun c1 => ?_) (fun c1 => ?_)
      · have e9 : k = nL S := Nat.le_antisymm h1 c1
        refine j_iload_n (pc := 64) C dX9_shared_64 rfl 1 rfl ?_
        refine j_topi (nI (shared9 S a b)) (by rw [e9]; rfl) ?_
        exact j_ireturn (pc := 65) C Q dX9_shared_65 (Nat.le_of_ble_eq_true rfl) (Nat.le_of_ble_eq_true rfl) (⟨rfl, rfl⟩)
      · refine j_aload_n (pc := 25) C dX9_shared_25 rfl 2 rfl ?_
        refine j_getA (pc := 26) C fp_X9_19 ha0 rfl (f := 577) rfl (5, 0) (hG σ (5, 0)) z3 (⟨hx.1.1, rfl⟩ : At _ (5, 0) _) dX9_shared_26 ?_
        refine j_iload (pc := 29) C dX9_shared_29 0 rfl ?_
        by_cases c2 : th S k = 1
        · refine j_callV (pc := 31) C [.int (nI k)] [] (rm0 := ({ frames := 6, cells := 0, slots := 0, locals := 136 } : Room)) (k' := 0) (n' := 0) Q.1 (c_X4_lexemeNumbered_t (xl X) (xw X) hw hx (⟨hx.1.1, rfl⟩ : At _ (5, 0) _) c1 c2) mp_X4_lexemeNumbered wm_349 (⟨hx.1.1, rfl⟩ : At _ (5, 0) _) rfl rfl (by decide) rfl rfl (Nat.le_of_ble_eq_true rfl) dX9_shared_31 ⟨by decide, by decide⟩ ⟨Nat.le_of_ble_eq_true rfl, Nat.le_of_ble_eq_true rfl⟩ rfl rfl (det1 ?_)
          refine j_astore (pc := 34) C [(5, .ref (hG σ (4, k))), (4, .int (nI k)), (3, .int (nI (fb_sm (shN S a b) k))), (0, .ref a0), (1, .int (nI a)), (2, .int (nI b))] dX9_shared_34 (by decide) rfl ?_
          refine j_aload (pc := 36) C dX9_shared_36 0 rfl ?_
          refine j_ifnull (pc := 38) C dX9_shared_38 ?_
          refine j_iload_n (pc := 41) C dX9_shared_41 rfl 2 rfl ?_
          refine j_aload_n (pc := 42) C dX9_shared_42 rfl 3 rfl ?_
          refine j_getA (pc := 43) C fp_X9_19 ha0 rfl (f := 577) rfl (5, 0) (hG σ (5, 0)) z3 (⟨hx.1.1, rfl⟩ : At _ (5, 0) _) dX9_shared_43 ?_
          refine j_aload (pc := 46) C dX9_shared_46 0 rfl ?_
          refine j_iload_n (pc := 48) C dX9_shared_48 rfl 4 rfl ?_
          refine j_iload_n (pc := 49) C dX9_shared_49 rfl 5 rfl ?_
          refine j_callV (pc := 50) C [.ref (hG σ (4, k)), .int (nI a), .int (nI b)] [.int (nI (fb_sm (shN S a b) k))] (rm0 := ({ frames := 6, cells := 0, slots := 0, locals := 136 } : Room)) (k' := 0) (n' := 0) Q.1 (c_X4_cellsShared (xl X) (xw X) hw hx (⟨hx.1.1, rfl⟩ : At _ (5, 0) _) ⟨hx.2.1.1.live c1, rfl⟩ ha hb) mp_X4_cellsShared wm_1026 (⟨hx.1.1, rfl⟩ : At _ (5, 0) _) rfl rfl (by decide) rfl rfl (Nat.le_of_ble_eq_true rfl) dX9_shared_50 ⟨by decide, by decide⟩ ⟨Nat.le_of_ble_eq_true rfl, Nat.le_of_ble_eq_true rfl⟩ rfl rfl (det1 ?_)
          refine j_callS (pc := 53) C [.int (nI (shIn S k a b (nW S)))] [.int (nI (fb_sm (shN S a b) k))] (rm0 := ({ frames := 6, cells := 0, slots := 0, locals := 136 } : Room)) (k' := 0) (n' := 0) Q.1 (c_J6_bitCount_0f7a4 (xl X) (xw X) (shIn_lt hw k a b _ (Nat.le_refl _))) mp_J6_bitCount_0f7a4 wm_335 rfl rfl (Nat.le_of_ble_eq_true rfl) dX9_shared_53 ⟨by decide, by decide⟩ ⟨Nat.le_of_ble_eq_true rfl, Nat.le_of_ble_eq_true rfl⟩ rfl rfl (det1 ?_)
          refine j_topi (nI (shN S a b k)) (by rw [shN_cnt]) ?_
          refine j_iadd (pc := 56) C dX9_shared_56 ?_
          refine j_topi (nI (fb_sm (shN S a b) k + shN S a b k)) (nI_add (fb_sm (shN S a b) k) (shN S a b k)) ?_
          refine j_istore_n (pc := 57) C [(3, .int (nI (fb_sm (shN S a b) k + shN S a b k))), (5, .ref (hG σ (4, k))), (4, .int (nI k)), (0, .ref a0), (1, .int (nI a)), (2, .int (nI b))] dX9_shared_57 rfl (by decide) rfl ?_
          refine j_iinc (pc := 58) C (nI (k + 1)) [(4, .int (nI (k + 1))), (3, .int (nI (fb_sm (shN S a b) k + shN S a b k))), (5, .ref (hG σ (4, k))), (0, .ref a0), (1, .int (nI a)), (2, .int (nI b))] dX9_shared_58 2 rfl (nI_add k 1) (by decide) rfl ?_
          refine j_goto (pc := 61) C 13 dX9_shared_61 (by decide) ?_
          exact J.to [0, 1, 3, 4, 5] rfl (ih (k + 1) (by omega) (by omega))
        · refine j_callV (pc := 31) C [.int (nI k)] [] (rm0 := ({ frames := 6, cells := 0, slots := 0, locals := 136 } : Room)) (k' := 0) (n' := 0) Q.1 (c_X4_lexemeNumbered_f (xl X) (xw X) hw hx (⟨hx.1.1, rfl⟩ : At _ (5, 0) _) (x := nI k) (by rw [isLex_nI (by omega), decide_eq_false c2, Bool.and_false])) mp_X4_lexemeNumbered wm_349 (⟨hx.1.1, rfl⟩ : At _ (5, 0) _) rfl rfl (by decide) rfl rfl (Nat.le_of_ble_eq_true rfl) dX9_shared_31 ⟨by decide, by decide⟩ ⟨Nat.le_of_ble_eq_true rfl, Nat.le_of_ble_eq_true rfl⟩ rfl rfl (det1 ?_)
          refine j_astoreN (pc := 34) C [(5, .null), (4, .int (nI k)), (3, .int (nI (fb_sm (shN S a b) k))), (0, .ref a0), (1, .int (nI a)), (2, .int (nI b))] dX9_shared_34 (by decide) rfl ?_
          refine j_aloadN (pc := 36) C dX9_shared_36 0 rfl ?_
          refine j_ifnullN (pc := 38) C 58 dX9_shared_38 (by decide) ?_
          refine j_iinc (pc := 58) C (nI (k + 1)) [(4, .int (nI (k + 1))), (5, .null), (3, .int (nI (fb_sm (shN S a b) k))), (0, .ref a0), (1, .int (nI a)), (2, .int (nI b))] dX9_shared_58 1 rfl (nI_add k 1) (by decide) rfl ?_
          refine j_goto (pc := 61) C 13 dX9_shared_61 (by decide) ?_
          have l0 := ih (k + 1) (by omega) (by omega)
          rw [fb_sm_succ, shN_gone hw c2, Nat.add_zero] at l0
          exact J.to [0, 2, 3, 4, 5] rfl l0
  exact J.to [0, 1, 2, 3, 4] rfl (loop (nL S + 1) 0 (Nat.zero_le _) (by omega))
set_option maxHeartbeats 4000000 in
set_option maxRecDepth 100000 in
theorem c_X9_shared_1 (L9 : Launch) (w9 : Wd) (hst9 : L9.stackTraces = false) {σ : HS} {S : SP} (hw : WF S) (hc : CI S σ) {a0 : Nat} (ha0 : At σ (9, 0) a0) {x y : Int32} (h : (inI x 4 && inI y 4) = false) : MX L9 w9 yX9_shared cX9_shared 6 (some .int) ({ frames := 7, cells := 1, slots := 6, locals := 101 } : Room) [.ref a0, .int x, .int y] σ (fun _ _ => False) (fun E σ' => E = "java/lang/IndexOutOfBoundsException" ∧ σ' = σ) := by
  refine MX.of (by decide +kernel) (Nat.le_of_ble_eq_true rfl) hst9 (fun X hX1 hX2 C Q NT => ?_)
  subst hX1; subst hX2
  show J X 0 0 σ [(0, .ref a0), (1, .int x), (2, .int y)] [] 0
  obtain ⟨hp, he, hx, hf9, hd⟩ := id hc
  obtain ⟨z1, z2, z3, z4⟩ := id hf9
  obtain ⟨ef, e1, e2⟩ := id he
  have gS := hw.1.1
  have gC := hw.1.2.2.2.1
  have gR := hw.2.1.1
  have gL := hw.2.2.1.1
  have gW := hw.2.2.2.1.1
  have gD := hw.2.2.2.2.1
  by_cases e : inI x 4 = true
  · rw [e, Bool.true_and] at h
    obtain ⟨n1, n2⟩ := inI_t e
    generalize xN x = n at n1 n2
    subst n2
    show J X 0 0 σ [(0, .ref a0), (1, .int (nI n)), (2, .int y)] [] 0
    refine j_iload_n (pc := 0) C dX9_shared_0 rfl 1 rfl ?_
    refine j_callS (pc := 1) C [.int (nI n)] [] (rm0 := ({ frames := 7, cells := 1, slots := 6, locals := 101 } : Room)) (k' := 0) (n' := 0) Q.1 (c_X9_checkSpeaker_t (xl X) (xw X) n1) mp_X9_checkSpeaker wm_744 rfl rfl (Nat.le_of_ble_eq_true rfl) dX9_shared_1 ⟨by decide, by decide⟩ ⟨Nat.le_of_ble_eq_true rfl, Nat.le_of_ble_eq_true rfl⟩ rfl rfl (det0 ?_)
    refine j_iload_n (pc := 4) C dX9_shared_4 rfl 2 rfl ?_
    exact j_callSX (pc := 5) C [.int y] [] (rm0 := ({ frames := 7, cells := 1, slots := 6, locals := 101 } : Room)) (k' := 1) (n' := 6) Q NT (c_X9_checkSpeaker_x (xl X) (xw X) hst9 h) mp_X9_checkSpeaker wm_744 rfl rfl (Nat.le_of_ble_eq_true rfl) dX9_shared_5 ⟨by decide, by decide⟩ ⟨Nat.le_of_ble_eq_true rfl, Nat.le_of_ble_eq_true rfl⟩ rfl rfl (fun _ _ h => h) (fun _ _ h => (h : False).elim)
  · refine j_iload_n (pc := 0) C dX9_shared_0 rfl 1 rfl ?_
    exact j_callSX (pc := 1) C [.int x] [] (rm0 := ({ frames := 7, cells := 1, slots := 6, locals := 101 } : Room)) (k' := 1) (n' := 6) Q NT (c_X9_checkSpeaker_x (xl X) (xw X) hst9 (ts_nt e)) mp_X9_checkSpeaker wm_744 rfl rfl (Nat.le_of_ble_eq_true rfl) dX9_shared_1 ⟨by decide, by decide⟩ ⟨Nat.le_of_ble_eq_true rfl, Nat.le_of_ble_eq_true rfl⟩ rfl rfl (fun _ _ h => h) (fun _ _ h => (h : False).elim)
set_option maxHeartbeats 4000000 in
set_option maxRecDepth 100000 in
theorem c_X9_question (L9 : Launch) (w9 : Wd) {σ : HS} {S : SP} (hw : WF S) (hc : CI S σ) {a0 : Nat} (ha0 : At σ (9, 0) a0)  : MJ L9 w9 yX9_question cX9_question 10 (some .int) ({ frames := 5, cells := 0, slots := 0, locals := 116 } : Room) [.ref a0] σ (fun a9 σ' => a9 = some (.int (noneI (ques S (8 * nL S)).2)) ∧ Fr tgB σ σ') := by
  refine MJ.of (by decide +kernel) (Nat.le_of_ble_eq_true rfl) (fun X hX1 hX2 C Q hinit => ?_)
  subst hX1; subst hX2
  show J X 0 0 σ [(0, .ref a0)] [] 0
  obtain ⟨hp, he, hx, hf9, hd⟩ := id hc
  obtain ⟨z1, z2, z3, z4⟩ := id hf9
  obtain ⟨ef, e1, e2⟩ := id he
  have gS := hw.1.1
  have gC := hw.1.2.2.2.1
  have gR := hw.2.1.1
  have gL := hw.2.2.1.1
  have gW := hw.2.2.2.1.1
  have gD := hw.2.2.2.2.1
  have g64 := pow_R hw
  refine j_aload_n (pc := 0) C dX9_question_0 rfl 0 rfl ?_
  refine j_callV (pc := 1) C [] [] (rm0 := ({ frames := 5, cells := 0, slots := 0, locals := 116 } : Room)) (k' := 0) (n' := 0) Q.1 (c_X9_fittingSets (xl X) (xw X) hw hc ha0) mp_X9_fittingSets wm_230 ha0 rfl rfl (by decide) rfl rfl (Nat.le_of_ble_eq_true rfl) dX9_question_1 ⟨by decide, by decide⟩ ⟨Nat.le_of_ble_eq_true rfl, Nat.le_of_ble_eq_true rfl⟩ rfl rfl (fun v9 σ1 hp9 => ?_)
  obtain ⟨m, rfl, hm, hms, hF⟩ := hp9
  have hc1 := hc.fr hw hF (fun t z => tgB_A z)
  have ha1 := hF.at ha0
  show J X 0 0 σ1 [(0, .ref a0)] [.long (lN m)] 4
  obtain ⟨hp, he, hx, hf9, hd⟩ := id hc1
  obtain ⟨z1, z2, z3, z4⟩ := id hf9
  obtain ⟨ef, e1, e2⟩ := id he
  refine j_lstore_n (pc := 4) C [(1, .long (lN m)), (0, .ref a0)] dX9_question_4 rfl (by decide) rfl ?_
  refine j_iconst (pc := 5) C (nI 1) dX9_question_5 (by decide) ?_
  refine j_istore_n (pc := 6) C [(3, .int (nI 1)), (1, .long (lN m)), (0, .ref a0)] dX9_question_6 rfl (by decide) rfl ?_
  refine j_iconst (pc := 7) C (-1) dX9_question_7 (by decide) ?_
  refine j_istore (pc := 8) C [(4, .int (-1)), (3, .int (nI 1)), (1, .long (lN m)), (0, .ref a0)] dX9_question_8 (by decide) rfl ?_
  refine j_iconst (pc := 10) C (nI 0) dX9_question_10 (by decide) ?_
  refine j_istore (pc := 11) C [(5, .int (nI 0)), (4, .int (-1)), (3, .int (nI 1)), (1, .long (lN m)), (0, .ref a0)] dX9_question_11 (by decide) rfl ?_
  show J X 0 0 σ1 [(5, .int (nI 0)), (4, .int (noneI none)), (3, .int (nI 1)), (1, .long (lN m)), (0, .ref a0)] [] 13
  have loop : ∀ (f : Nat) (k : Nat) (σ9 : HS), (k ≤ nL S) → (nL S < k + f) → (Fr tgB σ σ9) → J X 0 0 σ9 [(5, .int (nI k)), (3, .int (nI ((ques S (8 * k)).1))), (4, .int (noneI (ques S (8 * k)).2)), (0, .ref a0), (1, .long (lN m))] [] 13 := by
    intro f
    induction f with
    | zero => intro k σ9 h1 h2 hGf; exact absurd h2 (by omega)
    | succ f ih =>
      intro k σ9 h1 h2 hGf
      have hc9 := hc.fr hw hGf (fun t z => tgB_A z)
      have ha9 := hGf.at ha0
      have hqle := ques_le S (8 * k)
      obtain ⟨hp, he, hx, hf9, hd⟩ := id hc9
      obtain ⟨z1, z2, z3, z4⟩ := id hf9
      obtain ⟨ef, e1, e2⟩ := id he
      refine j_iload (pc := 13) C dX9_question_13 0 rfl ?_
      refine j_aload_n (pc := 15) C dX9_question_15 rfl 3 rfl ?_
      refine j_getA (pc := 16) C fp_X9_19 ha9 rfl (f := 577) rfl (5, 0) (hG σ9 (5, 0)) z3 (⟨hx.1.1, rfl⟩ : At _ (5, 0) _) dX9_question_16 ?_
      refine j_callV (pc := 19) C [] [.int (nI k)] (rm0 := ({ frames := 5, cells := 0, slots := 0, locals := 116 } : Room)) (k' := 0) (n' := 0) Q.1 (c_X4_lexemeCount (xl X) (xw X) hw hx (⟨hx.1.1, rfl⟩ : At _ (5, 0) _)) mp_X4_lexemeCount wm_345 (⟨hx.1.1, rfl⟩ : At _ (5, 0) _) rfl rfl (by decide) rfl rfl (Nat.le_of_ble_eq_true rfl) dX9_question_19 ⟨by decide, by decide⟩ ⟨Nat.le_of_ble_eq_true rfl, Nat.le_of_ble_eq_true rfl⟩ rfl rfl (det1 ?_)
      refine jn_icmp_ge (pc := 22) C 137 (a := k) (b := nL S) (by omega) (by omega) dX9_question_22 (by decide) (fun c1 => ?_) (fun c1 => ?_)
      · have e9 : k = nL S := Nat.le_antisymm h1 c1
        refine j_iload (pc := 137) C dX9_question_137 2 rfl ?_
        refine j_topi (noneI (ques S (8 * nL S)).2) (by rw [e9]) ?_
        exact j_ireturn (pc := 139) C Q dX9_question_139 (Nat.le_of_ble_eq_true rfl) (Nat.le_of_ble_eq_true rfl) (⟨rfl, hGf⟩)
      · refine j_aload_n (pc := 25) C dX9_question_25 rfl 3 rfl ?_
        refine j_getA (pc := 26) C fp_X9_19 ha9 rfl (f := 577) rfl (5, 0) (hG σ9 (5, 0)) z3 (⟨hx.1.1, rfl⟩ : At _ (5, 0) _) dX9_question_26 ?_
        refine j_iload (pc := 29) C dX9_question_29 0 rfl ?_
        by_cases c2 : th S k = 1
        · refine j_callV (pc := 31) C [.int (nI k)] [] (rm0 := ({ frames := 5, cells := 0, slots := 0, locals := 116 } : Room)) (k' := 0) (n' := 0) Q.1 (c_X4_lexemeNumbered_t (xl X) (xw X) hw hx (⟨hx.1.1, rfl⟩ : At _ (5, 0) _) c1 c2) mp_X4_lexemeNumbered wm_349 (⟨hx.1.1, rfl⟩ : At _ (5, 0) _) rfl rfl (by decide) rfl rfl (Nat.le_of_ble_eq_true rfl) dX9_question_31 ⟨by decide, by decide⟩ ⟨Nat.le_of_ble_eq_true rfl, Nat.le_of_ble_eq_true rfl⟩ rfl rfl (det1 ?_)
          refine j_astore (pc := 34) C [(6, .ref (hG σ9 (4, k))), (5, .int (nI k)), (3, .int (nI ((ques S (8 * k)).1))), (4, .int (noneI (ques S (8 * k)).2)), (0, .ref a0), (1, .long (lN m))] dX9_question_34 (by decide) rfl ?_
          refine j_aload (pc := 36) C dX9_question_36 0 rfl ?_
          refine j_ifnonnull (pc := 38) C 44 dX9_question_38 (by decide) ?_
          refine j_aload_n (pc := 44) C dX9_question_44 rfl 4 rfl ?_
          refine j_getA (pc := 45) C fp_X9_19 ha9 rfl (f := 577) rfl (5, 0) (hG σ9 (5, 0)) z3 (⟨hx.1.1, rfl⟩ : At _ (5, 0) _) dX9_question_45 ?_
          refine j_aload (pc := 48) C dX9_question_48 0 rfl ?_
          refine j_callV (pc := 50) C [.ref (hG σ9 (4, k))] [] (rm0 := ({ frames := 5, cells := 0, slots := 0, locals := 116 } : Room)) (k' := 0) (n' := 0) Q.1 (c_X4_cellsHeard (xl X) (xw X) hw hx (⟨hx.1.1, rfl⟩ : At _ (5, 0) _) ⟨hx.2.1.1.live c1, rfl⟩) mp_X4_cellsHeard wm_354 (⟨hx.1.1, rfl⟩ : At _ (5, 0) _) rfl rfl (by decide) rfl rfl (Nat.le_of_ble_eq_true rfl) dX9_question_50 ⟨by decide, by decide⟩ ⟨Nat.le_of_ble_eq_true rfl, Nat.le_of_ble_eq_true rfl⟩ rfl rfl (det1 ?_)
          have h256 := heardIn_lt hw k (nW S) (Nat.le_refl _)
          refine j_istore (pc := 53) C [(7, .int (nI (heardIn S k (nW S)))), (6, .ref (hG σ9 (4, k))), (5, .int (nI k)), (3, .int (nI ((ques S (8 * k)).1))), (4, .int (noneI (ques S (8 * k)).2)), (0, .ref a0), (1, .long (lN m))] dX9_question_53 (by decide) rfl ?_
          refine j_iconst (pc := 55) C (nI 0) dX9_question_55 (by decide) ?_
          refine j_istore (pc := 56) C [(8, .int (nI 0)), (7, .int (nI (heardIn S k (nW S)))), (6, .ref (hG σ9 (4, k))), (5, .int (nI k)), (3, .int (nI ((ques S (8 * k)).1))), (4, .int (noneI (ques S (8 * k)).2)), (0, .ref a0), (1, .long (lN m))] dX9_question_56 (by decide) rfl ?_
          have loop2 : ∀ (f2 : Nat) (c : Nat) (σ7 : HS), (c ≤ 8) → (8 < c + f2) → (Fr tgB σ σ7) → J X 0 0 σ7 [(8, .int (nI c)), (7, .int (nI (heardIn S k (nW S)))), (6, .ref (hG σ9 (4, k))), (5, .int (nI k)), (3, .int (nI ((ques S (8 * k + c)).1))), (4, .int (noneI (ques S (8 * k + c)).2)), (0, .ref a0), (1, .long (lN m))] [] 58 := by
            intro f2
            induction f2 with
            | zero => intro c σ7 g1 g2 hG7; exact absurd g2 (by omega)
            | succ f2 ih2 =>
              intro c σ7 g1 g2 hG7
              have hA7 : At σ7 (4, k) (hG σ9 (4, k)) := by
                have z := (hx.2.1.1.live c1)
                have z0 := hc.2.2.1.2.1.1.live c1
                exact ⟨hG7.live z0, ((hG7.1 _ z0).2.1).trans ((hGf.1 _ z0).2.1).symm⟩
              have hc7 := hc.fr hw hG7 (fun t z => tgB_A z)
              have ha7 := hG7.at ha0
              obtain ⟨hp, he, hx, hf9, hd⟩ := id hc7
              obtain ⟨z1, z2, z3, z4⟩ := id hf9
              obtain ⟨ef, e1, e2⟩ := id he
              have hql2 := ques_le S (8 * k + c)
              have hql3 := qn_le S k c
              refine j_iload (pc := 58) C dX9_question_58 0 rfl ?_
              refine j_bipush (pc := 60) C (nI 8) dX9_question_60 (by decide) ?_
              refine jn_icmp_ge (pc := 62) C 131 (a := c) (b := 8) (by omega) (by omega) dX9_question_62 (by decide) (fun d1 => ?_) (fun d1 => ?_)
              · have e9 : c = 8 := Nat.le_antisymm g1 d1
                refine j_iinc (pc := 131) C (nI (k + 1)) [(5, .int (nI (k + 1))), (8, .int (nI c)), (7, .int (nI (heardIn S k (nW S)))), (6, .ref (hG σ9 (4, k))), (3, .int (nI ((ques S (8 * k + c)).1))), (4, .int (noneI (ques S (8 * k + c)).2)), (0, .ref a0), (1, .long (lN m))] dX9_question_131 3 rfl (nI_add k 1) (by decide) rfl ?_
                refine j_goto (pc := 134) C 13 dX9_question_134 (by decide) ?_
                have l0 := ih (k + 1) σ7 (by omega) (by omega) hG7
                rw [show 8 * (k + 1) = 8 * k + c by omega] at l0
                exact J.to [0, 4, 5, 6, 7] rfl l0
              · have hX := (hx.2.2.1 k c1).t c2
                have qs := ques_succ S k d1
                refine j_iload (pc := 65) C dX9_question_65 1 rfl ?_
                refine j_iload (pc := 67) C dX9_question_67 0 rfl ?_
                refine j_iushr (pc := 69) C dX9_question_69 ?_
                refine j_iconst (pc := 70) C (nI 1) dX9_question_70 (by decide) ?_
                refine j_iand (pc := 71) C dX9_question_71 ?_
                refine j_topi (nI (((heardIn S k (nW S)).testBit c).toNat)) (ubit _ h256 _ d1) ?_
                refine jn_if_ne (pc := 72) C 125 (a := ((heardIn S k (nW S)).testBit c).toNat) (bool_lt _) dX9_question_72 (by decide) (fun d2 => ?_) (fun d2 => ?_)
                · refine j_iinc (pc := 125) C (nI (c + 1)) [(8, .int (nI (c + 1))), (7, .int (nI (heardIn S k (nW S)))), (6, .ref (hG σ9 (4, k))), (5, .int (nI k)), (3, .int (nI ((ques S (8 * k + c)).1))), (4, .int (noneI (ques S (8 * k + c)).2)), (0, .ref a0), (1, .long (lN m))] dX9_question_125 0 rfl (nI_add c 1) (by decide) rfl ?_
                  refine j_goto (pc := 128) C 58 dX9_question_128 (by decide) ?_
                  have l0 := ih2 (c + 1) σ7 (by omega) (by omega) hG7
                  rw [qs, if_neg (fun z => by have q0 : qn S k c = 0 := if_neg (fun y => d2 (by rw [y.2]; rfl)); rw [q0] at z; exact absurd z.2 (Nat.not_lt_zero _))] at l0
                  exact J.to [0, 1, 2, 3, 4, 5, 6, 7] rfl l0
                · have d3 : (heardIn S k (nW S)).testBit c = false := bool0.mp d2
                  refine j_aload (pc := 75) C dX9_question_75 2 rfl ?_
                  refine j_getA (pc := 77) C fp_X9_163 hA7 rfl (f := 259) rfl (1, k) (hG σ7 (1, k)) ((hx.2.1.2.1 k c1).2.2.2) (⟨((hx.2.2.1 k c1).t c2).1, rfl⟩ : At _ (1, k) _) dX9_question_77 ?_
                  refine j_iload (pc := 80) C dX9_question_80 0 rfl ?_
                  refine j_callV (pc := 82) C [.int (nI c)] [] (rm0 := ({ frames := 5, cells := 0, slots := 0, locals := 116 } : Room)) (k' := 0) (n' := 0) Q.1 (c_X0_has (xl X) (xw X) hX d1) mp_X0_has wm_359 (⟨((hx.2.2.1 k c1).t c2).1, rfl⟩ : At _ (1, k) _) rfl rfl (Nat.le_of_ble_eq_true rfl) rfl rfl (Nat.le_of_ble_eq_true rfl) dX9_question_82 ⟨by decide, by decide⟩ ⟨Nat.le_of_ble_eq_true rfl, Nat.le_of_ble_eq_true rfl⟩ rfl rfl (det1 ?_)
                  refine jb_if_eq (pc := 85) C 91 (b := (xc9 S k c).isSome) dX9_question_85 (by decide) (fun d4 => ?_) (fun d4 => ?_)
                  · have d5 : (xc9 S k c).isNone = true := by rw [← Option.not_isSome, d4]; rfl
                    have q0 : qn S k c = unl S (base9 S k c) (2 ^ nR S) := if_pos ⟨d5, d3⟩
                    refine j_aload_n (pc := 91) C dX9_question_91 rfl 6 rfl ?_
                    refine j_aload_n (pc := 92) C dX9_question_92 rfl 6 rfl ?_
                    refine j_aload (pc := 93) C dX9_question_93 2 rfl ?_
                    refine j_iload (pc := 95) C dX9_question_95 0 rfl ?_
                    refine j_callV (pc := 97) C [.ref (hG σ9 (4, k)), .int (nI c)] [.ref a0] (rm0 := ({ frames := 5, cells := 0, slots := 0, locals := 116 } : Room)) (k' := 0) (n' := 0) Q.1 (c_X9_underlying (xl X) (xw X) hw hc7 ha7 c1 hA7 d1) mp_X9_underlying wm_278 ha7 rfl rfl (by decide) rfl rfl (Nat.le_of_ble_eq_true rfl) dX9_question_97 ⟨by decide, by decide⟩ ⟨Nat.le_of_ble_eq_true rfl, Nat.le_of_ble_eq_true rfl⟩ rfl rfl (det1 ?_)
                    refine j_lload_n (pc := 100) C dX9_question_100 rfl 7 rfl ?_
                    refine j_callV (pc := 101) C [.long (enc5 (base9 S k c)), .long (lN m)] [] (rm0 := ({ frames := 5, cells := 0, slots := 0, locals := 116 } : Room)) (k' := 0) (n' := 0) Q.1 (c_X9_countUnlike (xl X) (xw X) hw hc7 ha7 (WF_base hw c1 c) hm hms) mp_X9_countUnlike wm_360 ha7 rfl rfl (by decide) rfl rfl (Nat.le_of_ble_eq_true rfl) dX9_question_101 ⟨by decide, by decide⟩ ⟨Nat.le_of_ble_eq_true rfl, Nat.le_of_ble_eq_true rfl⟩ rfl rfl (fun v9 σ6 hp9 => ?_)
                    obtain ⟨rfl, hF6⟩ := hp9
                    rw [← q0]
                    have hG6 := hG7.tr hF6
                    show J X 0 0 σ6 [(8, .int (nI c)), (7, .int (nI (heardIn S k (nW S)))), (6, .ref (hG σ9 (4, k))), (5, .int (nI k)), (3, .int (nI ((ques S (8 * k + c)).1))), (4, .int (noneI (ques S (8 * k + c)).2)), (0, .ref a0), (1, .long (lN m))] [.int (nI (qn S k c))] 104
                    refine j_istore (pc := 104) C [(9, .int (nI (qn S k c))), (8, .int (nI c)), (7, .int (nI (heardIn S k (nW S)))), (6, .ref (hG σ9 (4, k))), (5, .int (nI k)), (3, .int (nI ((ques S (8 * k + c)).1))), (4, .int (noneI (ques S (8 * k + c)).2)), (0, .ref a0), (1, .long (lN m))] dX9_question_104 (by decide) rfl ?_
                    refine j_iload (pc := 106) C dX9_question_106 0 rfl ?_
                    refine j_iload_n (pc := 108) C dX9_question_108 rfl 5 rfl ?_
                    refine jn_icmp_le (pc := 109) C 125 (a := qn S k c) (b := (ques S (8 * k + c)).1) (by omega) (by omega) dX9_question_109 (by decide) (fun d6 => ?_) (fun d6 => ?_)
                    · refine j_iinc (pc := 125) C (nI (c + 1)) [(8, .int (nI (c + 1))), (9, .int (nI (qn S k c))), (7, .int (nI (heardIn S k (nW S)))), (6, .ref (hG σ9 (4, k))), (5, .int (nI k)), (3, .int (nI ((ques S (8 * k + c)).1))), (4, .int (noneI (ques S (8 * k + c)).2)), (0, .ref a0), (1, .long (lN m))] dX9_question_125 1 rfl (nI_add c 1) (by decide) rfl ?_
                      refine j_goto (pc := 128) C 58 dX9_question_128 (by decide) ?_
                      have l0 := ih2 (c + 1) σ6 (by omega) (by omega) hG6
                      rw [qs, if_neg (fun z => absurd z.2 (by omega))] at l0
                      exact J.to [0, 2, 3, 4, 5, 6, 7, 8] rfl l0
                    · refine j_iload (pc := 112) C dX9_question_112 0 rfl ?_
                      refine j_istore_n (pc := 114) C [(3, .int (nI (qn S k c))), (9, .int (nI (qn S k c))), (8, .int (nI c)), (7, .int (nI (heardIn S k (nW S)))), (6, .ref (hG σ9 (4, k))), (5, .int (nI k)), (4, .int (noneI (ques S (8 * k + c)).2)), (0, .ref a0), (1, .long (lN m))] dX9_question_114 rfl (by decide) rfl ?_
                      refine j_bipush (pc := 115) C (nI 8) dX9_question_115 (by decide) ?_
                      refine j_iload (pc := 117) C dX9_question_117 5 rfl ?_
                      refine j_imul (pc := 119) C dX9_question_119 ?_
                      refine j_topi (nI (8 * k)) (pk_mul 8 k) ?_
                      refine j_iload (pc := 120) C dX9_question_120 2 rfl ?_
                      refine j_iadd (pc := 122) C dX9_question_122 ?_
                      refine j_topi (nI (8 * k + c)) (nI_add (8 * k) c) ?_
                      refine j_istore (pc := 123) C [(4, .int (nI (8 * k + c))), (3, .int (nI (qn S k c))), (9, .int (nI (qn S k c))), (8, .int (nI c)), (7, .int (nI (heardIn S k (nW S)))), (6, .ref (hG σ9 (4, k))), (5, .int (nI k)), (0, .ref a0), (1, .long (lN m))] dX9_question_123 (by decide) rfl ?_
                      refine j_iinc (pc := 125) C (nI (c + 1)) [(8, .int (nI (c + 1))), (4, .int (nI (8 * k + c))), (3, .int (nI (qn S k c))), (9, .int (nI (qn S k c))), (7, .int (nI (heardIn S k (nW S)))), (6, .ref (hG σ9 (4, k))), (5, .int (nI k)), (0, .ref a0), (1, .long (lN m))] dX9_question_125 3 rfl (nI_add c 1) (by decide) rfl ?_
                      refine j_goto (pc := 128) C 58 dX9_question_128 (by decide) ?_
                      have l0 := ih2 (c + 1) σ6 (by omega) (by omega) hG6
                      rw [qs, if_pos ⟨c2, by omega⟩] at l0
                      exact J.to [0, 4, 5, 6, 2, 1, 7, 8] rfl l0
                  · refine j_goto (pc := 88) C 125 dX9_question_88 (by decide) ?_
                    refine j_iinc (pc := 125) C (nI (c + 1)) [(8, .int (nI (c + 1))), (7, .int (nI (heardIn S k (nW S)))), (6, .ref (hG σ9 (4, k))), (5, .int (nI k)), (3, .int (nI ((ques S (8 * k + c)).1))), (4, .int (noneI (ques S (8 * k + c)).2)), (0, .ref a0), (1, .long (lN m))] dX9_question_125 0 rfl (nI_add c 1) (by decide) rfl ?_
                    refine j_goto (pc := 128) C 58 dX9_question_128 (by decide) ?_
                    have l0 := ih2 (c + 1) σ7 (by omega) (by omega) hG7
                    rw [qs, if_neg (fun z => by have q0 : qn S k c = 0 := if_neg (fun y => by rw [Option.isNone_iff_eq_none.mp y.1] at d4; cases d4); rw [q0] at z; exact absurd z.2 (Nat.not_lt_zero _))] at l0
                    exact J.to [0, 1, 2, 3, 4, 5, 6, 7] rfl l0
          exact J.to [0, 1, 2, 3, 4, 5, 6, 7] rfl (loop2 9 0 σ9 (Nat.zero_le _) (by decide) hGf)
        · refine j_callV (pc := 31) C [.int (nI k)] [] (rm0 := ({ frames := 5, cells := 0, slots := 0, locals := 116 } : Room)) (k' := 0) (n' := 0) Q.1 (c_X4_lexemeNumbered_f (xl X) (xw X) hw hx (⟨hx.1.1, rfl⟩ : At _ (5, 0) _) (x := nI k) (by rw [isLex_nI (by omega), decide_eq_false c2, Bool.and_false])) mp_X4_lexemeNumbered wm_349 (⟨hx.1.1, rfl⟩ : At _ (5, 0) _) rfl rfl (by decide) rfl rfl (Nat.le_of_ble_eq_true rfl) dX9_question_31 ⟨by decide, by decide⟩ ⟨Nat.le_of_ble_eq_true rfl, Nat.le_of_ble_eq_true rfl⟩ rfl rfl (det1 ?_)
          refine j_astoreN (pc := 34) C [(6, .null), (5, .int (nI k)), (3, .int (nI ((ques S (8 * k)).1))), (4, .int (noneI (ques S (8 * k)).2)), (0, .ref a0), (1, .long (lN m))] dX9_question_34 (by decide) rfl ?_
          refine j_aloadN (pc := 36) C dX9_question_36 0 rfl ?_
          refine j_ifnonnullN (pc := 38) C dX9_question_38 ?_
          refine j_goto (pc := 41) C 131 dX9_question_41 (by decide) ?_
          refine j_iinc (pc := 131) C (nI (k + 1)) [(5, .int (nI (k + 1))), (6, .null), (3, .int (nI ((ques S (8 * k)).1))), (4, .int (noneI (ques S (8 * k)).2)), (0, .ref a0), (1, .long (lN m))] dX9_question_131 1 rfl (nI_add k 1) (by decide) rfl ?_
          refine j_goto (pc := 134) C 13 dX9_question_134 (by decide) ?_
          have l0 := ih (k + 1) σ9 (by omega) (by omega) hGf
          rw [show 8 * (k + 1) = 8 * k + (0 + 8) by omega, ques_out c2 0 8 (by decide)] at l0
          exact J.to [0, 2, 3, 4, 5] rfl l0
  exact J.to [0, 2, 1, 4, 3] rfl (loop (nL S + 1) 0 σ1 (Nat.zero_le _) (by omega) hF)
