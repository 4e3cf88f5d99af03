set_option maxHeartbeats 4000000 in
set_option maxRecDepth 100000 in
theorem c_X9_isPair_nn (L9 : Launch) (w9 : Wd) {σ : HS}  {S : SP} (hw : WF S) (hc : CI S σ)  {a b : Nat} : MJ L9 w9 yX9_isPair cX9_isPair 4 (some .boolean) ({ frames := 0, cells := 0, slots := 0, locals := 0 } : Room) [.null, .null, .int (nI a), .int (nI b)] σ (fun a9 σ' => a9 = some (.int (bI (false))) ∧ σ' = σ) := by
  refine MJ.of (by decide +kernel) (Nat.le_of_ble_eq_true rfl) (fun X hX1 hX2 C Q hinit => ?_)
  subst hX1; subst hX2
  show J X 0 0 σ [(0, .null), (1, .null), (2, .int (nI a)), (3, .int (nI b))] [] 0
  obtain ⟨hp, he, hx, hf9, hd⟩ := id hc
  have gS := hw.1.1
  refine j_aload_nN (pc := 0) C dX9_isPair_0 rfl 0 rfl ?_
  refine j_ifnullN (pc := 1) C 19 dX9_isPair_1 (by decide) ?_
  refine j_iconst (pc := 19) C (nI 0) dX9_isPair_19 (by decide) ?_
  refine j_topi (bI false) rfl ?_
  exact j_zreturn (pc := 20) C Q dX9_isPair_20 (bI_nar _) (Nat.le_of_ble_eq_true rfl) (Nat.le_of_ble_eq_true rfl) (⟨rfl, rfl⟩)
set_option maxHeartbeats 4000000 in
set_option maxRecDepth 100000 in
theorem c_X9_isPair_nr (L9 : Launch) (w9 : Wd) {σ : HS}  {S : SP} (hw : WF S) (hc : CI S σ) {w bw : Nat} (hbw : At σ (8, w) bw) {a b : Nat} : MJ L9 w9 yX9_isPair cX9_isPair 4 (some .boolean) ({ frames := 0, cells := 0, slots := 0, locals := 0 } : Room) [.null, .ref bw, .int (nI a), .int (nI b)] σ (fun a9 σ' => a9 = some (.int (bI (false))) ∧ σ' = σ) := by
  refine MJ.of (by decide +kernel) (Nat.le_of_ble_eq_true rfl) (fun X hX1 hX2 C Q hinit => ?_)
  subst hX1; subst hX2
  show J X 0 0 σ [(0, .null), (1, .ref bw), (2, .int (nI a)), (3, .int (nI b))] [] 0
  obtain ⟨hp, he, hx, hf9, hd⟩ := id hc
  have gS := hw.1.1
  refine j_aload_nN (pc := 0) C dX9_isPair_0 rfl 0 rfl ?_
  refine j_ifnullN (pc := 1) C 19 dX9_isPair_1 (by decide) ?_
  refine j_iconst (pc := 19) C (nI 0) dX9_isPair_19 (by decide) ?_
  refine j_topi (bI false) rfl ?_
  exact j_zreturn (pc := 20) C Q dX9_isPair_20 (bI_nar _) (Nat.le_of_ble_eq_true rfl) (Nat.le_of_ble_eq_true rfl) (⟨rfl, rfl⟩)
set_option maxHeartbeats 4000000 in
set_option maxRecDepth 100000 in
theorem c_X9_isPair_rn (L9 : Launch) (w9 : Wd) {σ : HS}  {S : SP} (hw : WF S) (hc : CI S σ) {v bv : Nat} (hbv : At σ (8, v) bv) {a b : Nat} : MJ L9 w9 yX9_isPair cX9_isPair 4 (some .boolean) ({ frames := 0, cells := 0, slots := 0, locals := 0 } : Room) [.ref bv, .null, .int (nI a), .int (nI b)] σ (fun a9 σ' => a9 = some (.int (bI (false))) ∧ σ' = σ) := by
  refine MJ.of (by decide +kernel) (Nat.le_of_ble_eq_true rfl) (fun X hX1 hX2 C Q hinit => ?_)
  subst hX1; subst hX2
  show J X 0 0 σ [(0, .ref bv), (1, .null), (2, .int (nI a)), (3, .int (nI b))] [] 0
  obtain ⟨hp, he, hx, hf9, hd⟩ := id hc
  have gS := hw.1.1
  refine j_aload_n (pc := 0) C dX9_isPair_0 rfl 0 rfl ?_
  refine j_ifnull (pc := 1) C dX9_isPair_1 ?_
  refine j_aload_nN (pc := 4) C dX9_isPair_4 rfl 1 rfl ?_
  refine j_ifnullN (pc := 5) C 19 dX9_isPair_5 (by decide) ?_
  refine j_iconst (pc := 19) C (nI 0) dX9_isPair_19 (by decide) ?_
  refine j_topi (bI false) rfl ?_
  exact j_zreturn (pc := 20) C Q dX9_isPair_20 (bI_nar _) (Nat.le_of_ble_eq_true rfl) (Nat.le_of_ble_eq_true rfl) (⟨rfl, rfl⟩)
set_option maxHeartbeats 4000000 in
set_option maxRecDepth 100000 in
theorem c_X9_isPair_rr (L9 : Launch) (w9 : Wd) {σ : HS}  {S : SP} (hw : WF S) (hc : CI S σ) {v bv w bw : Nat} (hbv : At σ (8, v) bv) (hbw : At σ (8, w) bw) (hv : v < nW S) (hv9 : w < nW S) (k1 : hd9 S v = 1) (k2 : hd9 S w = 1) {a b : Nat} (ha : a < nS S) (hb : b < nS S) (hab : a ≠ b) : MJ L9 w9 yX9_isPair cX9_isPair 4 (some .boolean) ({ frames := 2, cells := 0, slots := 0, locals := 51 } : Room) [.ref bv, .ref bw, .int (nI a), .int (nI b)] σ (fun a9 σ' => a9 = some (.int (bI (isPair9 S v w a b))) ∧ σ' = σ) := by
  refine MJ.of (by decide +kernel) (Nat.le_of_ble_eq_true rfl) (fun X hX1 hX2 C Q hinit => ?_)
  subst hX1; subst hX2
  show J X 0 0 σ [(0, .ref bv), (1, .ref bw), (2, .int (nI a)), (3, .int (nI b))] [] 0
  obtain ⟨hp, he, hx, hf9, hd⟩ := id hc
  have gS := hw.1.1
  have hip := pair_ap S hw v w a b hab
  refine j_aload_n (pc := 0) C dX9_isPair_0 rfl 0 rfl ?_
  refine j_ifnull (pc := 1) C dX9_isPair_1 ?_
  refine j_aload_n (pc := 4) C dX9_isPair_4 rfl 1 rfl ?_
  refine j_ifnull (pc := 5) C dX9_isPair_5 ?_
  refine j_aload_n (pc := 8) C dX9_isPair_8 rfl 0 rfl ?_
  refine j_getA (pc := 9) C fp_X9_211 hbv rfl (f := 512) rfl (4, ol S v) (hG σ (4, ol S v)) ((hx.2.2.2.1.2.1 v hv).1) (⟨hx.2.1.1.live (hw.2.2.2.1.2.2 v hv).1, rfl⟩ : At _ (4, ol S v) _) dX9_isPair_9 ?_
  refine j_aload_n (pc := 12) C dX9_isPair_12 rfl 1 rfl ?_
  refine j_getA (pc := 13) C fp_X9_211 hbw rfl (f := 512) rfl (4, ol S w) (hG σ (4, ol S w)) ((hx.2.2.2.1.2.1 w hv9).1) (⟨hx.2.1.1.live (hw.2.2.2.1.2.2 w hv9).1, rfl⟩ : At _ (4, ol S w) _) dX9_isPair_13 ?_
  refine jt_acmp_ne (pc := 16) C 21 (⟨hx.2.1.1.live (hw.2.2.2.1.2.2 v hv).1, rfl⟩ : At _ (4, ol S v) _) (⟨hx.2.1.1.live (hw.2.2.2.1.2.2 w hv9).1, rfl⟩ : At _ (4, ol S w) _) dX9_isPair_16 (by decide) (fun c1 => ?_) (fun c1 => ?_)
  · have c2 : ol S v ≠ ol S w := fun z => c1 (by rw [z])
    rw [decide_eq_true ⟨k1, k2, c2⟩, Bool.true_and] at hip
    refine j_aload_n (pc := 21) C dX9_isPair_21 rfl 0 rfl ?_
    refine j_getL (pc := 22) C fp_X9_153 hbv rfl (f := 515) rfl dX9_isPair_22 ?_
    refine j_topl (enc5 (hr S v)) ((hx.2.2.2.1.2.1 v hv).2.2.2.1) ?_
    refine j_aload_n (pc := 25) C dX9_isPair_25 rfl 1 rfl ?_
    refine j_getL (pc := 26) C fp_X9_153 hbw rfl (f := 515) rfl dX9_isPair_26 ?_
    refine j_topl (enc5 (hr S w)) ((hx.2.2.2.1.2.1 w hv9).2.2.2.1) ?_
    refine j_iload_n (pc := 29) C dX9_isPair_29 rfl 2 rfl ?_
    refine j_callS (pc := 30) C [.int (nI a)] [.long (enc5 (hr S w)), .long (enc5 (hr S v))] (rm0 := ({ frames := 2, cells := 0, slots := 0, locals := 51 } : Room)) (k' := 0) (n' := 0) Q.1 (c_X6_codeOf (xl X) (xw X)) mp_X6_codeOf wm_580 rfl rfl (Nat.le_of_ble_eq_true rfl) dX9_isPair_30 ⟨by decide, by decide⟩ ⟨Nat.le_of_ble_eq_true rfl, Nat.le_of_ble_eq_true rfl⟩ rfl rfl (det1 ?_)
    refine j_iload_n (pc := 33) C dX9_isPair_33 rfl 3 rfl ?_
    refine j_callS (pc := 34) C [.int (nI b)] [.int (nI (a + 1)), .long (enc5 (hr S w)), .long (enc5 (hr S v))] (rm0 := ({ frames := 2, cells := 0, slots := 0, locals := 51 } : Room)) (k' := 0) (n' := 0) Q.1 (c_X6_codeOf (xl X) (xw X)) mp_X6_codeOf wm_580 rfl rfl (Nat.le_of_ble_eq_true rfl) dX9_isPair_34 ⟨by decide, by decide⟩ ⟨Nat.le_of_ble_eq_true rfl, Nat.le_of_ble_eq_true rfl⟩ rfl rfl (det1 ?_)
    refine j_callS (pc := 37) C [.long (enc5 (hr S v)), .long (enc5 (hr S w)), .int (nI (a + 1)), .int (nI (b + 1))] [] (rm0 := ({ frames := 2, cells := 0, slots := 0, locals := 51 } : Room)) (k' := 0) (n' := 0) Q.1 (c_X6_areApartBy (xl X) (xw X) (okR_hr hw v) (okR_hr hw w) (by omega) (by omega)) mp_X6_areApartBy wm_1009 rfl rfl (Nat.le_of_ble_eq_true rfl) dX9_isPair_37 ⟨by decide, by decide⟩ ⟨Nat.le_of_ble_eq_true rfl, Nat.le_of_ble_eq_true rfl⟩ rfl rfl (det1 ?_)
    refine j_topi (bI (isPair9 S v w a b)) (by rw [hip]) ?_
    exact j_zreturn (pc := 40) C Q dX9_isPair_40 (bI_nar _) (Nat.le_of_ble_eq_true rfl) (Nat.le_of_ble_eq_true rfl) (⟨rfl, rfl⟩)
  · have c2 : ol S v = ol S w := congrArg Prod.snd c1
    rw [decide_eq_false (fun z => z.2.2 c2), Bool.false_and] at hip
    refine j_iconst (pc := 19) C (nI 0) dX9_isPair_19 (by decide) ?_
    refine j_topi (bI (isPair9 S v w a b)) (by rw [hip]; rfl) ?_
    exact j_zreturn (pc := 20) C Q dX9_isPair_20 (bI_nar _) (Nat.le_of_ble_eq_true rfl) (Nat.le_of_ble_eq_true rfl) (⟨rfl, rfl⟩)
theorem prP_dead {S : SP} {a b v w : Nat} (h : hd9 S v ≠ 1 ∨ hd9 S w ≠ 1) : prP S a b v w = false := by
  unfold prP isPair9
  rw [decide_eq_false (show ¬ (hd9 S v = 1 ∧ hd9 S w = 1 ∧ ol S v ≠ ol S w ∧ (hr S v).length = (hr S w).length) from fun z => h.elim (fun q => q z.1) (fun q => q z.2.1)), Bool.false_and, Bool.false_and, Bool.and_false]
theorem prP_live {S : SP} {a b v w : Nat} (h : v < w) : prP S a b v w = isPair9 S v w a b := by
  unfold prP
  rw [decide_eq_true h, Bool.true_and]
theorem pairs_le (S : SP) (a b n : Nat) (hn : nW S ≤ 40) : ∀ k, fb_sm (fun v => fb_ct (prP S a b v) (nW S)) k ≤ 40 * k := fun k => by
  have := fb_sm_bound (f := fun v => fb_ct (prP S a b v) (nW S)) (c := 40) (n := k) (fun v _ => Nat.le_trans (fb_ct_le _ _) hn)
  omega
set_option maxHeartbeats 4000000 in
set_option maxRecDepth 100000 in
theorem c_X9_pairs_0 (L9 : Launch) (w9 : Wd) {σ : HS} {S : SP} (hw : WF S) (hc : CI S σ) {a0 : Nat} (ha0 : At σ (9, 0) a0) {a b : Nat} (ha : a < nS S) (hb : b < nS S) (hab : a ≠ b) : MJ L9 w9 yX9_pairs cX9_pairs 7 (some .int) ({ frames := 4, cells := 0, slots := 0, locals := 86 } : Room) [.ref a0, .int (nI a), .int (nI b)] σ (fun a9 σ' => a9 = some (.int (nI (pairs9 S a b))) ∧ σ' = σ) := by
  refine MJ.of (by decide +kernel) (Nat.le_of_ble_eq_true rfl) (fun X hX1 hX2 C Q hinit => ?_)
  subst hX1; subst hX2
  show J X 0 0 σ [(0, .ref a0), (1, .int (nI a)), (2, .int (nI b))] [] 0
  obtain ⟨hp, he, hx, hf9, hd⟩ := id hc
  obtain ⟨z1, z2, z3, z4⟩ := id hf9
  obtain ⟨ef, e1, e2⟩ := id he
  have gS := hw.1.1
  have gC := hw.1.2.2.2.1
  have gR := hw.2.1.1
  have gL := hw.2.2.1.1
  have gW := hw.2.2.2.1.1
  have gD := hw.2.2.2.2.1
  refine j_aload_n (pc := 0) C dX9_pairs_0 rfl 0 rfl ?_
  refine j_iload_n (pc := 1) C dX9_pairs_1 rfl 1 rfl ?_
  refine j_callV (pc := 2) C [.int (nI a)] [] (rm0 := ({ frames := 4, cells := 0, slots := 0, locals := 86 } : Room)) (k' := 0) (n' := 0) Q.1 (c_X9_checkSound_t (xl X) (xw X) hw hc ha0 ha) mp_X9_checkSound wm_561 ha0 rfl rfl (by decide) rfl rfl (Nat.le_of_ble_eq_true rfl) dX9_pairs_2 ⟨by decide, by decide⟩ ⟨Nat.le_of_ble_eq_true rfl, Nat.le_of_ble_eq_true rfl⟩ rfl rfl (det0 ?_)
  refine j_aload_n (pc := 5) C dX9_pairs_5 rfl 0 rfl ?_
  refine j_iload_n (pc := 6) C dX9_pairs_6 rfl 2 rfl ?_
  refine j_callV (pc := 7) C [.int (nI b)] [] (rm0 := ({ frames := 4, cells := 0, slots := 0, locals := 86 } : Room)) (k' := 0) (n' := 0) Q.1 (c_X9_checkSound_t (xl X) (xw X) hw hc ha0 hb) mp_X9_checkSound wm_561 ha0 rfl rfl (by decide) rfl rfl (Nat.le_of_ble_eq_true rfl) dX9_pairs_7 ⟨by decide, by decide⟩ ⟨Nat.le_of_ble_eq_true rfl, Nat.le_of_ble_eq_true rfl⟩ rfl rfl (det0 ?_)
  refine j_iload_n (pc := 10) C dX9_pairs_10 rfl 1 rfl ?_
  refine j_iload_n (pc := 11) C dX9_pairs_11 rfl 2 rfl ?_
  refine jn_icmp_ne (pc := 12) C 23 (a := a) (b := b) (by omega) (by omega) dX9_pairs_12 (by decide) (fun c0 => ?_) (fun c0 => (hab c0 : False).elim)
  refine j_iconst (pc := 23) C (nI 0) dX9_pairs_23 (by decide) ?_
  refine j_istore_n (pc := 24) C [(3, .int (nI 0)), (0, .ref a0), (1, .int (nI a)), (2, .int (nI b))] dX9_pairs_24 rfl (by decide) rfl ?_
  refine j_iconst (pc := 25) C (nI 0) dX9_pairs_25 (by decide) ?_
  refine j_istore (pc := 26) C [(4, .int (nI 0)), (3, .int (nI 0)), (0, .ref a0), (1, .int (nI a)), (2, .int (nI b))] dX9_pairs_26 (by decide) rfl ?_
  have loop : ∀ (f : Nat) (k : Nat), (k ≤ nW S) → (nW S < k + f) → J X 0 0 σ [(4, .int (nI k)), (3, .int (nI (fb_sm (fun v => fb_ct (prP S a b v) (nW S)) k))), (0, .ref a0), (1, .int (nI a)), (2, .int (nI b))] [] 28 := by
    intro f
    induction f with
    | zero => intro k h1 h2; exact absurd h2 (by omega)
    | succ f ih =>
      intro k h1 h2
      have hle := pairs_le S a b 0 gW k
      refine j_iload (pc := 28) C dX9_pairs_28 0 rfl ?_
      refine j_aload_n (pc := 30) C dX9_pairs_30 rfl 2 rfl ?_
      refine j_getA (pc := 31) C fp_X9_19 ha0 rfl (f := 577) rfl (5, 0) (hG σ (5, 0)) z3 (⟨hx.1.1, rfl⟩ : At _ (5, 0) _) dX9_pairs_31 ?_
      refine j_callV (pc := 34) C [] [.int (nI k)] (rm0 := ({ frames := 4, cells := 0, slots := 0, locals := 86 } : Room)) (k' := 0) (n' := 0) Q.1 (c_X4_wordCount (xl X) (xw X) hw hx (⟨hx.1.1, rfl⟩ : At _ (5, 0) _)) mp_X4_wordCount wm_243 (⟨hx.1.1, rfl⟩ : At _ (5, 0) _) rfl rfl (by decide) rfl rfl (Nat.le_of_ble_eq_true rfl) dX9_pairs_34 ⟨by decide, by decide⟩ ⟨Nat.le_of_ble_eq_true rfl, Nat.le_of_ble_eq_true rfl⟩ rfl rfl (det1 ?_)
      refine jn_icmp_ge (pc := 37) C 103 (a := k) (b := nW S) (by omega) (by omega) dX9_pairs_37 (by decide) (fun c1 => ?_) (fun c1 => ?_)
      · have e9 : k = nW S := Nat.le_antisymm h1 c1
        refine j_iload_n (pc := 103) C dX9_pairs_103 rfl 1 rfl ?_
        refine j_topi (nI (pairs9 S a b)) (by rw [e9]; rfl) ?_
        exact j_ireturn (pc := 104) C Q dX9_pairs_104 (Nat.le_of_ble_eq_true rfl) (Nat.le_of_ble_eq_true rfl) (⟨rfl, rfl⟩)
      · refine j_aload_n (pc := 40) C dX9_pairs_40 rfl 2 rfl ?_
        refine j_getA (pc := 41) C fp_X9_19 ha0 rfl (f := 577) rfl (5, 0) (hG σ (5, 0)) z3 (⟨hx.1.1, rfl⟩ : At _ (5, 0) _) dX9_pairs_41 ?_
        refine j_iload (pc := 44) C dX9_pairs_44 0 rfl ?_
        by_cases c2 : hd9 S k = 1
        · refine j_callV (pc := 46) C [.int (nI k)] [] (rm0 := ({ frames := 4, cells := 0, slots := 0, locals := 86 } : Room)) (k' := 0) (n' := 0) Q.1 (c_X4_wordNumbered_t (xl X) (xw X) (o := ol S) gW hx.1 hx.2.2.2.1 (⟨hx.1.1, rfl⟩ : At _ (5, 0) _) c1 c2) mp_X4_wordNumbered wm_248 (⟨hx.1.1, rfl⟩ : At _ (5, 0) _) rfl rfl (by decide) rfl rfl (Nat.le_of_ble_eq_true rfl) dX9_pairs_46 ⟨by decide, by decide⟩ ⟨Nat.le_of_ble_eq_true rfl, Nat.le_of_ble_eq_true rfl⟩ rfl rfl (det1 ?_)
          refine j_astore (pc := 49) C [(5, .ref (hG σ (8, k))), (4, .int (nI k)), (3, .int (nI (fb_sm (fun v => fb_ct (prP S a b v) (nW S)) k))), (0, .ref a0), (1, .int (nI a)), (2, .int (nI b))] dX9_pairs_49 (by decide) rfl ?_
          refine j_iload (pc := 51) C dX9_pairs_51 1 rfl ?_
          refine j_iconst (pc := 53) C (nI 1) dX9_pairs_53 (by decide) ?_
          refine j_iadd (pc := 54) C dX9_pairs_54 ?_
          refine j_topi (nI (k + 1)) (nI_add k 1) ?_
          refine j_istore (pc := 55) C [(6, .int (nI (k + 1))), (5, .ref (hG σ (8, k))), (4, .int (nI k)), (3, .int (nI (fb_sm (fun v => fb_ct (prP S a b v) (nW S)) k))), (0, .ref a0), (1, .int (nI a)), (2, .int (nI b))] dX9_pairs_55 (by decide) rfl ?_
          have loop2 : ∀ (f2 : Nat) (j : Nat), (j ≤ nW S ∧ k < j) → (nW S < j + f2) → J X 0 0 σ [(6, .int (nI j)), (5, .ref (hG σ (8, k))), (4, .int (nI k)), (3, .int (nI (fb_sm (fun v => fb_ct (prP S a b v) (nW S)) k + fb_ct (prP S a b k) j))), (0, .ref a0), (1, .int (nI a)), (2, .int (nI b))] [] 57 := by
            intro f2
            induction f2 with
            | zero => intro j g1 g2; exact absurd g2 (by omega)
            | succ f2 ih2 =>
              intro j g1 g2
              have hle2 := fb_ct_le (prP S a b k) j
              refine j_iload (pc := 57) C dX9_pairs_57 0 rfl ?_
              refine j_aload_n (pc := 59) C dX9_pairs_59 rfl 4 rfl ?_
              refine j_getA (pc := 60) C fp_X9_19 ha0 rfl (f := 577) rfl (5, 0) (hG σ (5, 0)) z3 (⟨hx.1.1, rfl⟩ : At _ (5, 0) _) dX9_pairs_60 ?_
              refine j_callV (pc := 63) C [] [.int (nI j)] (rm0 := ({ frames := 4, cells := 0, slots := 0, locals := 86 } : Room)) (k' := 0) (n' := 0) Q.1 (c_X4_wordCount (xl X) (xw X) hw hx (⟨hx.1.1, rfl⟩ : At _ (5, 0) _)) mp_X4_wordCount wm_243 (⟨hx.1.1, rfl⟩ : At _ (5, 0) _) rfl rfl (by decide) rfl rfl (Nat.le_of_ble_eq_true rfl) dX9_pairs_63 ⟨by decide, by decide⟩ ⟨Nat.le_of_ble_eq_true rfl, Nat.le_of_ble_eq_true rfl⟩ rfl rfl (det1 ?_)
              refine jn_icmp_ge (pc := 66) C 97 (a := j) (b := nW S) (by omega) (by omega) dX9_pairs_66 (by decide) (fun d1 => ?_) (fun d1 => ?_)
              · have e9 : j = nW S := Nat.le_antisymm g1.1 d1
                refine j_iinc (pc := 97) C (nI (k + 1)) [(4, .int (nI (k + 1))), (6, .int (nI j)), (5, .ref (hG σ (8, k))), (3, .int (nI (fb_sm (fun v => fb_ct (prP S a b v) (nW S)) k + fb_ct (prP S a b k) j))), (0, .ref a0), (1, .int (nI a)), (2, .int (nI b))] dX9_pairs_97 2 rfl (nI_add k 1) (by decide) rfl ?_
                refine j_goto (pc := 100) C 28 dX9_pairs_100 (by decide) ?_
                have l0 := ih (k + 1) (by omega) (by omega)
                rw [fb_sm_succ] at l0
                rw [e9]
                exact J.to [0, 3, 4, 5, 6] rfl l0
              · refine j_aload (pc := 69) C dX9_pairs_69 1 rfl ?_
                refine j_aload_n (pc := 71) C dX9_pairs_71 rfl 4 rfl ?_
                refine j_getA (pc := 72) C fp_X9_19 ha0 rfl (f := 577) rfl (5, 0) (hG σ (5, 0)) z3 (⟨hx.1.1, rfl⟩ : At _ (5, 0) _) dX9_pairs_72 ?_
                refine j_iload (pc := 75) C dX9_pairs_75 0 rfl ?_
                by_cases d2 : hd9 S j = 1
                · refine j_callV (pc := 77) C [.int (nI j)] [.ref (hG σ (8, k))] (rm0 := ({ frames := 4, cells := 0, slots := 0, locals := 86 } : Room)) (k' := 0) (n' := 0) Q.1 (c_X4_wordNumbered_t (xl X) (xw X) (o := ol S) gW hx.1 hx.2.2.2.1 (⟨hx.1.1, rfl⟩ : At _ (5, 0) _) d1 d2) mp_X4_wordNumbered wm_248 (⟨hx.1.1, rfl⟩ : At _ (5, 0) _) rfl rfl (by decide) rfl rfl (Nat.le_of_ble_eq_true rfl) dX9_pairs_77 ⟨by decide, by decide⟩ ⟨Nat.le_of_ble_eq_true rfl, Nat.le_of_ble_eq_true rfl⟩ rfl rfl (det1 ?_)
                  refine j_iload_n (pc := 80) C dX9_pairs_80 rfl 5 rfl ?_
                  refine j_iload_n (pc := 81) C dX9_pairs_81 rfl 6 rfl ?_
                  refine j_callS (pc := 82) C [.ref (hG σ (8, k)), .ref (hG σ (8, j)), .int (nI a), .int (nI b)] [] (rm0 := ({ frames := 4, cells := 0, slots := 0, locals := 86 } : Room)) (k' := 0) (n' := 0) Q.1 (c_X9_isPair_rr (xl X) (xw X) hw hc ⟨hx.2.2.2.1.1.live c1, rfl⟩ ⟨hx.2.2.2.1.1.live d1, rfl⟩ c1 d1 c2 d2 ha hb hab) mp_X9_isPair wm_1006 rfl rfl (Nat.le_of_ble_eq_true rfl) dX9_pairs_82 ⟨by decide, by decide⟩ ⟨Nat.le_of_ble_eq_true rfl, Nat.le_of_ble_eq_true rfl⟩ rfl rfl (det1 ?_)
                  refine jb_if_eq (pc := 85) C 91 (b := isPair9 S k j a b) dX9_pairs_85 (by decide) (fun d3 => ?_) (fun d3 => ?_)
                  · refine j_iinc (pc := 91) C (nI (j + 1)) [(6, .int (nI (j + 1))), (5, .ref (hG σ (8, k))), (4, .int (nI k)), (3, .int (nI (fb_sm (fun v => fb_ct (prP S a b v) (nW S)) k + fb_ct (prP S a b k) j))), (0, .ref a0), (1, .int (nI a)), (2, .int (nI b))] dX9_pairs_91 0 rfl (nI_add j 1) (by decide) rfl ?_
                    refine j_goto (pc := 94) C 57 dX9_pairs_94 (by decide) ?_
                    have l0 := ih2 (j + 1) (by omega) (by omega)
                    rw [show fb_ct (prP S a b k) (j + 1) = fb_ct (prP S a b k) j from by rw [fb_ct_succ, show prP S a b k j = false from ((prP_live g1.2).trans d3)]; rfl] at l0
                    exact J.to [0, 1, 2, 3, 4, 5, 6] rfl l0
                  · refine j_iinc (pc := 88) C (nI (fb_sm (fun v => fb_ct (prP S a b v) (nW S)) k + fb_ct (prP S a b k) j + 1)) [(3, .int (nI (fb_sm (fun v => fb_ct (prP S a b v) (nW S)) k + fb_ct (prP S a b k) j + 1))), (6, .int (nI j)), (5, .ref (hG σ (8, k))), (4, .int (nI k)), (0, .ref a0), (1, .int (nI a)), (2, .int (nI b))] dX9_pairs_88 3 rfl (nI_add (fb_sm (fun v => fb_ct (prP S a b v) (nW S)) k + fb_ct (prP S a b k) j) 1) (by decide) rfl ?_
                    refine j_iinc (pc := 91) C (nI (j + 1)) [(6, .int (nI (j + 1))), (3, .int (nI (fb_sm (fun v => fb_ct (prP S a b v) (nW S)) k + fb_ct (prP S a b k) j + 1))), (5, .ref (hG σ (8, k))), (4, .int (nI k)), (0, .ref a0), (1, .int (nI a)), (2, .int (nI b))] dX9_pairs_91 1 rfl (nI_add j 1) (by decide) rfl ?_
                    refine j_goto (pc := 94) C 57 dX9_pairs_94 (by decide) ?_
                    have l0 := ih2 (j + 1) (by omega) (by omega)
                    rw [show fb_ct (prP S a b k) (j + 1) = fb_ct (prP S a b k) j + 1 from by rw [fb_ct_succ, show prP S a b k j = true from ((prP_live g1.2).trans d3)]; rfl, ← Nat.add_assoc] at l0
                    exact J.to [0, 2, 3, 1, 4, 5, 6] rfl l0
                · refine j_callV (pc := 77) C [.int (nI j)] [.ref (hG σ (8, k))] (rm0 := ({ frames := 4, cells := 0, slots := 0, locals := 86 } : Room)) (k' := 0) (n' := 0) Q.1 (c_X4_wordNumbered_f (xl X) (xw X) (o := ol S) gW hx.1 hx.2.2.2.1 (⟨hx.1.1, rfl⟩ : At _ (5, 0) _) (x := nI j) (by rw [isWrd_nI (by omega), decide_eq_false d2, Bool.and_false])) mp_X4_wordNumbered wm_248 (⟨hx.1.1, rfl⟩ : At _ (5, 0) _) rfl rfl (by decide) rfl rfl (Nat.le_of_ble_eq_true rfl) dX9_pairs_77 ⟨by decide, by decide⟩ ⟨Nat.le_of_ble_eq_true rfl, Nat.le_of_ble_eq_true rfl⟩ rfl rfl (det1 ?_)
                  refine j_iload_n (pc := 80) C dX9_pairs_80 rfl 5 rfl ?_
                  refine j_iload_n (pc := 81) C dX9_pairs_81 rfl 6 rfl ?_
                  refine j_callS (pc := 82) C [.ref (hG σ (8, k)), .null, .int (nI a), .int (nI b)] [] (rm0 := ({ frames := 4, cells := 0, slots := 0, locals := 86 } : Room)) (k' := 0) (n' := 0) Q.1 (c_X9_isPair_rn (xl X) (xw X) hw hc ⟨hx.2.2.2.1.1.live c1, rfl⟩) mp_X9_isPair wm_1006 rfl rfl (Nat.le_of_ble_eq_true rfl) dX9_pairs_82 ⟨by decide, by decide⟩ ⟨Nat.le_of_ble_eq_true rfl, Nat.le_of_ble_eq_true rfl⟩ rfl rfl (det1 ?_)
                  refine j_if_eq (pc := 85) C 91 dX9_pairs_85 (by decide) (fun _ => ?_) (fun q => absurd q (by decide))
                  refine j_iinc (pc := 91) C (nI (j + 1)) [(6, .int (nI (j + 1))), (5, .ref (hG σ (8, k))), (4, .int (nI k)), (3, .int (nI (fb_sm (fun v => fb_ct (prP S a b v) (nW S)) k + fb_ct (prP S a b k) j))), (0, .ref a0), (1, .int (nI a)), (2, .int (nI b))] dX9_pairs_91 0 rfl (nI_add j 1) (by decide) rfl ?_
                  refine j_goto (pc := 94) C 57 dX9_pairs_94 (by decide) ?_
                  have l0 := ih2 (j + 1) (by omega) (by omega)
                  rw [show fb_ct (prP S a b k) (j + 1) = fb_ct (prP S a b k) j from by rw [fb_ct_succ, show prP S a b k j = false from prP_dead (Or.inr d2)]; rfl] at l0
                  exact J.to [0, 1, 2, 3, 4, 5, 6] rfl l0
          have l0 := loop2 (nW S + 1) (k + 1) ⟨by omega, by omega⟩ (by omega)
          rw [prP_low, Nat.add_zero] at l0
          exact J.to [0, 1, 2, 3, 4, 5, 6] rfl l0
        · refine j_callV (pc := 46) C [.int (nI k)] [] (rm0 := ({ frames := 4, cells := 0, slots := 0, locals := 86 } : Room)) (k' := 0) (n' := 0) Q.1 (c_X4_wordNumbered_f (xl X) (xw X) (o := ol S) gW hx.1 hx.2.2.2.1 (⟨hx.1.1, rfl⟩ : At _ (5, 0) _) (x := nI k) (by rw [isWrd_nI (by omega), decide_eq_false c2, Bool.and_false])) mp_X4_wordNumbered wm_248 (⟨hx.1.1, rfl⟩ : At _ (5, 0) _) rfl rfl (by decide) rfl rfl (Nat.le_of_ble_eq_true rfl) dX9_pairs_46 ⟨by decide, by decide⟩ ⟨Nat.le_of_ble_eq_true rfl, Nat.le_of_ble_eq_true rfl⟩ rfl rfl (det1 ?_)
          refine j_astoreN (pc := 49) C [(5, .null), (4, .int (nI k)), (3, .int (nI (fb_sm (fun v => fb_ct (prP S a b v) (nW S)) k))), (0, .ref a0), (1, .int (nI a)), (2, .int (nI b))] dX9_pairs_49 (by decide) rfl ?_
          refine j_iload (pc := 51) C dX9_pairs_51 1 rfl ?_
          refine j_iconst (pc := 53) C (nI 1) dX9_pairs_53 (by decide) ?_
          refine j_iadd (pc := 54) C dX9_pairs_54 ?_
          refine j_topi (nI (k + 1)) (nI_add k 1) ?_
          refine j_istore (pc := 55) C [(6, .int (nI (k + 1))), (5, .null), (4, .int (nI k)), (3, .int (nI (fb_sm (fun v => fb_ct (prP S a b v) (nW S)) k))), (0, .ref a0), (1, .int (nI a)), (2, .int (nI b))] dX9_pairs_55 (by decide) rfl ?_
          have loop2 : ∀ (f2 : Nat) (j : Nat), (j ≤ nW S ∧ k < j) → (nW S < j + f2) → J X 0 0 σ [(6, .int (nI j)), (5, .null), (4, .int (nI k)), (3, .int (nI (fb_sm (fun v => fb_ct (prP S a b v) (nW S)) k + fb_ct (prP S a b k) j))), (0, .ref a0), (1, .int (nI a)), (2, .int (nI b))] [] 57 := by
            intro f2
            induction f2 with
            | zero => intro j g1 g2; exact absurd g2 (by omega)
            | succ f2 ih2 =>
              intro j g1 g2
              have hle2 := fb_ct_le (prP S a b k) j
              refine j_iload (pc := 57) C dX9_pairs_57 0 rfl ?_
              refine j_aload_n (pc := 59) C dX9_pairs_59 rfl 4 rfl ?_
              refine j_getA (pc := 60) C fp_X9_19 ha0 rfl (f := 577) rfl (5, 0) (hG σ (5, 0)) z3 (⟨hx.1.1, rfl⟩ : At _ (5, 0) _) dX9_pairs_60 ?_
              refine j_callV (pc := 63) C [] [.int (nI j)] (rm0 := ({ frames := 4, cells := 0, slots := 0, locals := 86 } : Room)) (k' := 0) (n' := 0) Q.1 (c_X4_wordCount (xl X) (xw X) hw hx (⟨hx.1.1, rfl⟩ : At _ (5, 0) _)) mp_X4_wordCount wm_243 (⟨hx.1.1, rfl⟩ : At _ (5, 0) _) rfl rfl (by decide) rfl rfl (Nat.le_of_ble_eq_true rfl) dX9_pairs_63 ⟨by decide, by decide⟩ ⟨Nat.le_of_ble_eq_true rfl, Nat.le_of_ble_eq_true rfl⟩ rfl rfl (det1 ?_)
              refine jn_icmp_ge (pc := 66) C 97 (a := j) (b := nW S) (by omega) (by omega) dX9_pairs_66 (by decide) (fun d1 => ?_) (fun d1 => ?_)
              · have e9 : j = nW S := Nat.le_antisymm g1.1 d1
                refine j_iinc (pc := 97) C (nI (k + 1)) [(4, .int (nI (k + 1))), (6, .int (nI j)), (5, .null), (3, .int (nI (fb_sm (fun v => fb_ct (prP S a b v) (nW S)) k + fb_ct (prP S a b k) j))), (0, .ref a0), (1, .int (nI a)), (2, .int (nI b))] dX9_pairs_97 2 rfl (nI_add k 1) (by decide) rfl ?_
                refine j_goto (pc := 100) C 28 dX9_pairs_100 (by decide) ?_
                have l0 := ih (k + 1) (by omega) (by omega)
                rw [fb_sm_succ] at l0
                rw [e9]
                exact J.to [0, 3, 4, 5, 6] rfl l0
              · refine j_aloadN (pc := 69) C dX9_pairs_69 1 rfl ?_
                refine j_aload_n (pc := 71) C dX9_pairs_71 rfl 4 rfl ?_
                refine j_getA (pc := 72) C fp_X9_19 ha0 rfl (f := 577) rfl (5, 0) (hG σ (5, 0)) z3 (⟨hx.1.1, rfl⟩ : At _ (5, 0) _) dX9_pairs_72 ?_
                refine j_iload (pc := 75) C dX9_pairs_75 0 rfl ?_
                by_cases d2 : hd9 S j = 1
                · refine j_callV (pc := 77) C [.int (nI j)] [.null] (rm0 := ({ frames := 4, cells := 0, slots := 0, locals := 86 } : Room)) (k' := 0) (n' := 0) Q.1 (c_X4_wordNumbered_t (xl X) (xw X) (o := ol S) gW hx.1 hx.2.2.2.1 (⟨hx.1.1, rfl⟩ : At _ (5, 0) _) d1 d2) mp_X4_wordNumbered wm_248 (⟨hx.1.1, rfl⟩ : At _ (5, 0) _) rfl rfl (by decide) rfl rfl (Nat.le_of_ble_eq_true rfl) dX9_pairs_77 ⟨by decide, by decide⟩ ⟨Nat.le_of_ble_eq_true rfl, Nat.le_of_ble_eq_true rfl⟩ rfl rfl (det1 ?_)
                  refine j_iload_n (pc := 80) C dX9_pairs_80 rfl 5 rfl ?_
                  refine j_iload_n (pc := 81) C dX9_pairs_81 rfl 6 rfl ?_
                  refine j_callS (pc := 82) C [.null, .ref (hG σ (8, j)), .int (nI a), .int (nI b)] [] (rm0 := ({ frames := 4, cells := 0, slots := 0, locals := 86 } : Room)) (k' := 0) (n' := 0) Q.1 (c_X9_isPair_nr (xl X) (xw X) hw hc ⟨hx.2.2.2.1.1.live d1, rfl⟩) mp_X9_isPair wm_1006 rfl rfl (Nat.le_of_ble_eq_true rfl) dX9_pairs_82 ⟨by decide, by decide⟩ ⟨Nat.le_of_ble_eq_true rfl, Nat.le_of_ble_eq_true rfl⟩ rfl rfl (det1 ?_)
                  refine j_if_eq (pc := 85) C 91 dX9_pairs_85 (by decide) (fun _ => ?_) (fun q => absurd q (by decide))
                  refine j_iinc (pc := 91) C (nI (j + 1)) [(6, .int (nI (j + 1))), (5, .null), (4, .int (nI k)), (3, .int (nI (fb_sm (fun v => fb_ct (prP S a b v) (nW S)) k + fb_ct (prP S a b k) j))), (0, .ref a0), (1, .int (nI a)), (2, .int (nI b))] dX9_pairs_91 0 rfl (nI_add j 1) (by decide) rfl ?_
                  refine j_goto (pc := 94) C 57 dX9_pairs_94 (by decide) ?_
                  have l0 := ih2 (j + 1) (by omega) (by omega)
                  rw [show fb_ct (prP S a b k) (j + 1) = fb_ct (prP S a b k) j from by rw [fb_ct_succ, show prP S a b k j = false from prP_dead (Or.inl c2)]; rfl] at l0
                  exact J.to [0, 1, 2, 3, 4, 5, 6] rfl l0
                · refine j_callV (pc := 77) C [.int (nI j)] [.null] (rm0 := ({ frames := 4, cells := 0, slots := 0, locals := 86 } : Room)) (k' := 0) (n' := 0) Q.1 (c_X4_wordNumbered_f (xl X) (xw X) (o := ol S) gW hx.1 hx.2.2.2.1 (⟨hx.1.1, rfl⟩ : At _ (5, 0) _) (x := nI j) (by rw [isWrd_nI (by omega), decide_eq_false d2, Bool.and_false])) mp_X4_wordNumbered wm_248 (⟨hx.1.1, rfl⟩ : At _ (5, 0) _) rfl rfl (by decide) rfl rfl (Nat.le_of_ble_eq_true rfl) dX9_pairs_77 ⟨by decide, by decide⟩ ⟨Nat.le_of_ble_eq_true rfl, Nat.le_of_ble_eq_true rfl⟩ rfl rfl (det1 ?_)
                  refine j_iload_n (pc := 80) C dX9_pairs_80 rfl 5 rfl ?_
                  refine j_iload_n (pc := 81) C dX9_pairs_81 rfl 6 rfl ?_
                  refine j_callS (pc := 82) C [.null, .null, .int (nI a), .int (nI b)] [] (rm0 := ({ frames := 4, cells := 0, slots := 0, locals := 86 } : Room)) (k' := 0) (n' := 0) Q.1 (c_X9_isPair_nn (xl X) (xw X) hw hc) mp_X9_isPair wm_1006 rfl rfl (Nat.le_of_ble_eq_true rfl) dX9_pairs_82 ⟨by decide, by decide⟩ ⟨Nat.le_of_ble_eq_true rfl, Nat.le_of_ble_eq_true rfl⟩ rfl rfl (det1 ?_)
                  refine j_if_eq (pc := 85) C 91 dX9_pairs_85 (by decide) (fun _ => ?_) (fun q => absurd q (by decide))
                  refine j_iinc (pc := 91) C (nI (j + 1)) [(6, .int (nI (j + 1))), (5, .null), (4, .int (nI k)), (3, .int (nI (fb_sm (fun v => fb_ct (prP S a b v) (nW S)) k + fb_ct (prP S a b k) j))), (0, .ref a0), (1, .int (nI a)), (2, .int (nI b))] dX9_pairs_91 0 rfl (nI_add j 1) (by decide) rfl ?_
                  refine j_goto (pc := 94) C 57 dX9_pairs_94 (by decide) ?_
                  have l0 := ih2 (j + 1) (by omega) (by omega)
                  rw [show fb_ct (prP S a b k) (j + 1) = fb_ct (prP S a b k) j from by rw [fb_ct_succ, show prP S a b k j = false from prP_dead (Or.inr d2)]; rfl] at l0
                  exact J.to [0, 1, 2, 3, 4, 5, 6] rfl l0
          have l0 := loop2 (nW S + 1) (k + 1) ⟨by omega, by omega⟩ (by omega)
          rw [prP_low, Nat.add_zero] at l0
          exact J.to [0, 1, 2, 3, 4, 5, 6] rfl l0
  exact J.to [0, 1, 2, 3, 4] rfl (loop (nW S + 1) 0 (Nat.zero_le _) (by omega))
set_option maxHeartbeats 4000000 in
set_option maxRecDepth 100000 in
theorem c_X9_pairs_1 (L9 : Launch) (w9 : Wd) (hst9 : L9.stackTraces = false) {σ : HS} {S : SP} (hw : WF S) (hc : CI S σ) {a0 : Nat} (ha0 : At σ (9, 0) a0) {x y : Int32} (h : (inI x (nS S) && inI y (nS S)) = false) : MX L9 w9 yX9_pairs cX9_pairs 7 (some .int) ({ frames := 7, cells := 1, slots := 6, locals := 102 } : Room) [.ref a0, .int x, .int y] σ (fun _ _ => False) (fun E σ' => E = "java/lang/IndexOutOfBoundsException" ∧ σ' = σ) := by
  refine MX.of (by decide +kernel) (Nat.le_of_ble_eq_true rfl) hst9 (fun X hX1 hX2 C Q NT => ?_)
  subst hX1; subst hX2
  show J X 0 0 σ [(0, .ref a0), (1, .int x), (2, .int y)] [] 0
  obtain ⟨hp, he, hx, hf9, hd⟩ := id hc
  obtain ⟨z1, z2, z3, z4⟩ := id hf9
  obtain ⟨ef, e1, e2⟩ := id he
  have gS := hw.1.1
  have gC := hw.1.2.2.2.1
  have gR := hw.2.1.1
  have gL := hw.2.2.1.1
  have gW := hw.2.2.2.1.1
  have gD := hw.2.2.2.2.1
  by_cases e : inI x (nS S) = true
  · rw [e, Bool.true_and] at h
    obtain ⟨n1, n2⟩ := inI_t e
    generalize xN x = n at n1 n2
    subst n2
    show J X 0 0 σ [(0, .ref a0), (1, .int (nI n)), (2, .int y)] [] 0
    refine j_aload_n (pc := 0) C dX9_pairs_0 rfl 0 rfl ?_
    refine j_iload_n (pc := 1) C dX9_pairs_1 rfl 1 rfl ?_
    refine j_callV (pc := 2) C [.int (nI n)] [] (rm0 := ({ frames := 7, cells := 1, slots := 6, locals := 102 } : Room)) (k' := 0) (n' := 0) Q.1 (c_X9_checkSound_t (xl X) (xw X) hw hc ha0 n1) mp_X9_checkSound wm_561 ha0 rfl rfl (by decide) rfl rfl (Nat.le_of_ble_eq_true rfl) dX9_pairs_2 ⟨by decide, by decide⟩ ⟨Nat.le_of_ble_eq_true rfl, Nat.le_of_ble_eq_true rfl⟩ rfl rfl (det0 ?_)
    refine j_aload_n (pc := 5) C dX9_pairs_5 rfl 0 rfl ?_
    refine j_iload_n (pc := 6) C dX9_pairs_6 rfl 2 rfl ?_
    exact j_callVX (pc := 7) C [.int y] [] (rm0 := ({ frames := 7, cells := 1, slots := 6, locals := 102 } : Room)) (k' := 1) (n' := 6) Q NT (c_X9_checkSound_x (xl X) (xw X) hst9 hw hc ha0 h) mp_X9_checkSound wm_561 ha0 rfl rfl (Nat.le_of_ble_eq_true rfl) rfl rfl (Nat.le_of_ble_eq_true rfl) dX9_pairs_7 ⟨by decide, by decide⟩ ⟨Nat.le_of_ble_eq_true rfl, Nat.le_of_ble_eq_true rfl⟩ rfl rfl (fun _ _ h => h) (fun _ _ h => (h : False).elim)
  · refine j_aload_n (pc := 0) C dX9_pairs_0 rfl 0 rfl ?_
    refine j_iload_n (pc := 1) C dX9_pairs_1 rfl 1 rfl ?_
    exact j_callVX (pc := 2) C [.int x] [] (rm0 := ({ frames := 7, cells := 1, slots := 6, locals := 102 } : Room)) (k' := 1) (n' := 6) Q NT (c_X9_checkSound_x (xl X) (xw X) hst9 hw hc ha0 (ts_nt e)) mp_X9_checkSound wm_561 ha0 rfl rfl (Nat.le_of_ble_eq_true rfl) rfl rfl (Nat.le_of_ble_eq_true rfl) dX9_pairs_2 ⟨by decide, by decide⟩ ⟨Nat.le_of_ble_eq_true rfl, Nat.le_of_ble_eq_true rfl⟩ rfl rfl (fun _ _ h => h) (fun _ _ h => (h : False).elim)
set_option maxHeartbeats 4000000 in
set_option maxRecDepth 100000 in
theorem c_X9_pairs_2 (L9 : Launch) (w9 : Wd) (hst9 : L9.stackTraces = false) {σ : HS} {S : SP} (hw : WF S) (hc : CI S σ) {a0 : Nat} (ha0 : At σ (9, 0) a0) {a : Nat} (ha : a < nS S) : MX L9 w9 yX9_pairs cX9_pairs 7 (some .int) ({ frames := 6, cells := 1, slots := 6, locals := 81 } : Room) [.ref a0, .int (nI a), .int (nI a)] σ (fun _ _ => False) (fun E σ' => E = "java/lang/IllegalArgumentException" ∧ σ' = σ) := by
  refine MX.of (by decide +kernel) (Nat.le_of_ble_eq_true rfl) hst9 (fun X hX1 hX2 C Q NT => ?_)
  subst hX1; subst hX2
  show J X 0 0 σ [(0, .ref a0), (1, .int (nI a)), (2, .int (nI a))] [] 0
  obtain ⟨hp, he, hx, hf9, hd⟩ := id hc
  obtain ⟨z1, z2, z3, z4⟩ := id hf9
  obtain ⟨ef, e1, e2⟩ := id he
  have gS := hw.1.1
  have gC := hw.1.2.2.2.1
  have gR := hw.2.1.1
  have gL := hw.2.2.1.1
  have gW := hw.2.2.2.1.1
  have gD := hw.2.2.2.2.1
  refine j_aload_n (pc := 0) C dX9_pairs_0 rfl 0 rfl ?_
  refine j_iload_n (pc := 1) C dX9_pairs_1 rfl 1 rfl ?_
  refine j_callV (pc := 2) C [.int (nI a)] [] (rm0 := ({ frames := 6, cells := 1, slots := 6, locals := 81 } : Room)) (k' := 0) (n' := 0) Q.1 (c_X9_checkSound_t (xl X) (xw X) hw hc ha0 ha) mp_X9_checkSound wm_561 ha0 rfl rfl (by decide) rfl rfl (Nat.le_of_ble_eq_true rfl) dX9_pairs_2 ⟨by decide, by decide⟩ ⟨Nat.le_of_ble_eq_true rfl, Nat.le_of_ble_eq_true rfl⟩ rfl rfl (det0 ?_)
  refine j_aload_n (pc := 5) C dX9_pairs_5 rfl 0 rfl ?_
  refine j_iload_n (pc := 6) C dX9_pairs_6 rfl 2 rfl ?_
  refine j_callV (pc := 7) C [.int (nI a)] [] (rm0 := ({ frames := 6, cells := 1, slots := 6, locals := 81 } : Room)) (k' := 0) (n' := 0) Q.1 (c_X9_checkSound_t (xl X) (xw X) hw hc ha0 ha) mp_X9_checkSound wm_561 ha0 rfl rfl (by decide) rfl rfl (Nat.le_of_ble_eq_true rfl) dX9_pairs_7 ⟨by decide, by decide⟩ ⟨Nat.le_of_ble_eq_true rfl, Nat.le_of_ble_eq_true rfl⟩ rfl rfl (det0 ?_)
  refine j_iload_n (pc := 10) C dX9_pairs_10 rfl 1 rfl ?_
  refine j_iload_n (pc := 11) C dX9_pairs_11 rfl 2 rfl ?_
  refine jn_icmp_ne (pc := 12) C 23 (a := a) (b := a) (by omega) (by omega) dX9_pairs_12 (by decide) (fun c0 => (c0 rfl : False).elim) (fun c0 => ?_)
  exact j_throw0 (pc := 15) C (rm := ({ frames := 6, cells := 1, slots := 6, locals := 81 } : Room)) Q NT tp_X9_172 dX9_pairs_15 dX9_pairs_18 dX9_pairs_19 dX9_pairs_22 ⟨by decide, by decide, by decide, by decide⟩ ⟨rfl, rfl⟩
