def tgB (t : Tg) : Prop := t.1 = 12 ∧ t.2 = 101
theorem tgB_A {t : Tg} (z : tgA t) : ¬ tgB t := fun q => by
  obtain ⟨q1, q2⟩ := q
  simp only [tgA, tgP, tgC, tgX, tgW, tgD, tgL] at z
  omega
theorem tgB_U {t : Tg} (z : tgB t) : tgU t := Or.inr z
theorem clrS_all {m s j : Nat} (hm : m < 2 ^ 64) : (m &&& (2 ^ s ^^^ (2 ^ 64 - 1))).testBit j = (m.testBit j && decide (j ≠ s)) := by
  by_cases hj : j < 64
  · exact clrS_bit hj
  · have e : m.testBit j = false := Nat.testBit_lt_two_pow (Nat.lt_of_lt_of_le hm (Nat.pow_le_pow_right (by decide) (by omega)))
    rw [Nat.testBit_and, e, Bool.false_and, Bool.false_and]
theorem ft_start {S : SP} {m k : Nat} (hb : ∀ j, m.testBit j = ftB S k j) : ∀ j, m.testBit j = (ftB S k j && (decide (0 ≤ j) || fitsBy S k j)) := fun j => by
  rw [hb j, decide_eq_true (Nat.zero_le j), Bool.true_or, Bool.and_true]
theorem ft_same {S : SP} {m k s : Nat} (gb : ∀ j, m.testBit j = (ftB S k j && (decide (s ≤ j) || fitsBy S k j))) (h : fitsBy S k s = true) : ∀ j, m.testBit j = (ftB S k j && (decide (s + 1 ≤ j) || fitsBy S k j)) := fun j => by
  rw [gb j]
  by_cases e : j = s
  · rw [e, h, Bool.or_true, Bool.or_true]
  · rw [show decide (s ≤ j) = decide (s + 1 ≤ j) from decide_eq_decide.mpr (by omega)]
theorem ft_clr {S : SP} {m k s : Nat} (hm : m < 2 ^ 64) (gb : ∀ j, m.testBit j = (ftB S k j && (decide (s ≤ j) || fitsBy S k j))) (h : fitsBy S k s = false) : ∀ j, (m &&& (2 ^ s ^^^ (2 ^ 64 - 1))).testBit j = (ftB S k j && (decide (s + 1 ≤ j) || fitsBy S k j)) := fun j => by
  rw [clrS_all hm, gb j]
  by_cases e : j = s
  · rw [e, h, decide_eq_false (show ¬ s ≠ s from fun z => z rfl), decide_eq_false (show ¬ s + 1 ≤ s by omega), Bool.and_false]
    exact (Bool.and_false _).symm
  · rw [decide_eq_true (show j ≠ s from e), Bool.and_true, show decide (s ≤ j) = decide (s + 1 ≤ j) from decide_eq_decide.mpr (by omega)]
theorem ft_done {S : SP} {m k : Nat} (hb : bare S k = true) (gb : ∀ j, m.testBit j = (ftB S k j && (decide (2 ^ nR S ≤ j) || fitsBy S k j))) : ∀ j, m.testBit j = ftB S (k + 1) j := fun j => by
  rw [gb j, ftB_succ, hb]
  by_cases e : j < 2 ^ nR S
  · rw [decide_eq_false (show ¬ 2 ^ nR S ≤ j by omega)]; rfl
  · have z : ftB S k j = false := by unfold ftB; rw [decide_eq_false e]; rfl
    rw [z]; rfl
set_option maxHeartbeats 4000000 in
set_option maxRecDepth 100000 in
theorem c_X9_isSetIn (L9 : Launch) (w9 : Wd) {σ : HS}  {m s : Nat} (hm : m < 2 ^ 64) (hs : s < 64) : MJ L9 w9 yX9_isSetIn cX9_isSetIn 3 (some .boolean) ({ frames := 0, cells := 0, slots := 0, locals := 0 } : Room) [.int (nI s), .long (lN m)] σ (fun a9 σ' => a9 = some (.int (bI (m.testBit s))) ∧ σ' = σ) := by
  refine MJ.of (by decide +kernel) (Nat.le_of_ble_eq_true rfl) (fun X hX1 hX2 C Q hinit => ?_)
  subst hX1; subst hX2
  show J X 0 0 σ [(0, .int (nI s)), (1, .long (lN m))] [] 0
  refine j_lload_n (pc := 0) C dX9_isSetIn_0 rfl 1 rfl ?_
  refine j_iload_n (pc := 1) C dX9_isSetIn_1 rfl 0 rfl ?_
  refine j_lushr (pc := 2) C dX9_isSetIn_2 ?_
  refine j_lconst (pc := 3) C (lN 1) dX9_isSetIn_3 (by decide) ?_
  refine j_land (pc := 4) C dX9_isSetIn_4 ?_
  refine j_topl (lN (m.testBit s).toNat) (ubitL hm hs) ?_
  refine j_lconst (pc := 5) C (lN 0) dX9_isSetIn_5 (by decide) ?_
  refine j_lcmp (pc := 6) C dX9_isSetIn_6 ?_
  refine jl_if_eq (pc := 7) C 14 dX9_isSetIn_7 (by decide) (fun c1 => ?_) (fun c1 => ?_)
  · refine j_iconst (pc := 14) C (nI 0) dX9_isSetIn_14 (by decide) ?_
    refine j_topi (bI (m.testBit s)) (by rw [bitz.mp c1]; rfl) ?_
    exact j_zreturn (pc := 15) C Q dX9_isSetIn_15 (bI_nar _) (Nat.le_of_ble_eq_true rfl) (Nat.le_of_ble_eq_true rfl) (⟨rfl, rfl⟩)
  · refine j_iconst (pc := 10) C (nI 1) dX9_isSetIn_10 (by decide) ?_
    refine j_goto (pc := 11) C 15 dX9_isSetIn_11 (by decide) ?_
    refine j_topi (bI (m.testBit s)) (by rw [ts_nf (fun z => c1 (bitz.mpr z))]; rfl) ?_
    exact j_zreturn (pc := 15) C Q dX9_isSetIn_15 (bI_nar _) (Nat.le_of_ble_eq_true rfl) (Nat.le_of_ble_eq_true rfl) (⟨rfl, rfl⟩)
set_option maxHeartbeats 4000000 in
set_option maxRecDepth 100000 in
theorem c_X9_isWordOfLowerSet (L9 : Launch) (w9 : Wd) {σ : HS} {S : SP} (hw : WF S) (hc : CI S σ) {a0 : Nat} (ha0 : At σ (9, 0) a0) {row : List Nat} (hrow : okS S row) {m s : Nat} (hm : m < 2 ^ 64) (hms : ∀ j, m.testBit j = true → j < 2 ^ nR S) (hs : m.testBit s = true) (hB : ∀ j, j < 2 ^ nR S → hL σ 768 101 j = enc5 (der S j row)) : MJ L9 w9 yX9_isWordOfLowerSet cX9_isWordOfLowerSet 5 (some .boolean) ({ frames := 1, cells := 0, slots := 0, locals := 22 } : Room) [.ref a0, .int (nI s), .long (lN m)] σ (fun a9 σ' => a9 = some (.int (bI (anyB (fun k => m.testBit k && decide (der S k row = der S s row)) s))) ∧ σ' = σ) := by
  refine MJ.of (by decide +kernel) (Nat.le_of_ble_eq_true rfl) (fun X hX1 hX2 C Q hinit => ?_)
  subst hX1; subst hX2
  show J X 0 0 σ [(0, .ref a0), (1, .int (nI s)), (2, .long (lN m))] [] 0
  obtain ⟨hp, he, hx, hf9, hd⟩ := id hc
  obtain ⟨z1, z2, z3, z4⟩ := id hf9
  obtain ⟨ef, e1, e2⟩ := id he
  have gS := hw.1.1
  have gC := hw.1.2.2.2.1
  have gR := hw.2.1.1
  have gL := hw.2.2.1.1
  have gW := hw.2.2.2.1.1
  have gD := hw.2.2.2.2.1
  have g64 := pow_R hw
  have hs9 := hms s hs
  refine j_iconst (pc := 0) C (nI 0) dX9_isWordOfLowerSet_0 (by decide) ?_
  refine j_istore (pc := 1) C [(4, .int (nI 0)), (0, .ref a0), (1, .int (nI s)), (2, .long (lN m))] dX9_isWordOfLowerSet_1 (by decide) rfl ?_
  have loop : ∀ (f : Nat) (k : Nat), (k ≤ s) → (s < k + f) → (anyB (fun k => m.testBit k && decide (der S k row = der S s row)) k = false) → J X 0 0 σ [(4, .int (nI k)), (0, .ref a0), (1, .int (nI s)), (2, .long (lN m))] [] 3 := by
    intro f
    induction f with
    | zero => intro k h1 h2 h3; exact absurd h2 (by omega)
    | succ f ih =>
      intro k h1 h2 h3
      refine j_iload (pc := 3) C dX9_isWordOfLowerSet_3 0 rfl ?_
      refine j_iload_n (pc := 5) C dX9_isWordOfLowerSet_5 rfl 2 rfl ?_
      refine jn_icmp_ge (pc := 6) C 47 (a := k) (b := s) (by omega) (by omega) dX9_isWordOfLowerSet_6 (by decide) (fun c1 => ?_) (fun c1 => ?_)
      · have e9 : k = s := Nat.le_antisymm h1 c1
        rw [e9] at h3
        refine j_iconst (pc := 47) C (nI 0) dX9_isWordOfLowerSet_47 (by decide) ?_
        refine j_topi (bI (anyB (fun k => m.testBit k && decide (der S k row = der S s row)) s)) (by rw [h3]; rfl) ?_
        exact j_zreturn (pc := 48) C Q dX9_isWordOfLowerSet_48 (bI_nar _) (Nat.le_of_ble_eq_true rfl) (Nat.le_of_ble_eq_true rfl) (⟨rfl, rfl⟩)
      · refine j_iload (pc := 9) C dX9_isWordOfLowerSet_9 0 rfl ?_
        refine j_lload_n (pc := 11) C dX9_isWordOfLowerSet_11 rfl 3 rfl ?_
        refine j_callS (pc := 12) C [.int (nI k), .long (lN m)] [] (rm0 := ({ frames := 1, cells := 0, slots := 0, locals := 22 } : Room)) (k' := 0) (n' := 0) Q.1 (c_X9_isSetIn (xl X) (xw X) hm (s := k) (by omega)) mp_X9_isSetIn wm_332 rfl rfl (Nat.le_of_ble_eq_true rfl) dX9_isWordOfLowerSet_12 ⟨by decide, by decide⟩ ⟨Nat.le_of_ble_eq_true rfl, Nat.le_of_ble_eq_true rfl⟩ rfl rfl (det1 ?_)
        refine jb_if_eq (pc := 15) C 41 (b := m.testBit k) dX9_isWordOfLowerSet_15 (by decide) (fun c2 => ?_) (fun c2 => ?_)
        · refine j_iinc (pc := 41) C (nI (k + 1)) [(4, .int (nI (k + 1))), (0, .ref a0), (1, .int (nI s)), (2, .long (lN m))] dX9_isWordOfLowerSet_41 0 rfl (nI_add k 1) (by decide) rfl ?_
          refine j_goto (pc := 44) C 3 dX9_isWordOfLowerSet_44 (by decide) ?_
          exact J.to [0, 1, 2, 3] rfl (ih (k + 1) (by omega) (by omega) (by rw [anyB_succ, h3, Bool.false_or]; show (m.testBit k && decide (der S k row = der S s row)) = false; rw [c2]; rfl))
        · have k9 := hms k c2
          have iq := enc5_inj ((der_ok hw (set := k) hrow).R hw.1) ((der_ok hw (set := s) hrow).R hw.1)
          refine j_aload_n (pc := 18) C dX9_isWordOfLowerSet_18 rfl 1 rfl ?_
          refine j_getA (pc := 19) C fp_X9_10 ha0 rfl (f := 576) rfl (6, 0) (hG σ (6, 0)) z2 (⟨hp.1.1, rfl⟩ : At _ (6, 0) _) dX9_isWordOfLowerSet_19 ?_
          refine j_iload (pc := 22) C dX9_isWordOfLowerSet_22 0 rfl ?_
          refine j_callV (pc := 24) C [.int (nI k)] [] (rm0 := ({ frames := 1, cells := 0, slots := 0, locals := 22 } : Room)) (k' := 0) (n' := 0) Q.1 (c_X5_wordBySet (xl X) (xw X) hp.1 (⟨hp.1.1, rfl⟩ : At _ (6, 0) _) (by omega) (hB k k9)) mp_X5_wordBySet wm_318 (⟨hp.1.1, rfl⟩ : At _ (6, 0) _) rfl rfl (by decide) rfl rfl (Nat.le_of_ble_eq_true rfl) dX9_isWordOfLowerSet_24 ⟨by decide, by decide⟩ ⟨Nat.le_of_ble_eq_true rfl, Nat.le_of_ble_eq_true rfl⟩ rfl rfl (det1 ?_)
          refine j_aload_n (pc := 27) C dX9_isWordOfLowerSet_27 rfl 1 rfl ?_
          refine j_getA (pc := 28) C fp_X9_10 ha0 rfl (f := 576) rfl (6, 0) (hG σ (6, 0)) z2 (⟨hp.1.1, rfl⟩ : At _ (6, 0) _) dX9_isWordOfLowerSet_28 ?_
          refine j_iload_n (pc := 31) C dX9_isWordOfLowerSet_31 rfl 2 rfl ?_
          refine j_callV (pc := 32) C [.int (nI s)] [.long (enc5 (der S k row))] (rm0 := ({ frames := 1, cells := 0, slots := 0, locals := 22 } : Room)) (k' := 0) (n' := 0) Q.1 (c_X5_wordBySet (xl X) (xw X) hp.1 (⟨hp.1.1, rfl⟩ : At _ (6, 0) _) (by omega) (hB s hs9)) mp_X5_wordBySet wm_318 (⟨hp.1.1, rfl⟩ : At _ (6, 0) _) rfl rfl (by decide) rfl rfl (Nat.le_of_ble_eq_true rfl) dX9_isWordOfLowerSet_32 ⟨by decide, by decide⟩ ⟨Nat.le_of_ble_eq_true rfl, Nat.le_of_ble_eq_true rfl⟩ rfl rfl (det1 ?_)
          refine j_lcmp (pc := 35) C dX9_isWordOfLowerSet_35 ?_
          refine jl_if_ne (pc := 36) C 41 dX9_isWordOfLowerSet_36 (by decide) (fun c3 => ?_) (fun c3 => ?_)
          · refine j_iinc (pc := 41) C (nI (k + 1)) [(4, .int (nI (k + 1))), (0, .ref a0), (1, .int (nI s)), (2, .long (lN m))] dX9_isWordOfLowerSet_41 0 rfl (nI_add k 1) (by decide) rfl ?_
            refine j_goto (pc := 44) C 3 dX9_isWordOfLowerSet_44 (by decide) ?_
            exact J.to [0, 1, 2, 3] rfl (ih (k + 1) (by omega) (by omega) (by rw [anyB_succ, h3, Bool.false_or]; show (m.testBit k && decide (der S k row = der S s row)) = false; rw [decide_eq_false (fun z => c3 (iq.mpr z)), Bool.and_false]))
          · refine j_iconst (pc := 39) C (nI 1) dX9_isWordOfLowerSet_39 (by decide) ?_
            refine j_topi (bI (anyB (fun k => m.testBit k && decide (der S k row = der S s row)) s)) (by rw [anyB_t (k := k) c1 (by show (m.testBit k && decide (der S k row = der S s row)) = true; rw [c2, decide_eq_true (iq.mp c3)]; rfl)]; rfl) ?_
            exact j_zreturn (pc := 40) C Q dX9_isWordOfLowerSet_40 (bI_nar _) (Nat.le_of_ble_eq_true rfl) (Nat.le_of_ble_eq_true rfl) (⟨rfl, rfl⟩)
  exact J.to [0, 1, 2, 3] rfl (loop (s + 1) 0 (Nat.zero_le _) (by omega) rfl)
theorem low_new {S : SP} {row : List Nat} {m s : Nat} (hm : ∀ j, m.testBit j = (decide (j < 2 ^ nR S) && fitset S j)) (hs : m.testBit s = true) : newP S row s = !anyB (fun k => m.testBit k && decide (der S k row = der S s row)) s := by
  have h1 := hm s
  rw [hs] at h1
  have h2 := (Bool.and_eq_true _ _ ▸ h1.symm : decide (s < 2 ^ nR S) = true ∧ fitset S s = true)
  have h3 : s < 2 ^ nR S := of_decide_eq_true h2.1
  unfold newP
  rw [h2.2, Bool.true_and]
  cases e : anyB (fun k => m.testBit k && decide (der S k row = der S s row)) s with
  | true =>
    obtain ⟨k, k1, k2⟩ := anyB_iff.mp e
    obtain ⟨k3, k4⟩ := (Bool.and_eq_true _ _ ▸ k2 : m.testBit k = true ∧ decide (der S k row = der S s row) = true)
    rw [hm k] at k3
    have k5 := (Bool.and_eq_true _ _ ▸ k3 : decide (k < 2 ^ nR S) = true ∧ fitset S k = true)
    exact decide_eq_false (fun z => z k k1 k5.2 (of_decide_eq_true k4))
  | false =>
    refine decide_eq_true (fun k k1 k2 k3 => ?_)
    have k4 : anyB (fun k => m.testBit k && decide (der S k row = der S s row)) s = true := anyB_t k1 (by
      show (m.testBit k && decide (der S k row = der S s row)) = true
      rw [hm k, decide_eq_true (Nat.lt_trans k1 h3), k2, decide_eq_true k3]; rfl)
    rw [k4] at e
    cases e
theorem unl_end {S : SP} (hw : WF S) (row : List Nat) : fb_ct (fun s => decide (s < 2 ^ nR S) && newP S row s) 64 = unl S row (2 ^ nR S) := by
  rw [ct_cut (pow_R hw) (fun i hi => by rw [decide_eq_false (by omega)]; rfl)]
  exact fb_ct_cong (fun k hk => by rw [decide_eq_true hk]; rfl)
set_option maxHeartbeats 4000000 in
set_option maxRecDepth 100000 in
theorem c_X9_countUnlike (L9 : Launch) (w9 : Wd) {σ : HS} {S : SP} (hw : WF S) (hc : CI S σ) {a0 : Nat} (ha0 : At σ (9, 0) a0) {row : List Nat} (hrow : okS S row) {m : Nat} (hm : m < 2 ^ 64) (hms : ∀ j, m.testBit j = (decide (j < 2 ^ nR S) && fitset S j)) : MJ L9 w9 yX9_countUnlike cX9_countUnlike 7 (some .int) ({ frames := 4, cells := 0, slots := 0, locals := 90 } : Room) [.ref a0, .long (enc5 row), .long (lN m)] σ (fun a9 σ' => a9 = some (.int (nI (unl S row (2 ^ nR S)))) ∧ Fr tgB σ σ') := by
  refine MJ.of (by decide +kernel) (Nat.le_of_ble_eq_true rfl) (fun X hX1 hX2 C Q hinit => ?_)
  subst hX1; subst hX2
  show J X 0 0 σ [(0, .ref a0), (1, .long (enc5 row)), (3, .long (lN m))] [] 0
  obtain ⟨hp, he, hx, hf9, hd⟩ := id hc
  obtain ⟨z1, z2, z3, z4⟩ := id hf9
  obtain ⟨ef, e1, e2⟩ := id he
  have gS := hw.1.1
  have gC := hw.1.2.2.2.1
  have gR := hw.2.1.1
  have gL := hw.2.2.1.1
  have gW := hw.2.2.2.1.1
  have gD := hw.2.2.2.2.1
  have g64 := pow_R hw
  have hlt : ∀ j, m.testBit j = true → j < 2 ^ nR S := fun j z => by rw [hms j, Bool.and_eq_true] at z; exact of_decide_eq_true z.1
  refine j_aload_n (pc := 0) C dX9_countUnlike_0 rfl 0 rfl ?_
  refine j_getA (pc := 1) C fp_X9_10 ha0 rfl (f := 576) rfl (6, 0) (hG σ (6, 0)) z2 (⟨hp.1.1, rfl⟩ : At _ (6, 0) _) dX9_countUnlike_1 ?_
  refine j_lload_n (pc := 4) C dX9_countUnlike_4 rfl 1 rfl ?_
  refine j_callV (pc := 5) C [.long (enc5 row)] [] (rm0 := ({ frames := 4, cells := 0, slots := 0, locals := 90 } : Room)) (k' := 0) (n' := 0) Q.1 (c_X5_deriveByAllSets (xl X) (xw X) hw hp (⟨hp.1.1, rfl⟩ : At _ (6, 0) _) hrow) mp_X5_deriveByAllSets wm_290 (⟨hp.1.1, rfl⟩ : At _ (6, 0) _) rfl rfl (by decide) rfl rfl (Nat.le_of_ble_eq_true rfl) dX9_countUnlike_5 ⟨by decide, by decide⟩ ⟨Nat.le_of_ble_eq_true rfl, Nat.le_of_ble_eq_true rfl⟩ rfl rfl (fun v9 σ1 hp9 => ?_)
  obtain ⟨rfl, hB, hF1⟩ := hp9
  have hF : Fr tgB σ σ1 := hF1
  have hc1 := hc.fr hw hF (fun t z => tgB_A z)
  have ha1 := hF.at ha0
  show J X 0 0 σ1 [(0, .ref a0), (1, .long (enc5 row)), (3, .long (lN m))] [] 8
  refine j_iconst (pc := 8) C (nI 0) dX9_countUnlike_8 (by decide) ?_
  refine j_istore (pc := 9) C [(5, .int (nI 0)), (0, .ref a0), (1, .long (enc5 row)), (3, .long (lN m))] dX9_countUnlike_9 (by decide) rfl ?_
  refine j_iconst (pc := 11) C (nI 0) dX9_countUnlike_11 (by decide) ?_
  refine j_istore (pc := 12) C [(6, .int (nI 0)), (5, .int (nI 0)), (0, .ref a0), (1, .long (enc5 row)), (3, .long (lN m))] dX9_countUnlike_12 (by decide) rfl ?_
  have loop : ∀ (f : Nat) (k : Nat), (k ≤ 64) → (64 < k + f) → J X 0 0 σ1 [(6, .int (nI k)), (5, .int (nI (fb_ct (fun s => decide (s < 2 ^ nR S) && newP S row s) k))), (0, .ref a0), (3, .long (lN m))] [] 14 := by
    intro f
    induction f with
    | zero => intro k h1 h2; exact absurd h2 (by omega)
    | succ f ih =>
      intro k h1 h2
      have hle := fb_ct_le (fun s => decide (s < 2 ^ nR S) && newP S row s) k
      refine j_iload (pc := 14) C dX9_countUnlike_14 0 rfl ?_
      refine j_bipush (pc := 16) C (nI 64) dX9_countUnlike_16 (by decide) ?_
      refine jn_icmp_ge (pc := 18) C 49 (a := k) (b := 64) (by omega) (by omega) dX9_countUnlike_18 (by decide) (fun c1 => ?_) (fun c1 => ?_)
      · have e9 : k = 64 := Nat.le_antisymm h1 c1
        refine j_iload (pc := 49) C dX9_countUnlike_49 1 rfl ?_
        refine j_topi (nI (unl S row (2 ^ nR S))) (by rw [e9, unl_end hw]) ?_
        exact j_ireturn (pc := 51) C Q dX9_countUnlike_51 (Nat.le_of_ble_eq_true rfl) (Nat.le_of_ble_eq_true rfl) (⟨rfl, hF⟩)
      · refine j_iload (pc := 21) C dX9_countUnlike_21 0 rfl ?_
        refine j_lload_n (pc := 23) C dX9_countUnlike_23 rfl 3 rfl ?_
        refine j_callS (pc := 24) C [.int (nI k), .long (lN m)] [] (rm0 := ({ frames := 4, cells := 0, slots := 0, locals := 90 } : Room)) (k' := 0) (n' := 0) Q.1 (c_X9_isSetIn (xl X) (xw X) hm (s := k) c1) mp_X9_isSetIn wm_332 rfl rfl (Nat.le_of_ble_eq_true rfl) dX9_countUnlike_24 ⟨by decide, by decide⟩ ⟨Nat.le_of_ble_eq_true rfl, Nat.le_of_ble_eq_true rfl⟩ rfl rfl (det1 ?_)
        refine jb_if_eq (pc := 27) C 43 (b := m.testBit k) dX9_countUnlike_27 (by decide) (fun c2 => ?_) (fun c2 => ?_)
        · refine j_iinc (pc := 43) C (nI (k + 1)) [(6, .int (nI (k + 1))), (5, .int (nI (fb_ct (fun s => decide (s < 2 ^ nR S) && newP S row s) k))), (0, .ref a0), (3, .long (lN m))] dX9_countUnlike_43 0 rfl (nI_add k 1) (by decide) rfl ?_
          refine j_goto (pc := 46) C 14 dX9_countUnlike_46 (by decide) ?_
          have l0 := ih (k + 1) (by omega) (by omega)
          rw [show fb_ct (fun s => decide (s < 2 ^ nR S) && newP S row s) (k + 1) = fb_ct (fun s => decide (s < 2 ^ nR S) && newP S row s) k from by rw [fb_ct_succ]; rw [if_neg (fun z => by rw [hms k] at c2; unfold newP at z; rw [Bool.and_eq_true, Bool.and_eq_true] at z; rw [z.1, z.2.1] at c2; cases c2)]; rfl] at l0
          exact J.to [0, 1, 2, 3] rfl l0
        · refine j_aload_n (pc := 30) C dX9_countUnlike_30 rfl 2 rfl ?_
          refine j_iload (pc := 31) C dX9_countUnlike_31 0 rfl ?_
          refine j_lload_n (pc := 33) C dX9_countUnlike_33 rfl 3 rfl ?_
          refine j_callV (pc := 34) C [.int (nI k), .long (lN m)] [] (rm0 := ({ frames := 4, cells := 0, slots := 0, locals := 90 } : Room)) (k' := 0) (n' := 0) Q.1 (c_X9_isWordOfLowerSet (xl X) (xw X) hw hc1 ha1 hrow hm hlt c2 hB) mp_X9_isWordOfLowerSet wm_364 ha1 rfl rfl (by decide) rfl rfl (Nat.le_of_ble_eq_true rfl) dX9_countUnlike_34 ⟨by decide, by decide⟩ ⟨Nat.le_of_ble_eq_true rfl, Nat.le_of_ble_eq_true rfl⟩ rfl rfl (det1 ?_)
          refine jb_if_ne (pc := 37) C 43 (b := anyB (fun j => m.testBit j && decide (der S j row = der S k row)) k) dX9_countUnlike_37 (by decide) (fun c3 => ?_) (fun c3 => ?_)
          · have c4 := low_new (row := row) hms c2
            refine j_iinc (pc := 43) C (nI (k + 1)) [(6, .int (nI (k + 1))), (5, .int (nI (fb_ct (fun s => decide (s < 2 ^ nR S) && newP S row s) k))), (0, .ref a0), (3, .long (lN m))] dX9_countUnlike_43 0 rfl (nI_add k 1) (by decide) rfl ?_
            refine j_goto (pc := 46) C 14 dX9_countUnlike_46 (by decide) ?_
            have l0 := ih (k + 1) (by omega) (by omega)
            rw [show fb_ct (fun s => decide (s < 2 ^ nR S) && newP S row s) (k + 1) = fb_ct (fun s => decide (s < 2 ^ nR S) && newP S row s) k from by rw [fb_ct_succ]; rw [if_neg (fun z => by rw [Bool.and_eq_true, c4, c3] at z; exact absurd z.2 (by decide))]; rfl] at l0
            exact J.to [0, 1, 2, 3] rfl l0
          · have c4 := low_new (row := row) hms c2
            refine j_iinc (pc := 40) C (nI (fb_ct (fun s => decide (s < 2 ^ nR S) && newP S row s) k + 1)) [(5, .int (nI (fb_ct (fun s => decide (s < 2 ^ nR S) && newP S row s) k + 1))), (6, .int (nI k)), (0, .ref a0), (3, .long (lN m))] dX9_countUnlike_40 1 rfl (nI_add (fb_ct (fun s => decide (s < 2 ^ nR S) && newP S row s) k) 1) (by decide) rfl ?_
            refine j_iinc (pc := 43) C (nI (k + 1)) [(6, .int (nI (k + 1))), (5, .int (nI (fb_ct (fun s => decide (s < 2 ^ nR S) && newP S row s) k + 1))), (0, .ref a0), (3, .long (lN m))] dX9_countUnlike_43 1 rfl (nI_add k 1) (by decide) rfl ?_
            refine j_goto (pc := 46) C 14 dX9_countUnlike_46 (by decide) ?_
            have l0 := ih (k + 1) (by omega) (by omega)
            rw [show fb_ct (fun s => decide (s < 2 ^ nR S) && newP S row s) (k + 1) = fb_ct (fun s => decide (s < 2 ^ nR S) && newP S row s) k + 1 from by rw [fb_ct_succ]; rw [if_pos (by rw [c4, c3, decide_eq_true (hlt k c2)]; rfl)]] at l0
            exact J.to [0, 1, 2, 3] rfl l0
  exact J.to [0, 1, 2, 4] rfl (loop 65 0 (Nat.zero_le _) (by decide))
set_option maxHeartbeats 4000000 in
set_option maxRecDepth 100000 in
theorem c_X9_fittingSets (L9 : Launch) (w9 : Wd) {σ : HS} {S : SP} (hw : WF S) (hc : CI S σ) {a0 : Nat} (ha0 : At σ (9, 0) a0)  : MJ L9 w9 yX9_fittingSets cX9_fittingSets 7 (some .long) ({ frames := 4, cells := 0, slots := 0, locals := 90 } : Room) [.ref a0] σ (fun a9 σ' => ∃ m, a9 = some (.long (lN m)) ∧ m < 2 ^ 64 ∧ (∀ j, m.testBit j = (decide (j < 2 ^ nR S) && fitset S j)) ∧ Fr tgB σ σ') := by
  refine MJ.of (by decide +kernel) (Nat.le_of_ble_eq_true rfl) (fun X hX1 hX2 C Q hinit => ?_)
  subst hX1; subst hX2
  show J X 0 0 σ [(0, .ref a0)] [] 0
  obtain ⟨hp, he, hx, hf9, hd⟩ := id hc
  obtain ⟨z1, z2, z3, z4⟩ := id hf9
  obtain ⟨ef, e1, e2⟩ := id he
  have gS := hw.1.1
  have gC := hw.1.2.2.2.1
  have gR := hw.2.1.1
  have gL := hw.2.2.1.1
  have gW := hw.2.2.2.1.1
  have gD := hw.2.2.2.2.1
  have g64 := pow_R hw
  have hone : 1 ≤ 2 ^ nR S := Nat.one_le_two_pow
  have hb2 : 2 ^ 2 ^ nR S - 1 < 2 ^ 64 := by have := Nat.pow_le_pow_right (n := 2) (by decide) g64; have h2 : 1 ≤ 2 ^ 2 ^ nR S := Nat.one_le_two_pow; omega
  refine j_iconst (pc := 0) C (nI 1) dX9_fittingSets_0 (by decide) ?_
  refine j_aload_n (pc := 1) C dX9_fittingSets_1 rfl 0 rfl ?_
  refine j_getA (pc := 2) C fp_X9_10 ha0 rfl (f := 576) rfl (6, 0) (hG σ (6, 0)) z2 (⟨hp.1.1, rfl⟩ : At _ (6, 0) _) dX9_fittingSets_2 ?_
  refine j_callV (pc := 5) C [] [.int (nI 1)] (rm0 := ({ frames := 4, cells := 0, slots := 0, locals := 90 } : Room)) (k' := 0) (n' := 0) Q.1 (c_X5_ruleCount (xl X) (xw X) hw hp (⟨hp.1.1, rfl⟩ : At _ (6, 0) _)) mp_X5_ruleCount wm_234 (⟨hp.1.1, rfl⟩ : At _ (6, 0) _) rfl rfl (by decide) rfl rfl (Nat.le_of_ble_eq_true rfl) dX9_fittingSets_5 ⟨by decide, by decide⟩ ⟨Nat.le_of_ble_eq_true rfl, Nat.le_of_ble_eq_true rfl⟩ rfl rfl (det1 ?_)
  refine j_ishl (pc := 8) C dX9_fittingSets_8 ?_
  refine j_topi (nI (2 ^ nR S)) (shl1 (by omega)) ?_
  refine j_istore_n (pc := 9) C [(1, .int (nI (2 ^ nR S))), (0, .ref a0)] dX9_fittingSets_9 rfl (by decide) rfl ?_
  refine j_ldc2 (pc := 10) C (v := -1) dX9_fittingSets_10 wm_242 ?_
  refine j_bipush (pc := 13) C (nI 64) dX9_fittingSets_13 (by decide) ?_
  refine j_iload_n (pc := 15) C dX9_fittingSets_15 rfl 0 rfl ?_
  refine j_isub (pc := 16) C dX9_fittingSets_16 ?_
  refine j_lushr (pc := 17) C dX9_fittingSets_17 ?_
  refine j_topl (lN (2 ^ 2 ^ nR S - 1)) (sets_all _ (by omega)) ?_
  refine j_lstore_n (pc := 18) C [(2, .long (lN (2 ^ 2 ^ nR S - 1))), (1, .int (nI (2 ^ nR S))), (0, .ref a0)] dX9_fittingSets_18 rfl (by decide) rfl ?_
  refine j_iconst (pc := 19) C (nI 0) dX9_fittingSets_19 (by decide) ?_
  refine j_istore (pc := 20) C [(4, .int (nI 0)), (2, .long (lN (2 ^ 2 ^ nR S - 1))), (1, .int (nI (2 ^ nR S))), (0, .ref a0)] dX9_fittingSets_20 (by decide) rfl ?_
  have loop : ∀ (f : Nat) (k m : Nat) (σ9 : HS), (k ≤ nW S) → (nW S < k + f) → (Fr tgB σ σ9) → (m < 2 ^ 64) → (∀ j, m.testBit j = ftB S k j) → J X 0 0 σ9 [(4, .int (nI k)), (2, .long (lN m)), (0, .ref a0), (1, .int (nI (2 ^ nR S)))] [] 22 := by
    intro f
    induction f with
    | zero => intro k m σ9 h1 h2 hF hm hb; exact absurd h2 (by omega)
    | succ f ih =>
      intro k m σ9 h1 h2 hF hm hb
      have hc9 := hc.fr hw hF (fun t z => tgB_A z)
      have ha9 := hF.at ha0
      obtain ⟨hp, he, hx, hf9, hd⟩ := id hc9
      obtain ⟨z1, z2, z3, z4⟩ := id hf9
      obtain ⟨ef, e1, e2⟩ := id he
      refine j_iload (pc := 22) C dX9_fittingSets_22 0 rfl ?_
      refine j_aload_n (pc := 24) C dX9_fittingSets_24 rfl 2 rfl ?_
      refine j_getA (pc := 25) C fp_X9_19 ha9 rfl (f := 577) rfl (5, 0) (hG σ9 (5, 0)) z3 (⟨hx.1.1, rfl⟩ : At _ (5, 0) _) dX9_fittingSets_25 ?_
      refine j_callV (pc := 28) C [] [.int (nI k)] (rm0 := ({ frames := 4, cells := 0, slots := 0, locals := 90 } : Room)) (k' := 0) (n' := 0) Q.1 (c_X4_wordCount (xl X) (xw X) hw hx (⟨hx.1.1, rfl⟩ : At _ (5, 0) _)) mp_X4_wordCount wm_243 (⟨hx.1.1, rfl⟩ : At _ (5, 0) _) rfl rfl (by decide) rfl rfl (Nat.le_of_ble_eq_true rfl) dX9_fittingSets_28 ⟨by decide, by decide⟩ ⟨Nat.le_of_ble_eq_true rfl, Nat.le_of_ble_eq_true rfl⟩ rfl rfl (det1 ?_)
      refine jn_icmp_ge (pc := 31) C 132 (a := k) (b := nW S) (by omega) (by omega) dX9_fittingSets_31 (by decide) (fun c1 => ?_) (fun c1 => ?_)
      · have e9 : k = nW S := Nat.le_antisymm h1 c1
        rw [e9] at hb
        refine j_lload_n (pc := 132) C dX9_fittingSets_132 rfl 1 rfl ?_
        exact j_lreturn (pc := 133) C Q dX9_fittingSets_133 (Nat.le_of_ble_eq_true rfl) (Nat.le_of_ble_eq_true rfl) (⟨m, rfl, hm, hb, hF⟩)
      · refine j_aload_n (pc := 34) C dX9_fittingSets_34 rfl 2 rfl ?_
        refine j_getA (pc := 35) C fp_X9_19 ha9 rfl (f := 577) rfl (5, 0) (hG σ9 (5, 0)) z3 (⟨hx.1.1, rfl⟩ : At _ (5, 0) _) dX9_fittingSets_35 ?_
        refine j_iload (pc := 38) C dX9_fittingSets_38 0 rfl ?_
        by_cases c2 : hd9 S k = 1
        · refine j_callV (pc := 40) C [.int (nI k)] [] (rm0 := ({ frames := 4, cells := 0, slots := 0, locals := 90 } : Room)) (k' := 0) (n' := 0) Q.1 (c_X4_wordNumbered_t (xl X) (xw X) (o := ol S) gW hx.1 hx.2.2.2.1 (⟨hx.1.1, rfl⟩ : At _ (5, 0) _) c1 c2) mp_X4_wordNumbered wm_248 (⟨hx.1.1, rfl⟩ : At _ (5, 0) _) rfl rfl (by decide) rfl rfl (Nat.le_of_ble_eq_true rfl) dX9_fittingSets_40 ⟨by decide, by decide⟩ ⟨Nat.le_of_ble_eq_true rfl, Nat.le_of_ble_eq_true rfl⟩ rfl rfl (det1 ?_)
          obtain ⟨q1, q2, q3, q4, q5⟩ := hw.2.2.2.1.2.2 k c1
          refine j_astore (pc := 43) C [(5, .ref (hG σ9 (8, k))), (4, .int (nI k)), (2, .long (lN m)), (0, .ref a0), (1, .int (nI (2 ^ nR S)))] dX9_fittingSets_43 (by decide) rfl ?_
          refine j_aload (pc := 45) C dX9_fittingSets_45 0 rfl ?_
          refine j_ifnull (pc := 47) C dX9_fittingSets_47 ?_
          refine j_aload (pc := 50) C dX9_fittingSets_50 0 rfl ?_
          refine j_callV (pc := 52) C [] [] (rm0 := ({ frames := 4, cells := 0, slots := 0, locals := 90 } : Room)) (k' := 0) (n' := 0) Q.1 (c_X8_isOfException (xl X) (xw X) (⟨hx.2.2.2.1.1.live c1, rfl⟩ : At _ (8, k) _) (hx.2.2.2.1.2.1 k c1).1 (hx.2.1.1.live q1) (hx.2.1.2.1 _ q1).2.2.2 ((hx.2.2.1 _ q1).t (q5 c2)) (hx.2.2.2.1.2.1 k c1).2.1 q2) mp_X8_isOfException wm_267 (⟨hx.2.2.2.1.1.live c1, rfl⟩ : At _ (8, k) _) rfl rfl (Nat.le_of_ble_eq_true rfl) rfl rfl (Nat.le_of_ble_eq_true rfl) dX9_fittingSets_52 ⟨by decide, by decide⟩ ⟨Nat.le_of_ble_eq_true rfl, Nat.le_of_ble_eq_true rfl⟩ rfl rfl (det1 ?_)
          refine jb_if_eq (pc := 55) C 61 (b := (xc9 S (ol S k) (cw S k)).isSome) dX9_fittingSets_55 (by decide) (fun c3 => ?_) (fun c3 => ?_)
          · refine j_aload_n (pc := 61) C dX9_fittingSets_61 rfl 3 rfl ?_
            refine j_getA (pc := 62) C fp_X9_10 ha9 rfl (f := 576) rfl (6, 0) (hG σ9 (6, 0)) z2 (⟨hp.1.1, rfl⟩ : At _ (6, 0) _) dX9_fittingSets_62 ?_
            refine j_aload_n (pc := 65) C dX9_fittingSets_65 rfl 3 rfl ?_
            refine j_aload (pc := 66) C dX9_fittingSets_66 0 rfl ?_
            refine j_getA (pc := 68) C fp_X9_211 (⟨hx.2.2.2.1.1.live c1, rfl⟩ : At _ (8, k) _) rfl (f := 512) rfl (4, ol S k) (hG σ9 (4, ol S k)) ((hx.2.2.2.1.2.1 k c1).1) (⟨hx.2.1.1.live (hw.2.2.2.1.2.2 k c1).1, rfl⟩ : At _ (4, ol S k) _) dX9_fittingSets_68 ?_
            refine j_aload (pc := 71) C dX9_fittingSets_71 0 rfl ?_
            refine j_getI (pc := 73) C fp_X9_215 (⟨hx.2.2.2.1.1.live c1, rfl⟩ : At _ (8, k) _) rfl (f := 513) rfl dX9_fittingSets_73 ?_
            refine j_topi (nI (cw S k)) ((hx.2.2.2.1.2.1 k c1).2.1) ?_
            refine j_callV (pc := 76) C [.ref (hG σ9 (4, ol S k)), .int (nI (cw S k))] [.ref (hG σ9 (6, 0))] (rm0 := ({ frames := 4, cells := 0, slots := 0, locals := 90 } : Room)) (k' := 0) (n' := 0) Q.1 (c_X9_underlying (xl X) (xw X) hw hc9 ha9 q1 (⟨hx.2.1.1.live (hw.2.2.2.1.2.2 k c1).1, rfl⟩ : At _ (4, ol S k) _) q2) mp_X9_underlying wm_278 ha9 rfl rfl (by decide) rfl rfl (Nat.le_of_ble_eq_true rfl) dX9_fittingSets_76 ⟨by decide, by decide⟩ ⟨Nat.le_of_ble_eq_true rfl, Nat.le_of_ble_eq_true rfl⟩ rfl rfl (det1 ?_)
            refine j_callV (pc := 79) C [.long (enc5 (base9 S (ol S k) (cw S k)))] [] (rm0 := ({ frames := 4, cells := 0, slots := 0, locals := 90 } : Room)) (k' := 0) (n' := 0) Q.1 (c_X5_deriveByAllSets (xl X) (xw X) hw hp (⟨hp.1.1, rfl⟩ : At _ (6, 0) _) (WF_base hw q1 (cw S k))) mp_X5_deriveByAllSets wm_290 (⟨hp.1.1, rfl⟩ : At _ (6, 0) _) rfl rfl (by decide) rfl rfl (Nat.le_of_ble_eq_true rfl) dX9_fittingSets_79 ⟨by decide, by decide⟩ ⟨Nat.le_of_ble_eq_true rfl, Nat.le_of_ble_eq_true rfl⟩ rfl rfl (fun v9 σ8 hp9 => ?_)
            obtain ⟨rfl, hB, hF98⟩ := hp9
            have hF8 : Fr tgB σ9 σ8 := hF98
            have hc8 := hc9.fr hw hF8 (fun t z => tgB_A z)
            have ha8 := hF8.at ha9
            have hA8 := hF8.at (⟨hx.2.2.2.1.1.live c1, rfl⟩ : At σ9 (8, k) _)
            have hF18 := hF.tr hF8
            have hbare : bare S k = true := by unfold bare; rw [← Option.not_isSome, c3, decide_eq_true c2]; rfl
            obtain ⟨hp, he, hx, hf9, hd⟩ := id hc8
            obtain ⟨z1, z2, z3, z4⟩ := id hf9
            obtain ⟨ef, e1, e2⟩ := id he
            show J X 0 0 σ8 [(5, .ref (hG σ9 (8, k))), (4, .int (nI k)), (2, .long (lN m)), (0, .ref a0), (1, .int (nI (2 ^ nR S)))] [] 82
            refine j_iconst (pc := 82) C (nI 0) dX9_fittingSets_82 (by decide) ?_
            refine j_istore (pc := 83) C [(6, .int (nI 0)), (5, .ref (hG σ9 (8, k))), (4, .int (nI k)), (2, .long (lN m)), (0, .ref a0), (1, .int (nI (2 ^ nR S)))] dX9_fittingSets_83 (by decide) rfl ?_
            have loop2 : ∀ (f2 : Nat) (s : Nat) (m2 : Nat), (s ≤ 2 ^ nR S) → (2 ^ nR S < s + f2) → (m2 < 2 ^ 64) → (∀ j, m2.testBit j = (ftB S k j && (decide (s ≤ j) || fitsBy S k j))) → J X 0 0 σ8 [(6, .int (nI s)), (2, .long (lN m2)), (5, .ref (hG σ9 (8, k))), (4, .int (nI k)), (0, .ref a0), (1, .int (nI (2 ^ nR S)))] [] 85 := by
              intro f2
              induction f2 with
              | zero => intro s m2 g1 g2 gm gb; exact absurd g2 (by omega)
              | succ f2 ih2 =>
                intro s m2 g1 g2 gm gb
                refine j_iload (pc := 85) C dX9_fittingSets_85 0 rfl ?_
                refine j_iload_n (pc := 87) C dX9_fittingSets_87 rfl 5 rfl ?_
                refine jn_icmp_ge (pc := 88) C 126 (a := s) (b := 2 ^ nR S) (by omega) (by omega) dX9_fittingSets_88 (by decide) (fun c4 => ?_) (fun c4 => ?_)
                · have e9 : s = 2 ^ nR S := Nat.le_antisymm g1 c4
                  rw [e9] at gb
                  refine j_iinc (pc := 126) C (nI (k + 1)) [(4, .int (nI (k + 1))), (6, .int (nI s)), (2, .long (lN m2)), (5, .ref (hG σ9 (8, k))), (0, .ref a0), (1, .int (nI (2 ^ nR S)))] dX9_fittingSets_126 3 rfl (nI_add k 1) (by decide) rfl ?_
                  refine j_goto (pc := 129) C 22 dX9_fittingSets_129 (by decide) ?_
                  exact J.to [0, 2, 4, 5] rfl (ih (k + 1) m2 σ8 (by omega) (by omega) hF18 gm (ft_done hbare gb))
                · have iq := enc5_inj ((der_ok hw (set := s) (WF_base hw q1 (cw S k))).R hw.1) (okR_hr hw k)
                  refine j_aload_n (pc := 91) C dX9_fittingSets_91 rfl 4 rfl ?_
                  refine j_getA (pc := 92) C fp_X9_10 ha8 rfl (f := 576) rfl (6, 0) (hG σ8 (6, 0)) z2 (⟨hp.1.1, rfl⟩ : At _ (6, 0) _) dX9_fittingSets_92 ?_
                  refine j_iload (pc := 95) C dX9_fittingSets_95 0 rfl ?_
                  refine j_callV (pc := 97) C [.int (nI s)] [] (rm0 := ({ frames := 4, cells := 0, slots := 0, locals := 90 } : Room)) (k' := 0) (n' := 0) Q.1 (c_X5_wordBySet (xl X) (xw X) hp.1 (⟨hp.1.1, rfl⟩ : At _ (6, 0) _) (by omega) (hB s c4)) mp_X5_wordBySet wm_318 (⟨hp.1.1, rfl⟩ : At _ (6, 0) _) rfl rfl (by decide) rfl rfl (Nat.le_of_ble_eq_true rfl) dX9_fittingSets_97 ⟨by decide, by decide⟩ ⟨Nat.le_of_ble_eq_true rfl, Nat.le_of_ble_eq_true rfl⟩ rfl rfl (det1 ?_)
                  refine j_aload (pc := 100) C dX9_fittingSets_100 2 rfl ?_
                  refine j_getL (pc := 102) C fp_X9_153 hA8 rfl (f := 515) rfl dX9_fittingSets_102 ?_
                  refine j_topl (enc5 (hr S k)) ((hx.2.2.2.1.2.1 k c1).2.2.2.1) ?_
                  refine j_lcmp (pc := 105) C dX9_fittingSets_105 ?_
                  refine jl_if_eq (pc := 106) C 120 dX9_fittingSets_106 (by decide) (fun c5 => ?_) (fun c5 => ?_)
                  · refine j_iinc (pc := 120) C (nI (s + 1)) [(6, .int (nI (s + 1))), (2, .long (lN m2)), (5, .ref (hG σ9 (8, k))), (4, .int (nI k)), (0, .ref a0), (1, .int (nI (2 ^ nR S)))] dX9_fittingSets_120 0 rfl (nI_add s 1) (by decide) rfl ?_
                    refine j_goto (pc := 123) C 85 dX9_fittingSets_123 (by decide) ?_
                    exact J.to [0, 1, 2, 3, 4, 5] rfl (ih2 (s + 1) m2 (by omega) (by omega) gm (ft_same gb (decide_eq_true (iq.mp c5).symm)))
                  · refine j_lload_n (pc := 109) C dX9_fittingSets_109 rfl 1 rfl ?_
                    refine j_lconst (pc := 110) C (lN 1) dX9_fittingSets_110 (by decide) ?_
                    refine j_iload (pc := 111) C dX9_fittingSets_111 0 rfl ?_
                    refine j_lshl (pc := 113) C dX9_fittingSets_113 ?_
                    refine j_ldc2 (pc := 114) C (v := -1) dX9_fittingSets_114 wm_242 ?_
                    refine j_lxor (pc := 117) C dX9_fittingSets_117 ?_
                    refine j_land (pc := 118) C dX9_fittingSets_118 ?_
                    refine j_topl (lN (m2 &&& (2 ^ s ^^^ (2 ^ 64 - 1)))) (clrS_set gm (by omega)) ?_
                    refine j_lstore_n (pc := 119) C [(2, .long (lN (m2 &&& (2 ^ s ^^^ (2 ^ 64 - 1))))), (6, .int (nI s)), (5, .ref (hG σ9 (8, k))), (4, .int (nI k)), (0, .ref a0), (1, .int (nI (2 ^ nR S)))] dX9_fittingSets_119 rfl (by decide) rfl ?_
                    refine j_iinc (pc := 120) C (nI (s + 1)) [(6, .int (nI (s + 1))), (2, .long (lN (m2 &&& (2 ^ s ^^^ (2 ^ 64 - 1))))), (5, .ref (hG σ9 (8, k))), (4, .int (nI k)), (0, .ref a0), (1, .int (nI (2 ^ nR S)))] dX9_fittingSets_120 1 rfl (nI_add s 1) (by decide) rfl ?_
                    refine j_goto (pc := 123) C 85 dX9_fittingSets_123 (by decide) ?_
                    exact J.to [0, 1, 2, 3, 4, 5] rfl (ih2 (s + 1) (m2 &&& (2 ^ s ^^^ (2 ^ 64 - 1))) (by omega) (by omega) (Nat.lt_of_le_of_lt Nat.and_le_left gm) (ft_clr gm gb (decide_eq_false (fun z => c5 (iq.mpr z.symm)))))
            exact J.to [0, 3, 1, 2, 4, 5] rfl (loop2 (2 ^ nR S + 1) 0 m (Nat.zero_le _) (by omega) hm (ft_start hb))
          · refine j_goto (pc := 58) C 126 dX9_fittingSets_58 (by decide) ?_
            refine j_iinc (pc := 126) C (nI (k + 1)) [(4, .int (nI (k + 1))), (5, .ref (hG σ9 (8, k))), (2, .long (lN m)), (0, .ref a0), (1, .int (nI (2 ^ nR S)))] dX9_fittingSets_126 1 rfl (nI_add k 1) (by decide) rfl ?_
            refine j_goto (pc := 129) C 22 dX9_fittingSets_129 (by decide) ?_
            exact J.to [0, 2, 3, 4] rfl (ih (k + 1) m σ9 (by omega) (by omega) hF hm (fun j => by rw [ftB_succ, ← hb j, show bare S k = false from (by unfold bare; rw [← Option.not_isSome, c3]; exact Bool.and_false _)]; show m.testBit j = (m.testBit j && true); rw [Bool.and_true]))
        · refine j_callV (pc := 40) C [.int (nI k)] [] (rm0 := ({ frames := 4, cells := 0, slots := 0, locals := 90 } : Room)) (k' := 0) (n' := 0) Q.1 (c_X4_wordNumbered_f (xl X) (xw X) (o := ol S) gW hx.1 hx.2.2.2.1 (⟨hx.1.1, rfl⟩ : At _ (5, 0) _) (x := nI k) (by rw [isWrd_nI (by omega), decide_eq_false c2, Bool.and_false])) mp_X4_wordNumbered wm_248 (⟨hx.1.1, rfl⟩ : At _ (5, 0) _) rfl rfl (by decide) rfl rfl (Nat.le_of_ble_eq_true rfl) dX9_fittingSets_40 ⟨by decide, by decide⟩ ⟨Nat.le_of_ble_eq_true rfl, Nat.le_of_ble_eq_true rfl⟩ rfl rfl (det1 ?_)
          refine j_astoreN (pc := 43) C [(5, .null), (4, .int (nI k)), (2, .long (lN m)), (0, .ref a0), (1, .int (nI (2 ^ nR S)))] dX9_fittingSets_43 (by decide) rfl ?_
          refine j_aloadN (pc := 45) C dX9_fittingSets_45 0 rfl ?_
          refine j_ifnullN (pc := 47) C 126 dX9_fittingSets_47 (by decide) ?_
          refine j_iinc (pc := 126) C (nI (k + 1)) [(4, .int (nI (k + 1))), (5, .null), (2, .long (lN m)), (0, .ref a0), (1, .int (nI (2 ^ nR S)))] dX9_fittingSets_126 1 rfl (nI_add k 1) (by decide) rfl ?_
          refine j_goto (pc := 129) C 22 dX9_fittingSets_129 (by decide) ?_
          exact J.to [0, 2, 3, 4] rfl (ih (k + 1) m σ9 (by omega) (by omega) hF hm (fun j => by rw [ftB_succ, ← hb j, show bare S k = false from (by unfold bare; rw [decide_eq_false c2]; rfl)]; show m.testBit j = (m.testBit j && true); rw [Bool.and_true]))
  exact J.to [0, 1, 3, 2] rfl (loop (nW S + 1) 0 _ σ (Nat.zero_le _) (by omega) Fr.rf hb2 (fun j => by rw [Nat.testBit_two_pow_sub_one]; exact (Bool.and_true _).symm))
set_option maxHeartbeats 4000000 in
set_option maxRecDepth 100000 in
theorem c_X9_fitting (L9 : Launch) (w9 : Wd) {σ : HS} {S : SP} (hw : WF S) (hc : CI S σ) {a0 : Nat} (ha0 : At σ (9, 0) a0)  : MJ L9 w9 yX9_fitting cX9_fitting 1 (some .int) ({ frames := 5, cells := 0, slots := 0, locals := 116 } : Room) [.ref a0] σ (fun a9 σ' => a9 = some (.int (nI (fb_ct (fitset S) (2 ^ nR S)))) ∧ Fr tgB σ σ') := by
  refine MJ.of (by decide +kernel) (Nat.le_of_ble_eq_true rfl) (fun X hX1 hX2 C Q hinit => ?_)
  subst hX1; subst hX2
  show J X 0 0 σ [(0, .ref a0)] [] 0
  obtain ⟨hp, he, hx, hf9, hd⟩ := id hc
  obtain ⟨z1, z2, z3, z4⟩ := id hf9
  obtain ⟨ef, e1, e2⟩ := id he
  have gS := hw.1.1
  have gC := hw.1.2.2.2.1
  have gR := hw.2.1.1
  have gL := hw.2.2.1.1
  have gW := hw.2.2.2.1.1
  have gD := hw.2.2.2.2.1
  have g64 := pow_R hw
  refine j_aload_n (pc := 0) C dX9_fitting_0 rfl 0 rfl ?_
  refine j_callV (pc := 1) C [] [] (rm0 := ({ frames := 5, cells := 0, slots := 0, locals := 116 } : Room)) (k' := 0) (n' := 0) Q.1 (c_X9_fittingSets (xl X) (xw X) hw hc ha0) mp_X9_fittingSets wm_230 ha0 rfl rfl (by decide) rfl rfl (Nat.le_of_ble_eq_true rfl) dX9_fitting_1 ⟨by decide, by decide⟩ ⟨Nat.le_of_ble_eq_true rfl, Nat.le_of_ble_eq_true rfl⟩ rfl rfl (fun v9 σ1 hp9 => ?_)
  obtain ⟨m, rfl, hm, hms, hF⟩ := hp9
  have hc1 := hc.fr hw hF (fun t z => tgB_A z)
  have ha1 := hF.at ha0
  show J X 0 0 σ1 [(0, .ref a0)] [.long (lN m)] 4
  obtain ⟨hp, he, hx, hf9, hd⟩ := id hc1
  obtain ⟨z1, z2, z3, z4⟩ := id hf9
  obtain ⟨ef, e1, e2⟩ := id he
  refine j_callS (pc := 4) C [.long (lN m)] [] (rm0 := ({ frames := 5, cells := 0, slots := 0, locals := 116 } : Room)) (k' := 0) (n' := 0) Q.1 (c_J13_bitCount_95d88 (xl X) (xw X) hm) mp_J13_bitCount_95d88 wm_322 rfl rfl (Nat.le_of_ble_eq_true rfl) dX9_fitting_4 ⟨by decide, by decide⟩ ⟨Nat.le_of_ble_eq_true rfl, Nat.le_of_ble_eq_true rfl⟩ rfl rfl (det1 ?_)
  refine j_topi (nI (fb_ct (fitset S) (2 ^ nR S))) (by rw [cnt_bits (n := 2 ^ nR S) (fun j z => by rw [hms j, Bool.and_eq_true] at z; exact of_decide_eq_true z.1) g64]; exact congrArg nI (fb_ct_cong (fun k hk => by rw [hms k, decide_eq_true hk]; rfl))) ?_
  exact j_ireturn (pc := 7) C Q dX9_fitting_7 (Nat.le_of_ble_eq_true rfl) (Nat.le_of_ble_eq_true rfl) (⟨rfl, hF⟩)
