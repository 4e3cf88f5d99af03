theorem smal_skip {S : SP} {k : Nat} (h : (decide (k < 2 ^ nR S) && fitset S k) = false) : smal S (min (k + 1) (2 ^ nR S)) = smal S (min k (2 ^ nR S)) := by
  by_cases e : k < 2 ^ nR S
  · rw [Nat.min_eq_left (by omega), Nat.min_eq_left (by omega)]
    rw [decide_eq_true e, Bool.true_and] at h
    exact if_neg (fun z => by rw [h] at z; exact absurd z.1 (by decide))
  · rw [Nat.min_eq_right (by omega), Nat.min_eq_right (by omega)]
theorem smal_hit {S : SP} {k : Nat} (h : (decide (k < 2 ^ nR S) && fitset S k) = true) : smal S (min (k + 1) (2 ^ nR S)) = if ∀ b, smal S (min k (2 ^ nR S)) = some b → ones k < ones b then some k else smal S (min k (2 ^ nR S)) := by
  rw [Bool.and_eq_true] at h
  have e := of_decide_eq_true h.1
  rw [Nat.min_eq_left (by omega), Nat.min_eq_left (by omega)]
  by_cases c : ∀ b, smal S k = some b → ones k < ones b
  · rw [if_pos c]; exact if_pos ⟨h.2, c⟩
  · rw [if_neg c]; exact if_neg (fun z => c z.2)
theorem misF_none {S : SP} (w k : Nat) : misF S 0 w k = none := rfl
set_option maxHeartbeats 4000000 in
set_option maxRecDepth 100000 in
theorem c_X9_smallest (L9 : Launch) (w9 : Wd) {σ : HS} {S : SP} (hw : WF S) (hc : CI S σ) {a0 : Nat} (ha0 : At σ (9, 0) a0)  : MJ L9 w9 yX9_smallest cX9_smallest 5 (some .int) ({ frames := 5, cells := 0, slots := 0, locals := 116 } : Room) [.ref a0] σ (fun a9 σ' => a9 = some (.int (noneI (smal S (2 ^ nR S)))) ∧ Fr tgB σ σ') := by
  refine MJ.of (by decide +kernel) (Nat.le_of_ble_eq_true rfl) (fun X hX1 hX2 C Q hinit => ?_)
  subst hX1; subst hX2
  show J X 0 0 σ [(0, .ref a0)] [] 0
  obtain ⟨hp, he, hx, hf9, hd⟩ := id hc
  obtain ⟨z1, z2, z3, z4⟩ := id hf9
  obtain ⟨ef, e1, e2⟩ := id he
  have gS := hw.1.1
  have gC := hw.1.2.2.2.1
  have gR := hw.2.1.1
  have gL := hw.2.2.1.1
  have gW := hw.2.2.2.1.1
  have gD := hw.2.2.2.2.1
  have g64 := pow_R hw
  refine j_aload_n (pc := 0) C dX9_smallest_0 rfl 0 rfl ?_
  refine j_callV (pc := 1) C [] [] (rm0 := ({ frames := 5, cells := 0, slots := 0, locals := 116 } : Room)) (k' := 0) (n' := 0) Q.1 (c_X9_fittingSets (xl X) (xw X) hw hc ha0) mp_X9_fittingSets wm_230 ha0 rfl rfl (by decide) rfl rfl (Nat.le_of_ble_eq_true rfl) dX9_smallest_1 ⟨by decide, by decide⟩ ⟨Nat.le_of_ble_eq_true rfl, Nat.le_of_ble_eq_true rfl⟩ rfl rfl (fun v9 σ1 hp9 => ?_)
  obtain ⟨m, rfl, hm, hms, hF⟩ := hp9
  have hc1 := hc.fr hw hF (fun t z => tgB_A z)
  have ha1 := hF.at ha0
  show J X 0 0 σ1 [(0, .ref a0)] [.long (lN m)] 4
  obtain ⟨hp, he, hx, hf9, hd⟩ := id hc1
  obtain ⟨z1, z2, z3, z4⟩ := id hf9
  obtain ⟨ef, e1, e2⟩ := id he
  refine j_lstore_n (pc := 4) C [(1, .long (lN m)), (0, .ref a0)] dX9_smallest_4 rfl (by decide) rfl ?_
  refine j_iconst (pc := 5) C (-1) dX9_smallest_5 (by decide) ?_
  refine j_istore_n (pc := 6) C [(3, .int (-1)), (1, .long (lN m)), (0, .ref a0)] dX9_smallest_6 rfl (by decide) rfl ?_
  refine j_iconst (pc := 7) C (nI 0) dX9_smallest_7 (by decide) ?_
  refine j_istore (pc := 8) C [(4, .int (nI 0)), (3, .int (-1)), (1, .long (lN m)), (0, .ref a0)] dX9_smallest_8 (by decide) rfl ?_
  show J X 0 0 σ1 [(4, .int (nI 0)), (3, .int (noneI none)), (1, .long (lN m)), (0, .ref a0)] [] 10
  have loop : ∀ (f : Nat) (k : Nat) (o : Option Nat), (k ≤ 64) → (64 < k + f) → (smal S (min k (2 ^ nR S)) = o) → J X 0 0 σ1 [(3, .int (noneI o)), (4, .int (nI k)), (1, .long (lN m))] [] 10 := by
    intro f
    induction f with
    | zero => intro k o h1 h2 ho; exact absurd h2 (by omega)
    | succ f ih =>
      intro k o h1 h2 ho
      refine j_iload (pc := 10) C dX9_smallest_10 1 rfl ?_
      refine j_bipush (pc := 12) C (nI 64) dX9_smallest_12 (by decide) ?_
      refine jn_icmp_ge (pc := 14) C 52 (a := k) (b := 64) (by omega) (by omega) dX9_smallest_14 (by decide) (fun c1 => ?_) (fun c1 => ?_)
      · have e9 : k = 64 := Nat.le_antisymm h1 c1
        rw [e9, Nat.min_eq_right g64] at ho
        refine j_iload_n (pc := 52) C dX9_smallest_52 rfl 0 rfl ?_
        refine j_topi (noneI (smal S (2 ^ nR S))) (by rw [ho]) ?_
        exact j_ireturn (pc := 53) C Q dX9_smallest_53 (Nat.le_of_ble_eq_true rfl) (Nat.le_of_ble_eq_true rfl) (⟨rfl, hF⟩)
      · refine j_iload (pc := 17) C dX9_smallest_17 1 rfl ?_
        refine j_lload_n (pc := 19) C dX9_smallest_19 rfl 2 rfl ?_
        refine j_callS (pc := 20) C [.int (nI k), .long (lN m)] [] (rm0 := ({ frames := 5, cells := 0, slots := 0, locals := 116 } : Room)) (k' := 0) (n' := 0) Q.1 (c_X9_isSetIn (xl X) (xw X) hm (s := k) c1) mp_X9_isSetIn wm_332 rfl rfl (Nat.le_of_ble_eq_true rfl) dX9_smallest_20 ⟨by decide, by decide⟩ ⟨Nat.le_of_ble_eq_true rfl, Nat.le_of_ble_eq_true rfl⟩ rfl rfl (det1 ?_)
        refine jb_if_eq (pc := 23) C 46 (b := m.testBit k) dX9_smallest_23 (by decide) (fun c2 => ?_) (fun c2 => ?_)
        · refine j_iinc (pc := 46) C (nI (k + 1)) [(4, .int (nI (k + 1))), (3, .int (noneI o)), (1, .long (lN m))] dX9_smallest_46 1 rfl (nI_add k 1) (by decide) rfl ?_
          refine j_goto (pc := 49) C 10 dX9_smallest_49 (by decide) ?_
          exact J.to [1, 0, 2] rfl (ih (k + 1) o (by omega) (by omega) ((smal_skip (by rw [← hms k]; exact c2)).trans ho))
        · have sh := smal_hit (S := S) (k := k) (by rw [← hms k]; exact c2)
          rw [ho] at sh
          cases o with
            | none =>
              show J X 0 0 σ1 [(3, .int (-1)), (4, .int (nI k)), (1, .long (lN m))] [] 26
              refine j_iload_n (pc := 26) C dX9_smallest_26 rfl 0 rfl ?_
              refine j_iconst (pc := 27) C (-1) dX9_smallest_27 (by decide) ?_
              refine j_icmp_eq (pc := 28) C 43 dX9_smallest_28 (by decide) (fun _ => ?_) (fun q => absurd q (by decide))
              refine j_iload (pc := 43) C dX9_smallest_43 1 rfl ?_
              refine j_istore_n (pc := 45) C [(3, .int (nI k)), (4, .int (nI k)), (1, .long (lN m))] dX9_smallest_45 rfl (by decide) rfl ?_
              refine j_iinc (pc := 46) C (nI (k + 1)) [(4, .int (nI (k + 1))), (3, .int (nI k)), (1, .long (lN m))] dX9_smallest_46 1 rfl (nI_add k 1) (by decide) rfl ?_
              refine j_goto (pc := 49) C 10 dX9_smallest_49 (by decide) ?_
              exact J.to [1, 0, 2] rfl (ih (k + 1) (some k) (by omega) (by omega) (sh.trans (if_pos (fun b hb => by cases hb))))
            | some b =>
              show J X 0 0 σ1 [(3, .int (nI b)), (4, .int (nI k)), (1, .long (lN m))] [] 26
              have b64 : b < 64 := by have := smal_lt ho; omega
              refine j_iload_n (pc := 26) C dX9_smallest_26 rfl 0 rfl ?_
              refine j_iconst (pc := 27) C (-1) dX9_smallest_27 (by decide) ?_
              refine j_icmp_eq (pc := 28) C 43 dX9_smallest_28 (by decide) (fun c0 => (nI_nm1 (by omega) c0 : False).elim) (fun c0 => ?_)
              refine j_iload (pc := 31) C dX9_smallest_31 1 rfl ?_
              refine j_callS (pc := 33) C [.int (nI k)] [] (rm0 := ({ frames := 5, cells := 0, slots := 0, locals := 116 } : Room)) (k' := 0) (n' := 0) Q.1 (c_J6_bitCount_0f7a4 (xl X) (xw X) (n := k) (by omega)) mp_J6_bitCount_0f7a4 wm_335 rfl rfl (Nat.le_of_ble_eq_true rfl) dX9_smallest_33 ⟨by decide, by decide⟩ ⟨Nat.le_of_ble_eq_true rfl, Nat.le_of_ble_eq_true rfl⟩ rfl rfl (det1 ?_)
              refine j_topi (nI (ones k)) (by rw [ones_cnt c1]) ?_
              refine j_iload_n (pc := 36) C dX9_smallest_36 rfl 0 rfl ?_
              refine j_callS (pc := 37) C [.int (nI b)] [.int (nI (ones k))] (rm0 := ({ frames := 5, cells := 0, slots := 0, locals := 116 } : Room)) (k' := 0) (n' := 0) Q.1 (c_J6_bitCount_0f7a4 (xl X) (xw X) (n := b) (by omega)) mp_J6_bitCount_0f7a4 wm_335 rfl rfl (Nat.le_of_ble_eq_true rfl) dX9_smallest_37 ⟨by decide, by decide⟩ ⟨Nat.le_of_ble_eq_true rfl, Nat.le_of_ble_eq_true rfl⟩ rfl rfl (det1 ?_)
              refine j_topi (nI (ones b)) (by rw [ones_cnt b64]) ?_
              have o1 := ones_le k
              have o2 := ones_le b
              refine jn_icmp_ge (pc := 40) C 46 (a := ones k) (b := ones b) (by omega) (by omega) dX9_smallest_40 (by decide) (fun c3 => ?_) (fun c3 => ?_)
              · refine j_iinc (pc := 46) C (nI (k + 1)) [(4, .int (nI (k + 1))), (3, .int (nI b)), (1, .long (lN m))] dX9_smallest_46 1 rfl (nI_add k 1) (by decide) rfl ?_
                refine j_goto (pc := 49) C 10 dX9_smallest_49 (by decide) ?_
                exact J.to [1, 0, 2] rfl (ih (k + 1) (some b) (by omega) (by omega) (sh.trans (if_neg (fun z => absurd (z b rfl) (by omega)))))
              · refine j_iload (pc := 43) C dX9_smallest_43 1 rfl ?_
                refine j_istore_n (pc := 45) C [(3, .int (nI k)), (4, .int (nI k)), (1, .long (lN m))] dX9_smallest_45 rfl (by decide) rfl ?_
                refine j_iinc (pc := 46) C (nI (k + 1)) [(4, .int (nI (k + 1))), (3, .int (nI k)), (1, .long (lN m))] dX9_smallest_46 1 rfl (nI_add k 1) (by decide) rfl ?_
                refine j_goto (pc := 49) C 10 dX9_smallest_49 (by decide) ?_
                exact J.to [1, 0, 2] rfl (ih (k + 1) (some k) (by omega) (by omega) (sh.trans (if_pos (fun b2 hb => by cases hb; omega))))
  exact J.to [1, 0, 2] rfl (loop 65 0 none (Nat.zero_le _) (by decide) (by rw [Nat.zero_min]; rfl))
set_option maxHeartbeats 4000000 in
set_option maxRecDepth 100000 in
theorem c_X9_misfit_0 (L9 : Launch) (w9 : Wd) {σ : HS} {S : SP} (hw : WF S) (hc : CI S σ) {a0 : Nat} (ha0 : At σ (9, 0) a0) {p : Nat} (hp31 : p < 2 ^ 31) : MJ L9 w9 yX9_misfit cX9_misfit 5 (some .int) ({ frames := 6, cells := 0, slots := 0, locals := 136 } : Room) [.ref a0, .int (nI p)] σ (fun a9 σ' => a9 = some (.int (noneI (misF S (nW S) 0 p))) ∧ σ' = σ) := by
  refine MJ.of (by decide +kernel) (Nat.le_of_ble_eq_true rfl) (fun X hX1 hX2 C Q hinit => ?_)
  subst hX1; subst hX2
  show J X 0 0 σ [(0, .ref a0), (1, .int (nI p))] [] 0
  obtain ⟨hp, he, hx, hf9, hd⟩ := id hc
  obtain ⟨z1, z2, z3, z4⟩ := id hf9
  obtain ⟨ef, e1, e2⟩ := id he
  have gS := hw.1.1
  have gC := hw.1.2.2.2.1
  have gR := hw.2.1.1
  have gL := hw.2.2.1.1
  have gW := hw.2.2.2.1.1
  have gD := hw.2.2.2.2.1
  have hon : on9 S < 2 ^ 31 := Nat.lt_of_lt_of_le hw.2.1.2.2.2.2 (Nat.pow_le_pow_right (by decide) (by omega))
  refine j_iload_n (pc := 0) C dX9_misfit_0 rfl 1 rfl ?_
  refine j_callS (pc := 1) C [.int (nI p)] [] (rm0 := ({ frames := 6, cells := 0, slots := 0, locals := 136 } : Room)) (k' := 0) (n' := 0) Q.1 (c_X9_checkPlace_t (xl X) (xw X) hp31) mp_X9_checkPlace wm_944 rfl rfl (Nat.le_of_ble_eq_true rfl) dX9_misfit_1 ⟨by decide, by decide⟩ ⟨Nat.le_of_ble_eq_true rfl, Nat.le_of_ble_eq_true rfl⟩ rfl rfl (det0 ?_)
  refine j_iconst (pc := 4) C (nI 0) dX9_misfit_4 (by decide) ?_
  refine j_istore_n (pc := 5) C [(2, .int (nI 0)), (0, .ref a0), (1, .int (nI p))] dX9_misfit_5 rfl (by decide) rfl ?_
  refine j_iconst (pc := 6) C (nI 0) dX9_misfit_6 (by decide) ?_
  refine j_istore_n (pc := 7) C [(3, .int (nI 0)), (2, .int (nI 0)), (0, .ref a0), (1, .int (nI p))] dX9_misfit_7 rfl (by decide) rfl ?_
  have loop : ∀ (f : Nat) (k a : Nat), (k ≤ nW S) → (nW S < k + f) → (a ≤ p ∧ a ≤ k) → (misF S (nW S) 0 p = misF S (nW S - k) k (p - a)) → J X 0 0 σ [(3, .int (nI k)), (2, .int (nI a)), (0, .ref a0), (1, .int (nI p))] [] 8 := by
    intro f
    induction f with
    | zero => intro k a h1 h2 h3 h4; exact absurd h2 (by omega)
    | succ f ih =>
      intro k a h1 h2 h3 h4
      refine j_iload_n (pc := 8) C dX9_misfit_8 rfl 0 rfl ?_
      refine j_aload_n (pc := 9) C dX9_misfit_9 rfl 2 rfl ?_
      refine j_getA (pc := 10) C fp_X9_19 ha0 rfl (f := 577) rfl (5, 0) (hG σ (5, 0)) z3 (⟨hx.1.1, rfl⟩ : At _ (5, 0) _) dX9_misfit_10 ?_
      refine j_callV (pc := 13) C [] [.int (nI k)] (rm0 := ({ frames := 6, cells := 0, slots := 0, locals := 136 } : Room)) (k' := 0) (n' := 0) Q.1 (c_X4_wordCount (xl X) (xw X) hw hx (⟨hx.1.1, rfl⟩ : At _ (5, 0) _)) mp_X4_wordCount wm_243 (⟨hx.1.1, rfl⟩ : At _ (5, 0) _) rfl rfl (by decide) rfl rfl (Nat.le_of_ble_eq_true rfl) dX9_misfit_13 ⟨by decide, by decide⟩ ⟨Nat.le_of_ble_eq_true rfl, Nat.le_of_ble_eq_true rfl⟩ rfl rfl (det1 ?_)
      refine jn_icmp_ge (pc := 16) C 66 (a := k) (b := nW S) (by omega) (by omega) dX9_misfit_16 (by decide) (fun c1 => ?_) (fun c1 => ?_)
      · have e9 : k = nW S := Nat.le_antisymm h1 c1
        rw [e9, Nat.sub_self] at h4
        refine j_iconst (pc := 66) C (-1) dX9_misfit_66 (by decide) ?_
        refine j_topi (noneI (misF S (nW S) 0 p)) (by rw [h4]; rfl) ?_
        exact j_ireturn (pc := 67) C Q dX9_misfit_67 (Nat.le_of_ble_eq_true rfl) (Nat.le_of_ble_eq_true rfl) (⟨rfl, rfl⟩)
      · rw [show nW S - k = nW S - (k + 1) + 1 by omega, misF_succ] at h4
        refine j_aload_n (pc := 19) C dX9_misfit_19 rfl 2 rfl ?_
        refine j_getA (pc := 20) C fp_X9_19 ha0 rfl (f := 577) rfl (5, 0) (hG σ (5, 0)) z3 (⟨hx.1.1, rfl⟩ : At _ (5, 0) _) dX9_misfit_20 ?_
        refine j_iload_n (pc := 23) C dX9_misfit_23 rfl 0 rfl ?_
        by_cases c2 : hd9 S k = 1
        · refine j_callV (pc := 24) C [.int (nI k)] [] (rm0 := ({ frames := 6, cells := 0, slots := 0, locals := 136 } : Room)) (k' := 0) (n' := 0) Q.1 (c_X4_wordNumbered_t (xl X) (xw X) (o := ol S) gW hx.1 hx.2.2.2.1 (⟨hx.1.1, rfl⟩ : At _ (5, 0) _) c1 c2) mp_X4_wordNumbered wm_248 (⟨hx.1.1, rfl⟩ : At _ (5, 0) _) rfl rfl (by decide) rfl rfl (Nat.le_of_ble_eq_true rfl) dX9_misfit_24 ⟨by decide, by decide⟩ ⟨Nat.le_of_ble_eq_true rfl, Nat.le_of_ble_eq_true rfl⟩ rfl rfl (det1 ?_)
          refine j_astore (pc := 27) C [(4, .ref (hG σ (8, k))), (3, .int (nI k)), (2, .int (nI a)), (0, .ref a0), (1, .int (nI p))] dX9_misfit_27 (by decide) rfl ?_
          refine j_aload (pc := 29) C dX9_misfit_29 0 rfl ?_
          refine j_ifnull (pc := 31) C dX9_misfit_31 ?_
          refine j_aload_n (pc := 34) C dX9_misfit_34 rfl 3 rfl ?_
          refine j_aload (pc := 35) C dX9_misfit_35 0 rfl ?_
          refine j_aload_n (pc := 37) C dX9_misfit_37 rfl 3 rfl ?_
          refine j_getA (pc := 38) C fp_X9_10 ha0 rfl (f := 576) rfl (6, 0) (hG σ (6, 0)) z2 (⟨hp.1.1, rfl⟩ : At _ (6, 0) _) dX9_misfit_38 ?_
          refine j_callV (pc := 41) C [] [.ref (hG σ (8, k)), .ref a0] (rm0 := ({ frames := 6, cells := 0, slots := 0, locals := 136 } : Room)) (k' := 0) (n' := 0) Q.1 (c_X5_setOfOn (xl X) (xw X) hw hp (⟨hp.1.1, rfl⟩ : At _ (6, 0) _)) mp_X5_setOfOn wm_925 (⟨hp.1.1, rfl⟩ : At _ (6, 0) _) rfl rfl (by decide) rfl rfl (Nat.le_of_ble_eq_true rfl) dX9_misfit_41 ⟨by decide, by decide⟩ ⟨Nat.le_of_ble_eq_true rfl, Nat.le_of_ble_eq_true rfl⟩ rfl rfl (det1 ?_)
          refine j_callV (pc := 44) C [.ref (hG σ (8, k)), .int (nI (on9 S))] [] (rm0 := ({ frames := 6, cells := 0, slots := 0, locals := 136 } : Room)) (k' := 0) (n' := 0) Q.1 (c_X9_fits (xl X) (xw X) hw hc ha0 c1 c2 ⟨hx.2.2.2.1.1.live c1, rfl⟩ hon) mp_X9_fits wm_972 ha0 rfl rfl (by decide) rfl rfl (Nat.le_of_ble_eq_true rfl) dX9_misfit_44 ⟨by decide, by decide⟩ ⟨Nat.le_of_ble_eq_true rfl, Nat.le_of_ble_eq_true rfl⟩ rfl rfl (det1 ?_)
          refine jb_if_ne (pc := 47) C 60 (b := fitC S k (on9 S)) dX9_misfit_47 (by decide) (fun c3 => ?_) (fun c3 => ?_)
          · refine j_iinc (pc := 60) C (nI (k + 1)) [(3, .int (nI (k + 1))), (4, .ref (hG σ (8, k))), (2, .int (nI a)), (0, .ref a0), (1, .int (nI p))] dX9_misfit_60 1 rfl (nI_add k 1) (by decide) rfl ?_
            refine j_goto (pc := 63) C 8 dX9_misfit_63 (by decide) ?_
            exact J.to [0, 2, 3, 4] rfl (ih (k + 1) a (by omega) (by omega) ⟨h3.1, by omega⟩ (h4.trans (if_neg (fun z => by rw [show fits9 S k = true from c3] at z; exact absurd z.2 (by decide)))))
          · rw [if_pos ⟨c2, (show fits9 S k = false from c3)⟩] at h4
            refine j_iload_n (pc := 50) C dX9_misfit_50 rfl 2 rfl ?_
            refine j_iload_n (pc := 51) C dX9_misfit_51 rfl 4 rfl ?_
            refine jn_icmp_ne (pc := 52) C 57 (a := a) (b := p) (by omega) (by omega) dX9_misfit_52 (by decide) (fun c4 => ?_) (fun c4 => ?_)
            · refine j_iinc (pc := 57) C (nI (a + 1)) [(2, .int (nI (a + 1))), (4, .ref (hG σ (8, k))), (3, .int (nI k)), (0, .ref a0), (1, .int (nI p))] dX9_misfit_57 2 rfl (nI_add a 1) (by decide) rfl ?_
              refine j_iinc (pc := 60) C (nI (k + 1)) [(3, .int (nI (k + 1))), (2, .int (nI (a + 1))), (4, .ref (hG σ (8, k))), (0, .ref a0), (1, .int (nI p))] dX9_misfit_60 2 rfl (nI_add k 1) (by decide) rfl ?_
              refine j_goto (pc := 63) C 8 dX9_misfit_63 (by decide) ?_
              exact J.to [0, 1, 3, 4] rfl (ih (k + 1) (a + 1) (by omega) (by omega) ⟨by omega, by omega⟩ (h4.trans (by rw [if_neg (by omega), show p - a - 1 = p - (a + 1) by omega])))
            · refine j_iload_n (pc := 55) C dX9_misfit_55 rfl 1 rfl ?_
              refine j_topi (noneI (misF S (nW S) 0 p)) (by rw [h4, if_pos (by omega)]; rfl) ?_
              exact j_ireturn (pc := 56) C Q dX9_misfit_56 (Nat.le_of_ble_eq_true rfl) (Nat.le_of_ble_eq_true rfl) (⟨rfl, rfl⟩)
        · refine j_callV (pc := 24) C [.int (nI k)] [] (rm0 := ({ frames := 6, cells := 0, slots := 0, locals := 136 } : Room)) (k' := 0) (n' := 0) Q.1 (c_X4_wordNumbered_f (xl X) (xw X) (o := ol S) gW hx.1 hx.2.2.2.1 (⟨hx.1.1, rfl⟩ : At _ (5, 0) _) (x := nI k) (by rw [isWrd_nI (by omega), decide_eq_false c2, Bool.and_false])) mp_X4_wordNumbered wm_248 (⟨hx.1.1, rfl⟩ : At _ (5, 0) _) rfl rfl (by decide) rfl rfl (Nat.le_of_ble_eq_true rfl) dX9_misfit_24 ⟨by decide, by decide⟩ ⟨Nat.le_of_ble_eq_true rfl, Nat.le_of_ble_eq_true rfl⟩ rfl rfl (det1 ?_)
          refine j_astoreN (pc := 27) C [(4, .null), (3, .int (nI k)), (2, .int (nI a)), (0, .ref a0), (1, .int (nI p))] dX9_misfit_27 (by decide) rfl ?_
          refine j_aloadN (pc := 29) C dX9_misfit_29 0 rfl ?_
          refine j_ifnullN (pc := 31) C 60 dX9_misfit_31 (by decide) ?_
          refine j_iinc (pc := 60) C (nI (k + 1)) [(3, .int (nI (k + 1))), (4, .null), (2, .int (nI a)), (0, .ref a0), (1, .int (nI p))] dX9_misfit_60 1 rfl (nI_add k 1) (by decide) rfl ?_
          refine j_goto (pc := 63) C 8 dX9_misfit_63 (by decide) ?_
          exact J.to [0, 2, 3, 4] rfl (ih (k + 1) a (by omega) (by omega) ⟨h3.1, by omega⟩ (h4.trans (if_neg (fun z => c2 z.1))))
  exact J.to [0, 1, 2, 3] rfl (loop (nW S + 1) 0 0 (Nat.zero_le _) (by omega) ⟨Nat.zero_le _, Nat.le_refl _⟩ (by rw [Nat.sub_zero, Nat.sub_zero]))
set_option maxHeartbeats 4000000 in
set_option maxRecDepth 100000 in
theorem c_X9_misfit_1 (L9 : Launch) (w9 : Wd) (hst9 : L9.stackTraces = false) {σ : HS} {S : SP} (hw : WF S) (hc : CI S σ) {a0 : Nat} (ha0 : At σ (9, 0) a0) {x : Int32} (h : decide (0 ≤ x.toInt) = false) : MX L9 w9 yX9_misfit cX9_misfit 5 (some .int) ({ frames := 7, cells := 1, slots := 6, locals := 101 } : Room) [.ref a0, .int x] σ (fun _ _ => False) (fun E σ' => E = "java/lang/IndexOutOfBoundsException" ∧ σ' = σ) := by
  refine MX.of (by decide +kernel) (Nat.le_of_ble_eq_true rfl) hst9 (fun X hX1 hX2 C Q NT => ?_)
  subst hX1; subst hX2
  show J X 0 0 σ [(0, .ref a0), (1, .int x)] [] 0
  obtain ⟨hp, he, hx, hf9, hd⟩ := id hc
  obtain ⟨z1, z2, z3, z4⟩ := id hf9
  obtain ⟨ef, e1, e2⟩ := id he
  have gS := hw.1.1
  have gC := hw.1.2.2.2.1
  have gR := hw.2.1.1
  have gL := hw.2.2.1.1
  have gW := hw.2.2.2.1.1
  have gD := hw.2.2.2.2.1
  refine j_iload_n (pc := 0) C dX9_misfit_0 rfl 1 rfl ?_
  exact j_callSX (pc := 1) C [.int x] [] (rm0 := ({ frames := 7, cells := 1, slots := 6, locals := 101 } : Room)) (k' := 1) (n' := 6) Q NT (c_X9_checkPlace_x (xl X) (xw X) hst9 h) mp_X9_checkPlace wm_944 rfl rfl (Nat.le_of_ble_eq_true rfl) dX9_misfit_1 ⟨by decide, by decide⟩ ⟨Nat.le_of_ble_eq_true rfl, Nat.le_of_ble_eq_true rfl⟩ rfl rfl (fun _ _ h => h) (fun _ _ h => (h : False).elim)
def clm (S : SP) (r : Nat) (b : Bool) (w : Nat) : Bool := decide (hd9 S w = 1) && (if b then (xc9 S (ol S w) (cw S w)).isNone && fitC S w (on9 S) && decide (0 < steps9 S (ol S w) (cw S w) r) else !fitC S w (on9 S) && fitC S w (setOn (on9 S) r false))
theorem fitC_bare {S : SP} {w s : Nat} (h : (xc9 S (ol S w) (cw S w)).isNone = true) : fitC S w s = fitsBy S w s := by
  unfold fitC fitsBy
  rw [Option.isNone_iff_eq_none.mp h]; rfl
theorem fitC_exc {S : SP} {w s t : Nat} (h : (xc9 S (ol S w) (cw S w)).isNone = false) : fitC S w s = fitC S w t := by
  unfold fitC
  cases e : xc9 S (ol S w) (cw S w) with
  | none => rw [e] at h; cases h
  | some r => rfl
theorem clm_on {S : SP} {r w : Nat} {b : Bool} : clm S r b w = isClaim S r b w := by
  unfold clm isClaim bare
  cases e : (xc9 S (ol S w) (cw S w)).isNone with
  | true =>
    rw [fitC_bare e, fitC_bare e]
    cases b <;> cases decide (hd9 S w = 1) <;> rfl
  | false =>
    rw [fitC_exc e (s := setOn (on9 S) r false) (t := on9 S)]
    cases b <;> cases decide (hd9 S w = 1) <;> cases fitC S w (on9 S) <;> rfl
theorem clm_off {S : SP} {r w : Nat} {b : Bool} (h : (on9 S).testBit r = false) : clm S r b w = false := by
  unfold clm
  have e : setOn (on9 S) r false = on9 S := setOn_id.mpr h
  have e2 : steps9 S (ol S w) (cw S w) r = 0 := if_neg (by rw [h]; decide)
  rw [e, e2]
  cases b <;> cases decide (hd9 S w = 1) <;> cases fitC S w (on9 S) <;> cases (xc9 S (ol S w) (cw S w)).isNone <;> rfl
theorem clm_all {S : SP} {r : Nat} {b : Bool} : nI (fb_ct (clm S r b) (nW S)) = if (on9 S).testBit r = true then nI (fb_ct (isClaim S r b) (nW S)) else 0 := by
  by_cases h : (on9 S).testBit r = true
  · rw [if_pos h, fb_ct_cong (fun k _ => clm_on)]
  · rw [if_neg h, fb_ct_zero.mpr (fun k _ => clm_off (ts_nt h))]; rfl
set_option maxHeartbeats 4000000 in
set_option maxRecDepth 100000 in
theorem c_X9_claims_t (L9 : Launch) (w9 : Wd) {σ : HS} {S : SP} (hw : WF S) (hc : CI S σ) {a0 : Nat} (ha0 : At σ (9, 0) a0) {r : Nat} (h1 : r < nR S) : MJ L9 w9 yX9_claims cX9_claims 7 (some .int) ({ frames := 7, cells := 0, slots := 0, locals := 158 } : Room) [.ref a0, .int (nI r), .int (bI true)] σ (fun a9 σ' => a9 = some (.int (nI (fb_ct (clm S r true) (nW S)))) ∧ σ' = σ) := by
  refine MJ.of (by decide +kernel) (Nat.le_of_ble_eq_true rfl) (fun X hX1 hX2 C Q hinit => ?_)
  subst hX1; subst hX2
  show J X 0 0 σ [(0, .ref a0), (1, .int (nI r)), (2, .int (bI true))] [] 0
  obtain ⟨hp, he, hx, hf9, hd⟩ := id hc
  obtain ⟨z1, z2, z3, z4⟩ := id hf9
  obtain ⟨ef, e1, e2⟩ := id he
  have gS := hw.1.1
  have gC := hw.1.2.2.2.1
  have gR := hw.2.1.1
  have gL := hw.2.2.1.1
  have gW := hw.2.2.2.1.1
  have gD := hw.2.2.2.2.1
  refine j_aload_n (pc := 0) C dX9_claims_0 rfl 0 rfl ?_
  refine j_iload_n (pc := 1) C dX9_claims_1 rfl 1 rfl ?_
  refine j_callV (pc := 2) C [.int (nI r)] [] (rm0 := ({ frames := 7, cells := 0, slots := 0, locals := 158 } : Room)) (k' := 0) (n' := 0) Q.1 (c_X9_ruleNumbered_t (xl X) (xw X) hw hc ha0 h1) mp_X9_ruleNumbered wm_705 ha0 rfl rfl (by decide) rfl rfl (Nat.le_of_ble_eq_true rfl) dX9_claims_2 ⟨by decide, by decide⟩ ⟨Nat.le_of_ble_eq_true rfl, Nat.le_of_ble_eq_true rfl⟩ rfl rfl (det1 ?_)
  refine j_astore_n (pc := 5) C [(3, .ref (hG σ (7, r))), (0, .ref a0), (1, .int (nI r)), (2, .int (bI true))] dX9_claims_5 rfl (by decide) rfl ?_
  refine j_iconst (pc := 6) C (nI 0) dX9_claims_6 (by decide) ?_
  refine j_istore (pc := 7) C [(4, .int (nI 0)), (3, .ref (hG σ (7, r))), (0, .ref a0), (1, .int (nI r)), (2, .int (bI true))] dX9_claims_7 (by decide) rfl ?_
  refine j_iconst (pc := 9) C (nI 0) dX9_claims_9 (by decide) ?_
  refine j_istore (pc := 10) C [(5, .int (nI 0)), (4, .int (nI 0)), (3, .ref (hG σ (7, r))), (0, .ref a0), (1, .int (nI r)), (2, .int (bI true))] dX9_claims_10 (by decide) rfl ?_
  have loop : ∀ (f : Nat) (k : Nat), (k ≤ nW S) → (nW S < k + f) → J X 0 0 σ [(5, .int (nI k)), (4, .int (nI (fb_ct (clm S r true) k))), (3, .ref (hG σ (7, r))), (0, .ref a0), (1, .int (nI r)), (2, .int (bI true))] [] 12 := by
    intro f
    induction f with
    | zero => intro k g1 g2; exact absurd g2 (by omega)
    | succ f ih =>
      intro k g1 g2
      have hle := fb_ct_le (clm S r true) k
      refine j_iload (pc := 12) C dX9_claims_12 0 rfl ?_
      refine j_aload_n (pc := 14) C dX9_claims_14 rfl 3 rfl ?_
      refine j_getA (pc := 15) C fp_X9_19 ha0 rfl (f := 577) rfl (5, 0) (hG σ (5, 0)) z3 (⟨hx.1.1, rfl⟩ : At _ (5, 0) _) dX9_claims_15 ?_
      refine j_callV (pc := 18) C [] [.int (nI k)] (rm0 := ({ frames := 7, cells := 0, slots := 0, locals := 158 } : Room)) (k' := 0) (n' := 0) Q.1 (c_X4_wordCount (xl X) (xw X) hw hx (⟨hx.1.1, rfl⟩ : At _ (5, 0) _)) mp_X4_wordCount wm_243 (⟨hx.1.1, rfl⟩ : At _ (5, 0) _) rfl rfl (by decide) rfl rfl (Nat.le_of_ble_eq_true rfl) dX9_claims_18 ⟨by decide, by decide⟩ ⟨Nat.le_of_ble_eq_true rfl, Nat.le_of_ble_eq_true rfl⟩ rfl rfl (det1 ?_)
      refine jn_icmp_ge (pc := 21) C 76 (a := k) (b := nW S) (by omega) (by omega) dX9_claims_21 (by decide) (fun c1 => ?_) (fun c1 => ?_)
      · have e9 : k = nW S := Nat.le_antisymm g1 c1
        refine j_iload (pc := 76) C dX9_claims_76 1 rfl ?_
        refine j_topi (nI (fb_ct (clm S r true) (nW S))) (by rw [e9]) ?_
        exact j_ireturn (pc := 78) C Q dX9_claims_78 (Nat.le_of_ble_eq_true rfl) (Nat.le_of_ble_eq_true rfl) (⟨rfl, rfl⟩)
      · refine j_aload_n (pc := 24) C dX9_claims_24 rfl 3 rfl ?_
        refine j_getA (pc := 25) C fp_X9_19 ha0 rfl (f := 577) rfl (5, 0) (hG σ (5, 0)) z3 (⟨hx.1.1, rfl⟩ : At _ (5, 0) _) dX9_claims_25 ?_
        refine j_iload (pc := 28) C dX9_claims_28 0 rfl ?_
        by_cases c2 : hd9 S k = 1
        · refine j_callV (pc := 30) C [.int (nI k)] [] (rm0 := ({ frames := 7, cells := 0, slots := 0, locals := 158 } : Room)) (k' := 0) (n' := 0) Q.1 (c_X4_wordNumbered_t (xl X) (xw X) (o := ol S) gW hx.1 hx.2.2.2.1 (⟨hx.1.1, rfl⟩ : At _ (5, 0) _) c1 c2) mp_X4_wordNumbered wm_248 (⟨hx.1.1, rfl⟩ : At _ (5, 0) _) rfl rfl (by decide) rfl rfl (Nat.le_of_ble_eq_true rfl) dX9_claims_30 ⟨by decide, by decide⟩ ⟨Nat.le_of_ble_eq_true rfl, Nat.le_of_ble_eq_true rfl⟩ rfl rfl (det1 ?_)
          refine j_astore (pc := 33) C [(6, .ref (hG σ (8, k))), (5, .int (nI k)), (4, .int (nI (fb_ct (clm S r true) k))), (3, .ref (hG σ (7, r))), (0, .ref a0), (1, .int (nI r)), (2, .int (bI true))] dX9_claims_33 (by decide) rfl ?_
          refine j_aload (pc := 35) C dX9_claims_35 0 rfl ?_
          refine j_ifnull (pc := 37) C dX9_claims_37 ?_
          refine j_iload_n (pc := 40) C dX9_claims_40 rfl 6 rfl ?_
          refine j_if_eq (pc := 41) C 57 dX9_claims_41 (by decide) (fun q => absurd q (by decide)) (fun _ => ?_)
          refine j_aload_n (pc := 44) C dX9_claims_44 rfl 4 rfl ?_
          refine j_aload (pc := 45) C dX9_claims_45 0 rfl ?_
          refine j_aload_n (pc := 47) C dX9_claims_47 rfl 3 rfl ?_
          refine j_callV (pc := 48) C [.ref (hG σ (8, k)), .ref (hG σ (7, r))] [] (rm0 := ({ frames := 7, cells := 0, slots := 0, locals := 158 } : Room)) (k' := 0) (n' := 0) Q.1 (c_X9_isSupport (xl X) (xw X) hw hc ha0 c1 c2 ⟨hx.2.2.2.1.1.live c1, rfl⟩ h1 ⟨hp.2.2.2.1.live h1, rfl⟩) mp_X9_isSupport wm_990 ha0 rfl rfl (by decide) rfl rfl (Nat.le_of_ble_eq_true rfl) dX9_claims_48 ⟨by decide, by decide⟩ ⟨Nat.le_of_ble_eq_true rfl, Nat.le_of_ble_eq_true rfl⟩ rfl rfl (det1 ?_)
          refine jb_if_eq (pc := 51) C 70 (b := (xc9 S (ol S k) (cw S k)).isNone && fitC S k (on9 S) && decide (0 < steps9 S (ol S k) (cw S k) r)) dX9_claims_51 (by decide) (fun c3 => ?_) (fun c3 => ?_)
          · refine j_iinc (pc := 70) C (nI (k + 1)) [(5, .int (nI (k + 1))), (6, .ref (hG σ (8, k))), (4, .int (nI (fb_ct (clm S r true) k))), (3, .ref (hG σ (7, r))), (0, .ref a0), (1, .int (nI r)), (2, .int (bI true))] dX9_claims_70 1 rfl (nI_add k 1) (by decide) rfl ?_
            refine j_goto (pc := 73) C 12 dX9_claims_73 (by decide) ?_
            have l0 := ih (k + 1) (by omega) (by omega)
            rw [show fb_ct (clm S r true) (k + 1) = fb_ct (clm S r true) k from by rw [fb_ct_succ, show clm S r true k = false from (by unfold clm; rw [decide_eq_true c2]; exact c3)]; rfl] at l0
            exact J.to [0, 2, 3, 4, 5, 6] rfl l0
          · refine j_goto (pc := 54) C 67 dX9_claims_54 (by decide) ?_
            refine j_iinc (pc := 67) C (nI (fb_ct (clm S r true) k + 1)) [(4, .int (nI (fb_ct (clm S r true) k + 1))), (6, .ref (hG σ (8, k))), (5, .int (nI k)), (3, .ref (hG σ (7, r))), (0, .ref a0), (1, .int (nI r)), (2, .int (bI true))] dX9_claims_67 2 rfl (nI_add (fb_ct (clm S r true) k) 1) (by decide) rfl ?_
            refine j_iinc (pc := 70) C (nI (k + 1)) [(5, .int (nI (k + 1))), (4, .int (nI (fb_ct (clm S r true) k + 1))), (6, .ref (hG σ (8, k))), (3, .ref (hG σ (7, r))), (0, .ref a0), (1, .int (nI r)), (2, .int (bI true))] dX9_claims_70 2 rfl (nI_add k 1) (by decide) rfl ?_
            refine j_goto (pc := 73) C 12 dX9_claims_73 (by decide) ?_
            have l0 := ih (k + 1) (by omega) (by omega)
            rw [show fb_ct (clm S r true) (k + 1) = fb_ct (clm S r true) k + 1 from by rw [fb_ct_succ, show clm S r true k = true from (by unfold clm; rw [decide_eq_true c2]; exact c3)]; rfl] at l0
            exact J.to [0, 1, 3, 4, 5, 6] rfl l0
        · refine j_callV (pc := 30) C [.int (nI k)] [] (rm0 := ({ frames := 7, cells := 0, slots := 0, locals := 158 } : Room)) (k' := 0) (n' := 0) Q.1 (c_X4_wordNumbered_f (xl X) (xw X) (o := ol S) gW hx.1 hx.2.2.2.1 (⟨hx.1.1, rfl⟩ : At _ (5, 0) _) (x := nI k) (by rw [isWrd_nI (by omega), decide_eq_false c2, Bool.and_false])) mp_X4_wordNumbered wm_248 (⟨hx.1.1, rfl⟩ : At _ (5, 0) _) rfl rfl (by decide) rfl rfl (Nat.le_of_ble_eq_true rfl) dX9_claims_30 ⟨by decide, by decide⟩ ⟨Nat.le_of_ble_eq_true rfl, Nat.le_of_ble_eq_true rfl⟩ rfl rfl (det1 ?_)
          refine j_astoreN (pc := 33) C [(6, .null), (5, .int (nI k)), (4, .int (nI (fb_ct (clm S r true) k))), (3, .ref (hG σ (7, r))), (0, .ref a0), (1, .int (nI r)), (2, .int (bI true))] dX9_claims_33 (by decide) rfl ?_
          refine j_aloadN (pc := 35) C dX9_claims_35 0 rfl ?_
          refine j_ifnullN (pc := 37) C 70 dX9_claims_37 (by decide) ?_
          refine j_iinc (pc := 70) C (nI (k + 1)) [(5, .int (nI (k + 1))), (6, .null), (4, .int (nI (fb_ct (clm S r true) k))), (3, .ref (hG σ (7, r))), (0, .ref a0), (1, .int (nI r)), (2, .int (bI true))] dX9_claims_70 1 rfl (nI_add k 1) (by decide) rfl ?_
          refine j_goto (pc := 73) C 12 dX9_claims_73 (by decide) ?_
          have l0 := ih (k + 1) (by omega) (by omega)
          rw [show fb_ct (clm S r true) (k + 1) = fb_ct (clm S r true) k from by rw [fb_ct_succ, show clm S r true k = false from (by unfold clm; rw [decide_eq_false c2]; rfl)]; rfl] at l0
          exact J.to [0, 2, 3, 4, 5, 6] rfl l0
  exact J.to [0, 1, 2, 3, 4, 5] rfl (loop (nW S + 1) 0 (Nat.zero_le _) (by omega))
set_option maxHeartbeats 4000000 in
set_option maxRecDepth 100000 in
theorem c_X9_claims_f (L9 : Launch) (w9 : Wd) {σ : HS} {S : SP} (hw : WF S) (hc : CI S σ) {a0 : Nat} (ha0 : At σ (9, 0) a0) {r : Nat} (h1 : r < nR S) : MJ L9 w9 yX9_claims cX9_claims 7 (some .int) ({ frames := 7, cells := 0, slots := 0, locals := 159 } : Room) [.ref a0, .int (nI r), .int (bI false)] σ (fun a9 σ' => a9 = some (.int (nI (fb_ct (clm S r false) (nW S)))) ∧ σ' = σ) := by
  refine MJ.of (by decide +kernel) (Nat.le_of_ble_eq_true rfl) (fun X hX1 hX2 C Q hinit => ?_)
  subst hX1; subst hX2
  show J X 0 0 σ [(0, .ref a0), (1, .int (nI r)), (2, .int (bI false))] [] 0
  obtain ⟨hp, he, hx, hf9, hd⟩ := id hc
  obtain ⟨z1, z2, z3, z4⟩ := id hf9
  obtain ⟨ef, e1, e2⟩ := id he
  have gS := hw.1.1
  have gC := hw.1.2.2.2.1
  have gR := hw.2.1.1
  have gL := hw.2.2.1.1
  have gW := hw.2.2.2.1.1
  have gD := hw.2.2.2.2.1
  refine j_aload_n (pc := 0) C dX9_claims_0 rfl 0 rfl ?_
  refine j_iload_n (pc := 1) C dX9_claims_1 rfl 1 rfl ?_
  refine j_callV (pc := 2) C [.int (nI r)] [] (rm0 := ({ frames := 7, cells := 0, slots := 0, locals := 159 } : Room)) (k' := 0) (n' := 0) Q.1 (c_X9_ruleNumbered_t (xl X) (xw X) hw hc ha0 h1) mp_X9_ruleNumbered wm_705 ha0 rfl rfl (by decide) rfl rfl (Nat.le_of_ble_eq_true rfl) dX9_claims_2 ⟨by decide, by decide⟩ ⟨Nat.le_of_ble_eq_true rfl, Nat.le_of_ble_eq_true rfl⟩ rfl rfl (det1 ?_)
  refine j_astore_n (pc := 5) C [(3, .ref (hG σ (7, r))), (0, .ref a0), (1, .int (nI r)), (2, .int (bI false))] dX9_claims_5 rfl (by decide) rfl ?_
  refine j_iconst (pc := 6) C (nI 0) dX9_claims_6 (by decide) ?_
  refine j_istore (pc := 7) C [(4, .int (nI 0)), (3, .ref (hG σ (7, r))), (0, .ref a0), (1, .int (nI r)), (2, .int (bI false))] dX9_claims_7 (by decide) rfl ?_
  refine j_iconst (pc := 9) C (nI 0) dX9_claims_9 (by decide) ?_
  refine j_istore (pc := 10) C [(5, .int (nI 0)), (4, .int (nI 0)), (3, .ref (hG σ (7, r))), (0, .ref a0), (1, .int (nI r)), (2, .int (bI false))] dX9_claims_10 (by decide) rfl ?_
  have loop : ∀ (f : Nat) (k : Nat), (k ≤ nW S) → (nW S < k + f) → J X 0 0 σ [(5, .int (nI k)), (4, .int (nI (fb_ct (clm S r false) k))), (3, .ref (hG σ (7, r))), (0, .ref a0), (1, .int (nI r)), (2, .int (bI false))] [] 12 := by
    intro f
    induction f with
    | zero => intro k g1 g2; exact absurd g2 (by omega)
    | succ f ih =>
      intro k g1 g2
      have hle := fb_ct_le (clm S r false) k
      refine j_iload (pc := 12) C dX9_claims_12 0 rfl ?_
      refine j_aload_n (pc := 14) C dX9_claims_14 rfl 3 rfl ?_
      refine j_getA (pc := 15) C fp_X9_19 ha0 rfl (f := 577) rfl (5, 0) (hG σ (5, 0)) z3 (⟨hx.1.1, rfl⟩ : At _ (5, 0) _) dX9_claims_15 ?_
      refine j_callV (pc := 18) C [] [.int (nI k)] (rm0 := ({ frames := 7, cells := 0, slots := 0, locals := 159 } : Room)) (k' := 0) (n' := 0) Q.1 (c_X4_wordCount (xl X) (xw X) hw hx (⟨hx.1.1, rfl⟩ : At _ (5, 0) _)) mp_X4_wordCount wm_243 (⟨hx.1.1, rfl⟩ : At _ (5, 0) _) rfl rfl (by decide) rfl rfl (Nat.le_of_ble_eq_true rfl) dX9_claims_18 ⟨by decide, by decide⟩ ⟨Nat.le_of_ble_eq_true rfl, Nat.le_of_ble_eq_true rfl⟩ rfl rfl (det1 ?_)
      refine jn_icmp_ge (pc := 21) C 76 (a := k) (b := nW S) (by omega) (by omega) dX9_claims_21 (by decide) (fun c1 => ?_) (fun c1 => ?_)
      · have e9 : k = nW S := Nat.le_antisymm g1 c1
        refine j_iload (pc := 76) C dX9_claims_76 1 rfl ?_
        refine j_topi (nI (fb_ct (clm S r false) (nW S))) (by rw [e9]) ?_
        exact j_ireturn (pc := 78) C Q dX9_claims_78 (Nat.le_of_ble_eq_true rfl) (Nat.le_of_ble_eq_true rfl) (⟨rfl, rfl⟩)
      · refine j_aload_n (pc := 24) C dX9_claims_24 rfl 3 rfl ?_
        refine j_getA (pc := 25) C fp_X9_19 ha0 rfl (f := 577) rfl (5, 0) (hG σ (5, 0)) z3 (⟨hx.1.1, rfl⟩ : At _ (5, 0) _) dX9_claims_25 ?_
        refine j_iload (pc := 28) C dX9_claims_28 0 rfl ?_
        by_cases c2 : hd9 S k = 1
        · refine j_callV (pc := 30) C [.int (nI k)] [] (rm0 := ({ frames := 7, cells := 0, slots := 0, locals := 159 } : Room)) (k' := 0) (n' := 0) Q.1 (c_X4_wordNumbered_t (xl X) (xw X) (o := ol S) gW hx.1 hx.2.2.2.1 (⟨hx.1.1, rfl⟩ : At _ (5, 0) _) c1 c2) mp_X4_wordNumbered wm_248 (⟨hx.1.1, rfl⟩ : At _ (5, 0) _) rfl rfl (by decide) rfl rfl (Nat.le_of_ble_eq_true rfl) dX9_claims_30 ⟨by decide, by decide⟩ ⟨Nat.le_of_ble_eq_true rfl, Nat.le_of_ble_eq_true rfl⟩ rfl rfl (det1 ?_)
          refine j_astore (pc := 33) C [(6, .ref (hG σ (8, k))), (5, .int (nI k)), (4, .int (nI (fb_ct (clm S r false) k))), (3, .ref (hG σ (7, r))), (0, .ref a0), (1, .int (nI r)), (2, .int (bI false))] dX9_claims_33 (by decide) rfl ?_
          refine j_aload (pc := 35) C dX9_claims_35 0 rfl ?_
          refine j_ifnull (pc := 37) C dX9_claims_37 ?_
          refine j_iload_n (pc := 40) C dX9_claims_40 rfl 6 rfl ?_
          refine j_if_eq (pc := 41) C 57 dX9_claims_41 (by decide) (fun _ => ?_) (fun q => absurd q (by decide))
          refine j_aload_n (pc := 57) C dX9_claims_57 rfl 4 rfl ?_
          refine j_aload (pc := 58) C dX9_claims_58 0 rfl ?_
          refine j_aload_n (pc := 60) C dX9_claims_60 rfl 3 rfl ?_
          refine j_callV (pc := 61) C [.ref (hG σ (8, k)), .ref (hG σ (7, r))] [] (rm0 := ({ frames := 7, cells := 0, slots := 0, locals := 159 } : Room)) (k' := 0) (n' := 0) Q.1 (c_X9_isContradiction (xl X) (xw X) hw hc ha0 c1 c2 ⟨hx.2.2.2.1.1.live c1, rfl⟩ h1 ⟨hp.2.2.2.1.live h1, rfl⟩) mp_X9_isContradiction wm_994 ha0 rfl rfl (by decide) rfl rfl (Nat.le_of_ble_eq_true rfl) dX9_claims_61 ⟨by decide, by decide⟩ ⟨Nat.le_of_ble_eq_true rfl, Nat.le_of_ble_eq_true rfl⟩ rfl rfl (det1 ?_)
          refine jb_if_eq (pc := 64) C 70 (b := !fitC S k (on9 S) && fitC S k (setOn (on9 S) r false)) dX9_claims_64 (by decide) (fun c3 => ?_) (fun c3 => ?_)
          · refine j_iinc (pc := 70) C (nI (k + 1)) [(5, .int (nI (k + 1))), (6, .ref (hG σ (8, k))), (4, .int (nI (fb_ct (clm S r false) k))), (3, .ref (hG σ (7, r))), (0, .ref a0), (1, .int (nI r)), (2, .int (bI false))] dX9_claims_70 1 rfl (nI_add k 1) (by decide) rfl ?_
            refine j_goto (pc := 73) C 12 dX9_claims_73 (by decide) ?_
            have l0 := ih (k + 1) (by omega) (by omega)
            rw [show fb_ct (clm S r false) (k + 1) = fb_ct (clm S r false) k from by rw [fb_ct_succ, show clm S r false k = false from (by unfold clm; rw [decide_eq_true c2]; exact c3)]; rfl] at l0
            exact J.to [0, 2, 3, 4, 5, 6] rfl l0
          · refine j_iinc (pc := 67) C (nI (fb_ct (clm S r false) k + 1)) [(4, .int (nI (fb_ct (clm S r false) k + 1))), (6, .ref (hG σ (8, k))), (5, .int (nI k)), (3, .ref (hG σ (7, r))), (0, .ref a0), (1, .int (nI r)), (2, .int (bI false))] dX9_claims_67 2 rfl (nI_add (fb_ct (clm S r false) k) 1) (by decide) rfl ?_
            refine j_iinc (pc := 70) C (nI (k + 1)) [(5, .int (nI (k + 1))), (4, .int (nI (fb_ct (clm S r false) k + 1))), (6, .ref (hG σ (8, k))), (3, .ref (hG σ (7, r))), (0, .ref a0), (1, .int (nI r)), (2, .int (bI false))] dX9_claims_70 2 rfl (nI_add k 1) (by decide) rfl ?_
            refine j_goto (pc := 73) C 12 dX9_claims_73 (by decide) ?_
            have l0 := ih (k + 1) (by omega) (by omega)
            rw [show fb_ct (clm S r false) (k + 1) = fb_ct (clm S r false) k + 1 from by rw [fb_ct_succ, show clm S r false k = true from (by unfold clm; rw [decide_eq_true c2]; exact c3)]; rfl] at l0
            exact J.to [0, 1, 3, 4, 5, 6] rfl l0
        · refine j_callV (pc := 30) C [.int (nI k)] [] (rm0 := ({ frames := 7, cells := 0, slots := 0, locals := 159 } : Room)) (k' := 0) (n' := 0) Q.1 (c_X4_wordNumbered_f (xl X) (xw X) (o := ol S) gW hx.1 hx.2.2.2.1 (⟨hx.1.1, rfl⟩ : At _ (5, 0) _) (x := nI k) (by rw [isWrd_nI (by omega), decide_eq_false c2, Bool.and_false])) mp_X4_wordNumbered wm_248 (⟨hx.1.1, rfl⟩ : At _ (5, 0) _) rfl rfl (by decide) rfl rfl (Nat.le_of_ble_eq_true rfl) dX9_claims_30 ⟨by decide, by decide⟩ ⟨Nat.le_of_ble_eq_true rfl, Nat.le_of_ble_eq_true rfl⟩ rfl rfl (det1 ?_)
          refine j_astoreN (pc := 33) C [(6, .null), (5, .int (nI k)), (4, .int (nI (fb_ct (clm S r false) k))), (3, .ref (hG σ (7, r))), (0, .ref a0), (1, .int (nI r)), (2, .int (bI false))] dX9_claims_33 (by decide) rfl ?_
          refine j_aloadN (pc := 35) C dX9_claims_35 0 rfl ?_
          refine j_ifnullN (pc := 37) C 70 dX9_claims_37 (by decide) ?_
          refine j_iinc (pc := 70) C (nI (k + 1)) [(5, .int (nI (k + 1))), (6, .null), (4, .int (nI (fb_ct (clm S r false) k))), (3, .ref (hG σ (7, r))), (0, .ref a0), (1, .int (nI r)), (2, .int (bI false))] dX9_claims_70 1 rfl (nI_add k 1) (by decide) rfl ?_
          refine j_goto (pc := 73) C 12 dX9_claims_73 (by decide) ?_
          have l0 := ih (k + 1) (by omega) (by omega)
          rw [show fb_ct (clm S r false) (k + 1) = fb_ct (clm S r false) k from by rw [fb_ct_succ, show clm S r false k = false from (by unfold clm; rw [decide_eq_false c2]; rfl)]; rfl] at l0
          exact J.to [0, 2, 3, 4, 5, 6] rfl l0
  exact J.to [0, 1, 2, 3, 4, 5] rfl (loop (nW S + 1) 0 (Nat.zero_le _) (by omega))
set_option maxHeartbeats 4000000 in
set_option maxRecDepth 100000 in
theorem c_X9_claims_1 (L9 : Launch) (w9 : Wd) (hst9 : L9.stackTraces = false) {σ : HS} {S : SP} (hw : WF S) (hc : CI S σ) {a0 : Nat} (ha0 : At σ (9, 0) a0) {x : Int32} {d : Bool} (h : inI x (nR S) = false) : MX L9 w9 yX9_claims cX9_claims 7 (some .int) ({ frames := 7, cells := 1, slots := 6, locals := 107 } : Room) [.ref a0, .int x, .int (bI d)] σ (fun _ _ => False) (fun E σ' => E = "java/lang/IndexOutOfBoundsException" ∧ σ' = σ) := by
  refine MX.of (by decide +kernel) (Nat.le_of_ble_eq_true rfl) hst9 (fun X hX1 hX2 C Q NT => ?_)
  subst hX1; subst hX2
  show J X 0 0 σ [(0, .ref a0), (1, .int x), (2, .int (bI d))] [] 0
  obtain ⟨hp, he, hx, hf9, hd⟩ := id hc
  obtain ⟨z1, z2, z3, z4⟩ := id hf9
  obtain ⟨ef, e1, e2⟩ := id he
  have gS := hw.1.1
  have gC := hw.1.2.2.2.1
  have gR := hw.2.1.1
  have gL := hw.2.2.1.1
  have gW := hw.2.2.2.1.1
  have gD := hw.2.2.2.2.1
  refine j_aload_n (pc := 0) C dX9_claims_0 rfl 0 rfl ?_
  refine j_iload_n (pc := 1) C dX9_claims_1 rfl 1 rfl ?_
  exact j_callVX (pc := 2) C [.int x] [] (rm0 := ({ frames := 7, cells := 1, slots := 6, locals := 107 } : Room)) (k' := 1) (n' := 6) Q NT (c_X9_ruleNumbered_x (xl X) (xw X) hst9 hw hc ha0 h) mp_X9_ruleNumbered wm_705 ha0 rfl rfl (Nat.le_of_ble_eq_true rfl) rfl rfl (Nat.le_of_ble_eq_true rfl) dX9_claims_2 ⟨by decide, by decide⟩ ⟨Nat.le_of_ble_eq_true rfl, Nat.le_of_ble_eq_true rfl⟩ rfl rfl (fun _ _ h => h) (fun _ _ h => (h : False).elim)
