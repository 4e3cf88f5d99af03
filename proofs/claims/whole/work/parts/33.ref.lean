set_option maxHeartbeats 4000000 in
set_option maxRecDepth 100000 in
theorem c_X10_derived (L9 : Launch) (w9 : Wd) {σ : HS} {S : SP} {x9 : Nat → Nat} {k9 : Int32} (hs : RS S x9 k9 σ) (hw : WF S) {l c set : Nat} (hl : l < nL S) (hc : c < 8) (hset : set < 2 ^ 31) : MJ L9 w9 yX10_derived cX10_derived 9 (some .long) ({ frames := 3, cells := 0, slots := 0, locals := 84 } : Room) [.ref (x9 0), .int (nI l), .int (nI c), .int (nI set), .int (-1)] σ (fun a9 σ' => a9 = some (.long (enc4 (der S set (base9 S l c)))) ∧ RS S x9 k9 σ' ∧ MF σ σ') := by
  refine MJ.of (by decide +kernel) (Nat.le_of_ble_eq_true rfl) (fun X hX1 hX2 C Q hinit => ?_)
  subst hX1; subst hX2
  show J X 0 0 σ [(0, .ref (x9 0)), (1, .int (nI l)), (2, .int (nI c)), (3, .int (nI set)), (4, .int (-1))] [] 0
  have hme : MF σ σ := MF.rf
  have hbS := WF_base hw hl c
  have gL := hw.2.2.1.1
  have gR := hw.2.1.1
  have k1 := WF_fo hw hl
  have k2 := WF_en hw c
  refine j_aload_n (pc := 0) C dX10_derived_0 rfl 0 rfl ?_
  refine j_getA (pc := 1) C fp_X10_22 hs.2.1.1 rfl (f := 648) rfl (12, 408) (x9 8) ((hs.2.1.2 8 (by decide) (by decide)).1) ((hs.2.1.2 8 (by decide) (by decide)).2.1) dX10_derived_1 ?_
  refine j_iload_n (pc := 4) C dX10_derived_4 rfl 1 rfl ?_
  refine j_lald (pc := 5) C (p := l) (M := 16) ((hs.2.1.2 8 (by decide) (by decide)).2.1) rfl ((hs.2.1.2 8 (by decide) (by decide)).2.2) (by omega) (by decide) dX10_derived_5 ?_
  refine j_topl (enc4 (fo S l)) (hs.rdL 768 408 l (by decide) (by decide)) ?_
  refine j_aload_n (pc := 6) C dX10_derived_6 rfl 0 rfl ?_
  refine j_getA (pc := 7) C fp_X10_30 hs.2.1.1 rfl (f := 651) rfl (12, 411) (x9 11) ((hs.2.1.2 11 (by decide) (by decide)).1) ((hs.2.1.2 11 (by decide) (by decide)).2.1) dX10_derived_7 ?_
  refine j_iload_n (pc := 10) C dX10_derived_10 rfl 2 rfl ?_
  refine j_lald (pc := 11) C (p := c) (M := 8) ((hs.2.1.2 11 (by decide) (by decide)).2.1) rfl ((hs.2.1.2 11 (by decide) (by decide)).2.2) (by omega) (by decide) dX10_derived_11 ?_
  refine j_topl (enc4 (en S c)) (hs.rdL 768 411 c (by decide) (by decide)) ?_
  refine j_callS (pc := 12) C [.long (enc4 (fo S l)), .long (enc4 (en S c))] [] (rm0 := ({ frames := 3, cells := 0, slots := 0, locals := 84 } : Room)) (k' := 0) (n' := 0) Q.1 (c_X10_joined (xl X) (xw X) (okS.R hw.1 k1.1) (okS.R hw.1 k2.1) (by omega)) mp_X10_joined wm_1294 rfl rfl (Nat.le_of_ble_eq_true rfl) dX10_derived_12 ⟨by decide, by decide⟩ ⟨Nat.le_of_ble_eq_true rfl, Nat.le_of_ble_eq_true rfl⟩ rfl rfl (det1 ?_)
  refine j_lstore (pc := 15) C [(5, .long (enc4 (base9 S l c))), (0, .ref (x9 0)), (1, .int (nI l)), (2, .int (nI c)), (3, .int (nI set)), (4, .int (-1))] dX10_derived_15 (by decide) rfl ?_
  refine j_aload_n (pc := 17) C dX10_derived_17 rfl 1 rfl ?_
  refine j_iconst (pc := 18) C (nI 0) dX10_derived_18 (by decide) ?_
  refine j_putI (pc := 19) C fp_X10_165 hs.2.1.1 rfl rfl (Or.inl rfl) rfl (by decide) (f := 660) rfl dX10_derived_19 ?_
  have hs := hs.wM (nI 0); have hme := hme.sI (f := 660) (i := 0) (j := 0) (v := (nI 0)) rfl
  generalize sI σ 660 0 0 (nI 0) = σ1 at hs hme ⊢
  refine j_iconst (pc := 22) C (nI 0) dX10_derived_22 (by decide) ?_
  refine j_istore (pc := 23) C [(7, .int (nI 0)), (5, .long (enc4 (base9 S l c))), (0, .ref (x9 0)), (1, .int (nI l)), (2, .int (nI c)), (3, .int (nI set)), (4, .int (-1))] dX10_derived_23 (by decide) rfl ?_
  have loop : ∀ (f : Nat) (p : Nat) (σ9 : HS), (p ≤ nR S) → (nR S < p + f) → RS S x9 k9 σ9 → MF σ σ9 → J X 0 0 σ9 [(7, .int (nI p)), (5, .long (enc4 (derP S set (base9 S l c) p))), (0, .ref (x9 0)), (1, .int (nI l)), (2, .int (nI c)), (3, .int (nI set)), (4, .int (-1))] [] 25 := by
    clear hs hme
    intro f
    induction f with
    | zero => intro p σ9 h1 h2; exact absurd h2 (by omega)
    | succ f ih =>
      intro p σ9 h1 h2 hs hme
      have hrow := derP_ok hw hbS (set := set) p (by omega)
      refine j_iload (pc := 25) C dX10_derived_25 0 rfl ?_
      refine j_aload_n (pc := 27) C dX10_derived_27 rfl 2 rfl ?_
      refine j_getI (pc := 28) C fp_X10_133 hs.2.1.1 rfl (f := 659) rfl dX10_derived_28 ?_
      refine j_topi (nI (nR S)) (hs.rdI 659 0 0 (by decide) (by decide)) ?_
      refine jn_icmp_ge (pc := 31) C 79 (a := p) (b := nR S) (by omega) (by omega) dX10_derived_31 (by decide) (fun c1 => ?_) (fun c1 => ?_)
      · have e : p = nR S := Nat.le_antisymm h1 c1
        subst e
        refine j_lload (pc := 79) C dX10_derived_79 1 rfl ?_
        exact j_lreturn (pc := 81) C Q dX10_derived_81 (Nat.le_of_ble_eq_true rfl) (Nat.le_of_ble_eq_true rfl) (⟨rfl, hs, hme⟩)
      · have ho := hw.2.1.2.2.1 p (by omega)
        refine j_aload_n (pc := 34) C dX10_derived_34 rfl 2 rfl ?_
        refine j_getA (pc := 35) C fp_X10_48 hs.2.1.1 rfl (f := 657) rfl (11, 27) (x9 17) ((hs.2.1.2 17 (by decide) (by decide)).1) ((hs.2.1.2 17 (by decide) (by decide)).2.1) dX10_derived_35 ?_
        refine j_iload (pc := 38) C dX10_derived_38 0 rfl ?_
        refine j_iald (pc := 40) C (p := p) (M := 6) ((hs.2.1.2 17 (by decide) (by decide)).2.1) rfl ((hs.2.1.2 17 (by decide) (by decide)).2.2) (by omega) (by decide) dX10_derived_40 ?_
        refine j_topi (nI (orr S p)) (hs.rdI 704 27 p (by decide) (by decide)) ?_
        refine j_istore (pc := 41) C [(8, .int (nI (orr S p))), (7, .int (nI p)), (5, .long (enc4 (derP S set (base9 S l c) p))), (0, .ref (x9 0)), (1, .int (nI l)), (2, .int (nI c)), (3, .int (nI set)), (4, .int (-1))] dX10_derived_41 (by decide) rfl ?_
        refine j_iload_n (pc := 43) C dX10_derived_43 rfl 6 rfl ?_
        refine j_iload (pc := 44) C dX10_derived_44 0 rfl ?_
        refine j_ishr (pc := 46) C dX10_derived_46 ?_
        refine j_iconst (pc := 47) C (nI 1) dX10_derived_47 (by decide) ?_
        refine j_iand (pc := 48) C dX10_derived_48 ?_
        cases hB : set.testBit (orr S p) with
        | false =>
          refine j_topi (nI 0) ((bitI hset (by omega)).trans (by rw [hB]; rfl)) ?_
          refine j_iconst (pc := 49) C (nI 1) dX10_derived_49 (by decide) ?_
          refine j_icmp_ne (pc := 50) C 63 dX10_derived_50 (by decide) (fun _ => ?_) (fun q => absurd q (by decide))
          have e9 : derP S set (base9 S l c) (p + 1) = derP S set (base9 S l c) p := if_neg (by rw [hB]; decide)
          refine j_iload (pc := 63) C dX10_derived_63 0 rfl ?_
          refine j_iload (pc := 65) C dX10_derived_65 7 rfl ?_
          refine j_icmp_ne (pc := 67) C 73 dX10_derived_67 (by decide) (fun c0 => ?_) (fun c0 => (nI_nm1 (by omega) c0 : False).elim)
          refine j_iinc (pc := 73) C (nI (p + 1)) [(7, .int (nI (p + 1))), (8, .int (nI (orr S p))), (5, .long (enc4 (derP S set (base9 S l c) p))), (0, .ref (x9 0)), (1, .int (nI l)), (2, .int (nI c)), (3, .int (nI set)), (4, .int (-1))] dX10_derived_73 1 rfl (nI_add p 1) (by decide) rfl ?_
          refine j_goto (pc := 76) C 25 dX10_derived_76 (by decide) ?_
          have l0 := ih (p + 1) σ9 (by omega) (by omega) hs hme
          rw [e9] at l0
          exact J.to [0, 2, 3, 4, 5, 6, 7] rfl l0
        | true =>
          refine j_topi (nI 1) ((bitI hset (by omega)).trans (by rw [hB]; rfl)) ?_
          refine j_iconst (pc := 49) C (nI 1) dX10_derived_49 (by decide) ?_
          refine j_icmp_ne (pc := 50) C 63 dX10_derived_50 (by decide) (fun q => absurd q (by decide)) (fun _ => ?_)
          refine j_aload_n (pc := 53) C dX10_derived_53 rfl 3 rfl ?_
          refine j_iload (pc := 54) C dX10_derived_54 0 rfl ?_
          refine j_lload (pc := 56) C dX10_derived_56 2 rfl ?_
          refine j_callV (pc := 58) C [.int (nI (orr S p)), .long (enc4 (derP S set (base9 S l c) p))] [] (rm0 := ({ frames := 3, cells := 0, slots := 0, locals := 84 } : Room)) (k' := 0) (n' := 0) Q.1 (c_X10_gone (xl X) (xw X) hs hw ho hrow) mp_X10_gone wm_1301 hs.2.1.1 rfl rfl (by decide) rfl rfl (Nat.le_of_ble_eq_true rfl) dX10_derived_58 ⟨by decide, by decide⟩ ⟨Nat.le_of_ble_eq_true rfl, Nat.le_of_ble_eq_true rfl⟩ rfl rfl (fun v9 σ2 hp9 => ?_)
          obtain ⟨rfl, hs, hme9, hm⟩ := hp9
          have hme := hme.tr hme9
          show J X 0 0 σ2 [(8, .int (nI (orr S p))), (7, .int (nI p)), (5, .long (enc4 (derP S set (base9 S l c) p))), (0, .ref (x9 0)), (1, .int (nI l)), (2, .int (nI c)), (3, .int (nI set)), (4, .int (-1))] [.long (enc4 (gone S (orr S p) (derP S set (base9 S l c) p)).1)] 61
          have e9 : derP S set (base9 S l c) (p + 1) = (gone S (orr S p) (derP S set (base9 S l c) p)).1 := if_pos hB
          refine j_lstore (pc := 61) C [(5, .long (enc4 (gone S (orr S p) (derP S set (base9 S l c) p)).1)), (8, .int (nI (orr S p))), (7, .int (nI p)), (0, .ref (x9 0)), (1, .int (nI l)), (2, .int (nI c)), (3, .int (nI set)), (4, .int (-1))] dX10_derived_61 (by decide) rfl ?_
          refine j_iload (pc := 63) C dX10_derived_63 1 rfl ?_
          refine j_iload (pc := 65) C dX10_derived_65 7 rfl ?_
          refine j_icmp_ne (pc := 67) C 73 dX10_derived_67 (by decide) (fun c0 => ?_) (fun c0 => (nI_nm1 (by omega) c0 : False).elim)
          refine j_iinc (pc := 73) C (nI (p + 1)) [(7, .int (nI (p + 1))), (5, .long (enc4 (gone S (orr S p) (derP S set (base9 S l c) p)).1)), (8, .int (nI (orr S p))), (0, .ref (x9 0)), (1, .int (nI l)), (2, .int (nI c)), (3, .int (nI set)), (4, .int (-1))] dX10_derived_73 2 rfl (nI_add p 1) (by decide) rfl ?_
          refine j_goto (pc := 76) C 25 dX10_derived_76 (by decide) ?_
          have l0 := ih (p + 1) σ2 (by omega) (by omega) hs hme
          rw [e9] at l0
          exact J.to [0, 1, 3, 4, 5, 6, 7] rfl l0
  exact J.to [0, 1, 2, 3, 4, 5, 6] rfl (loop (nR S + 1) 0 _ (Nat.zero_le _) (by omega) hs hme)
set_option maxHeartbeats 4000000 in
set_option maxRecDepth 100000 in
theorem c_X10_derivedU (L9 : Launch) (w9 : Wd) {σ : HS} {S : SP} {x9 : Nat → Nat} {k9 : Int32} (hs : RS S x9 k9 σ) (hw : WF S) {l c set u : Nat} (hl : l < nL S) (hc : c < 8) (hset : set < 2 ^ 31) (hu : u < nR S) (hbu : set.testBit u = true) : MJ L9 w9 yX10_derived cX10_derived 9 (some .long) ({ frames := 3, cells := 0, slots := 0, locals := 84 } : Room) [.ref (x9 0), .int (nI l), .int (nI c), .int (nI set), .int (nI u)] σ (fun a9 σ' => a9 = some (.long (enc4 (gone S u (derP S set (base9 S l c) (pos9 S u))).1)) ∧ RS S x9 k9 σ' ∧ MF σ σ' ∧ hI σ' 660 0 0 = nI ((gone S u (derP S set (base9 S l c) (pos9 S u))).2)) := by
  refine MJ.of (by decide +kernel) (Nat.le_of_ble_eq_true rfl) (fun X hX1 hX2 C Q hinit => ?_)
  subst hX1; subst hX2
  show J X 0 0 σ [(0, .ref (x9 0)), (1, .int (nI l)), (2, .int (nI c)), (3, .int (nI set)), (4, .int (nI u))] [] 0
  have hme : MF σ σ := MF.rf
  have hbS := WF_base hw hl c
  have gL := hw.2.2.1.1
  have gR := hw.2.1.1
  have k1 := WF_fo hw hl
  have k2 := WF_en hw c
  obtain ⟨p1, p2, p3⟩ := pos_spec hw hu
  refine j_aload_n (pc := 0) C dX10_derived_0 rfl 0 rfl ?_
  refine j_getA (pc := 1) C fp_X10_22 hs.2.1.1 rfl (f := 648) rfl (12, 408) (x9 8) ((hs.2.1.2 8 (by decide) (by decide)).1) ((hs.2.1.2 8 (by decide) (by decide)).2.1) dX10_derived_1 ?_
  refine j_iload_n (pc := 4) C dX10_derived_4 rfl 1 rfl ?_
  refine j_lald (pc := 5) C (p := l) (M := 16) ((hs.2.1.2 8 (by decide) (by decide)).2.1) rfl ((hs.2.1.2 8 (by decide) (by decide)).2.2) (by omega) (by decide) dX10_derived_5 ?_
  refine j_topl (enc4 (fo S l)) (hs.rdL 768 408 l (by decide) (by decide)) ?_
  refine j_aload_n (pc := 6) C dX10_derived_6 rfl 0 rfl ?_
  refine j_getA (pc := 7) C fp_X10_30 hs.2.1.1 rfl (f := 651) rfl (12, 411) (x9 11) ((hs.2.1.2 11 (by decide) (by decide)).1) ((hs.2.1.2 11 (by decide) (by decide)).2.1) dX10_derived_7 ?_
  refine j_iload_n (pc := 10) C dX10_derived_10 rfl 2 rfl ?_
  refine j_lald (pc := 11) C (p := c) (M := 8) ((hs.2.1.2 11 (by decide) (by decide)).2.1) rfl ((hs.2.1.2 11 (by decide) (by decide)).2.2) (by omega) (by decide) dX10_derived_11 ?_
  refine j_topl (enc4 (en S c)) (hs.rdL 768 411 c (by decide) (by decide)) ?_
  refine j_callS (pc := 12) C [.long (enc4 (fo S l)), .long (enc4 (en S c))] [] (rm0 := ({ frames := 3, cells := 0, slots := 0, locals := 84 } : Room)) (k' := 0) (n' := 0) Q.1 (c_X10_joined (xl X) (xw X) (okS.R hw.1 k1.1) (okS.R hw.1 k2.1) (by omega)) mp_X10_joined wm_1294 rfl rfl (Nat.le_of_ble_eq_true rfl) dX10_derived_12 ⟨by decide, by decide⟩ ⟨Nat.le_of_ble_eq_true rfl, Nat.le_of_ble_eq_true rfl⟩ rfl rfl (det1 ?_)
  refine j_lstore (pc := 15) C [(5, .long (enc4 (base9 S l c))), (0, .ref (x9 0)), (1, .int (nI l)), (2, .int (nI c)), (3, .int (nI set)), (4, .int (nI u))] dX10_derived_15 (by decide) rfl ?_
  refine j_aload_n (pc := 17) C dX10_derived_17 rfl 1 rfl ?_
  refine j_iconst (pc := 18) C (nI 0) dX10_derived_18 (by decide) ?_
  refine j_putI (pc := 19) C fp_X10_165 hs.2.1.1 rfl rfl (Or.inl rfl) rfl (by decide) (f := 660) rfl dX10_derived_19 ?_
  have hs := hs.wM (nI 0); have hme := hme.sI (f := 660) (i := 0) (j := 0) (v := (nI 0)) rfl
  generalize sI σ 660 0 0 (nI 0) = σ1 at hs hme ⊢
  refine j_iconst (pc := 22) C (nI 0) dX10_derived_22 (by decide) ?_
  refine j_istore (pc := 23) C [(7, .int (nI 0)), (5, .long (enc4 (base9 S l c))), (0, .ref (x9 0)), (1, .int (nI l)), (2, .int (nI c)), (3, .int (nI set)), (4, .int (nI u))] dX10_derived_23 (by decide) rfl ?_
  have loop : ∀ (f : Nat) (p : Nat) (σ9 : HS), (p ≤ pos9 S u) → (pos9 S u < p + f) → RS S x9 k9 σ9 → MF σ σ9 → J X 0 0 σ9 [(7, .int (nI p)), (5, .long (enc4 (derP S set (base9 S l c) p))), (0, .ref (x9 0)), (1, .int (nI l)), (2, .int (nI c)), (3, .int (nI set)), (4, .int (nI u))] [] 25 := by
    clear hs hme
    intro f
    induction f with
    | zero => intro p σ9 h1 h2; exact absurd h2 (by omega)
    | succ f ih =>
      intro p σ9 h1 h2 hs hme
      have hrow := derP_ok hw hbS (set := set) p (by omega)
      refine j_iload (pc := 25) C dX10_derived_25 0 rfl ?_
      refine j_aload_n (pc := 27) C dX10_derived_27 rfl 2 rfl ?_
      refine j_getI (pc := 28) C fp_X10_133 hs.2.1.1 rfl (f := 659) rfl dX10_derived_28 ?_
      refine j_topi (nI (nR S)) (hs.rdI 659 0 0 (by decide) (by decide)) ?_
      refine jn_icmp_ge (pc := 31) C 79 (a := p) (b := nR S) (by omega) (by omega) dX10_derived_31 (by decide) (fun c0 => (by omega : False).elim) (fun c0 => ?_)
      have ho := hw.2.1.2.2.1 p (by omega)
      refine j_aload_n (pc := 34) C dX10_derived_34 rfl 2 rfl ?_
      refine j_getA (pc := 35) C fp_X10_48 hs.2.1.1 rfl (f := 657) rfl (11, 27) (x9 17) ((hs.2.1.2 17 (by decide) (by decide)).1) ((hs.2.1.2 17 (by decide) (by decide)).2.1) dX10_derived_35 ?_
      refine j_iload (pc := 38) C dX10_derived_38 0 rfl ?_
      refine j_iald (pc := 40) C (p := p) (M := 6) ((hs.2.1.2 17 (by decide) (by decide)).2.1) rfl ((hs.2.1.2 17 (by decide) (by decide)).2.2) (by omega) (by decide) dX10_derived_40 ?_
      refine j_topi (nI (orr S p)) (hs.rdI 704 27 p (by decide) (by decide)) ?_
      refine j_istore (pc := 41) C [(8, .int (nI (orr S p))), (7, .int (nI p)), (5, .long (enc4 (derP S set (base9 S l c) p))), (0, .ref (x9 0)), (1, .int (nI l)), (2, .int (nI c)), (3, .int (nI set)), (4, .int (nI u))] dX10_derived_41 (by decide) rfl ?_
      refine j_iload_n (pc := 43) C dX10_derived_43 rfl 6 rfl ?_
      refine j_iload (pc := 44) C dX10_derived_44 0 rfl ?_
      refine j_ishr (pc := 46) C dX10_derived_46 ?_
      refine j_iconst (pc := 47) C (nI 1) dX10_derived_47 (by decide) ?_
      refine j_iand (pc := 48) C dX10_derived_48 ?_
      cases hB : set.testBit (orr S p) with
      | false =>
        refine j_topi (nI 0) ((bitI hset (by omega)).trans (by rw [hB]; rfl)) ?_
        refine j_iconst (pc := 49) C (nI 1) dX10_derived_49 (by decide) ?_
        refine j_icmp_ne (pc := 50) C 63 dX10_derived_50 (by decide) (fun _ => ?_) (fun q => absurd q (by decide))
        have e9 : derP S set (base9 S l c) (p + 1) = derP S set (base9 S l c) p := if_neg (by rw [hB]; decide)
        refine j_iload (pc := 63) C dX10_derived_63 0 rfl ?_
        refine j_iload (pc := 65) C dX10_derived_65 7 rfl ?_
        refine jn_icmp_ne (pc := 67) C 73 (a := orr S p) (b := u) (by omega) (by omega) dX10_derived_67 (by decide) (fun c2 => ?_) (fun c2 => ?_)
        · have q1 : p < pos9 S u := by
            rcases Nat.lt_or_ge p (pos9 S u) with q | q
            · exact q
            · exact absurd (by rw [Nat.le_antisymm h1 q]; exact p2) c2
          refine j_iinc (pc := 73) C (nI (p + 1)) [(7, .int (nI (p + 1))), (8, .int (nI (orr S p))), (5, .long (enc4 (derP S set (base9 S l c) p))), (0, .ref (x9 0)), (1, .int (nI l)), (2, .int (nI c)), (3, .int (nI set)), (4, .int (nI u))] dX10_derived_73 1 rfl (nI_add p 1) (by decide) rfl ?_
          refine j_goto (pc := 76) C 25 dX10_derived_76 (by decide) ?_
          have l0 := ih (p + 1) σ9 (by omega) (by omega) hs hme
          rw [e9] at l0
          exact J.to [0, 2, 3, 4, 5, 6, 7] rfl l0
        · have q1 : p = pos9 S u := by
            rcases Nat.lt_or_ge p (pos9 S u) with q | q
            · exact absurd c2 (p3 p q)
            · exact Nat.le_antisymm h1 q
          rw [c2, hbu] at hB
          exact absurd hB (by decide)
      | true =>
        refine j_topi (nI 1) ((bitI hset (by omega)).trans (by rw [hB]; rfl)) ?_
        refine j_iconst (pc := 49) C (nI 1) dX10_derived_49 (by decide) ?_
        refine j_icmp_ne (pc := 50) C 63 dX10_derived_50 (by decide) (fun q => absurd q (by decide)) (fun _ => ?_)
        refine j_aload_n (pc := 53) C dX10_derived_53 rfl 3 rfl ?_
        refine j_iload (pc := 54) C dX10_derived_54 0 rfl ?_
        refine j_lload (pc := 56) C dX10_derived_56 2 rfl ?_
        refine j_callV (pc := 58) C [.int (nI (orr S p)), .long (enc4 (derP S set (base9 S l c) p))] [] (rm0 := ({ frames := 3, cells := 0, slots := 0, locals := 84 } : Room)) (k' := 0) (n' := 0) Q.1 (c_X10_gone (xl X) (xw X) hs hw ho hrow) mp_X10_gone wm_1301 hs.2.1.1 rfl rfl (by decide) rfl rfl (Nat.le_of_ble_eq_true rfl) dX10_derived_58 ⟨by decide, by decide⟩ ⟨Nat.le_of_ble_eq_true rfl, Nat.le_of_ble_eq_true rfl⟩ rfl rfl (fun v9 σ2 hp9 => ?_)
        obtain ⟨rfl, hs, hme9, hm⟩ := hp9
        have hme := hme.tr hme9
        show J X 0 0 σ2 [(8, .int (nI (orr S p))), (7, .int (nI p)), (5, .long (enc4 (derP S set (base9 S l c) p))), (0, .ref (x9 0)), (1, .int (nI l)), (2, .int (nI c)), (3, .int (nI set)), (4, .int (nI u))] [.long (enc4 (gone S (orr S p) (derP S set (base9 S l c) p)).1)] 61
        have e9 : derP S set (base9 S l c) (p + 1) = (gone S (orr S p) (derP S set (base9 S l c) p)).1 := if_pos hB
        refine j_lstore (pc := 61) C [(5, .long (enc4 (gone S (orr S p) (derP S set (base9 S l c) p)).1)), (8, .int (nI (orr S p))), (7, .int (nI p)), (0, .ref (x9 0)), (1, .int (nI l)), (2, .int (nI c)), (3, .int (nI set)), (4, .int (nI u))] dX10_derived_61 (by decide) rfl ?_
        refine j_iload (pc := 63) C dX10_derived_63 1 rfl ?_
        refine j_iload (pc := 65) C dX10_derived_65 7 rfl ?_
        refine jn_icmp_ne (pc := 67) C 73 (a := orr S p) (b := u) (by omega) (by omega) dX10_derived_67 (by decide) (fun c2 => ?_) (fun c2 => ?_)
        · have q1 : p < pos9 S u := by
            rcases Nat.lt_or_ge p (pos9 S u) with q | q
            · exact q
            · exact absurd (by rw [Nat.le_antisymm h1 q]; exact p2) c2
          refine j_iinc (pc := 73) C (nI (p + 1)) [(7, .int (nI (p + 1))), (5, .long (enc4 (gone S (orr S p) (derP S set (base9 S l c) p)).1)), (8, .int (nI (orr S p))), (0, .ref (x9 0)), (1, .int (nI l)), (2, .int (nI c)), (3, .int (nI set)), (4, .int (nI u))] dX10_derived_73 2 rfl (nI_add p 1) (by decide) rfl ?_
          refine j_goto (pc := 76) C 25 dX10_derived_76 (by decide) ?_
          have l0 := ih (p + 1) σ2 (by omega) (by omega) hs hme
          rw [e9] at l0
          exact J.to [0, 1, 3, 4, 5, 6, 7] rfl l0
        · have q1 : p = pos9 S u := by
            rcases Nat.lt_or_ge p (pos9 S u) with q | q
            · exact absurd c2 (p3 p q)
            · exact Nat.le_antisymm h1 q
          subst q1
          rw [p2] at hm ⊢
          refine j_lload (pc := 70) C dX10_derived_70 0 rfl ?_
          exact j_lreturn (pc := 72) C Q dX10_derived_72 (Nat.le_of_ble_eq_true rfl) (Nat.le_of_ble_eq_true rfl) (⟨rfl, hs, hme, hm⟩)
  exact J.to [0, 1, 2, 3, 4, 5, 6] rfl (loop (pos9 S u + 1) 0 _ (Nat.zero_le _) (by omega) hs hme)
set_option maxHeartbeats 4000000 in
set_option maxRecDepth 100000 in
theorem c_X10_isException (L9 : Launch) (w9 : Wd) {σ : HS} {S : SP} {x9 : Nat → Nat} {k9 : Int32} (hs : RS S x9 k9 σ) (hw : WF S) {l c : Nat} (hl : l < nL S) (hc : c < 8) : MJ L9 w9 yX10_isException cX10_isException 3 (some .boolean) ({ frames := 0, cells := 0, slots := 0, locals := 0 } : Room) [.ref (x9 0), .int (nI l), .int (nI c)] σ (fun a9 σ' => a9 = some (.int (bI (xc9 S l c).isSome)) ∧ σ' = σ) := by
  refine MJ.of (by decide +kernel) (Nat.le_of_ble_eq_true rfl) (fun X hX1 hX2 C Q hinit => ?_)
  subst hX1; subst hX2
  show J X 0 0 σ [(0, .ref (x9 0)), (1, .int (nI l)), (2, .int (nI c))] [] 0
  have hme : ME σ σ := ME.rf
  have gL := hw.2.2.1.1
  have hn := encO_none (o := xc9 S l c) (fun r hr => okS.R hw.1 (hw.2.2.1.2.2.2.2.1 _ r hr))
  refine j_aload_n (pc := 0) C dX10_isException_0 rfl 0 rfl ?_
  refine j_getA (pc := 1) C fp_X10_33 hs.2.1.1 rfl (f := 652) rfl (12, 412) (x9 12) ((hs.2.1.2 12 (by decide) (by decide)).1) ((hs.2.1.2 12 (by decide) (by decide)).2.1) dX10_isException_1 ?_
  refine j_bipush (pc := 4) C (nI 8) dX10_isException_4 (by decide) ?_
  refine j_iload_n (pc := 6) C dX10_isException_6 rfl 1 rfl ?_
  refine j_imul (pc := 7) C dX10_isException_7 ?_
  refine j_topi (nI (8 * l)) (pk_mul 8 l) ?_
  refine j_iload_n (pc := 8) C dX10_isException_8 rfl 2 rfl ?_
  refine j_iadd (pc := 9) C dX10_isException_9 ?_
  refine j_topi (nI (8 * l + c)) (nI_add (8 * l) c) ?_
  refine j_lald (pc := 10) C (p := 8 * l + c) (M := 128) ((hs.2.1.2 12 (by decide) (by decide)).2.1) rfl ((hs.2.1.2 12 (by decide) (by decide)).2.2) (by omega) (by decide) dX10_isException_10 ?_
  refine j_topl (encO (S.2 768 412 (8 * l + c))) (hs.rdX 768 412 (8 * l + c) (by decide) (by decide)) ?_
  refine j_ldc2 (pc := 11) C (v := -1) dX10_isException_11 wm_1040 ?_
  refine j_lcmp (pc := 14) C dX10_isException_14 ?_
  refine jl_if_eq (pc := 15) C 22 dX10_isException_15 (by decide) (fun c1 => ?_) (fun c1 => ?_)
  · refine j_iconst (pc := 22) C (nI 0) dX10_isException_22 (by decide) ?_
    refine j_topi (bI ((xc9 S l c).isSome)) (by rw [hn.mp c1]; rfl) ?_
    exact j_zreturn (pc := 23) C Q dX10_isException_23 (bI_nar _) (Nat.le_of_ble_eq_true rfl) (Nat.le_of_ble_eq_true rfl) (⟨rfl, rfl⟩)
  · have e1 : (xc9 S l c).isSome = true := by
      cases e : xc9 S l c with
      | none => exact absurd (hn.mpr e) c1
      | some r => rfl
    refine j_iconst (pc := 18) C (nI 1) dX10_isException_18 (by decide) ?_
    refine j_goto (pc := 19) C 23 dX10_isException_19 (by decide) ?_
    refine j_topi (bI ((xc9 S l c).isSome)) (by rw [e1]; rfl) ?_
    exact j_zreturn (pc := 23) C Q dX10_isException_23 (bI_nar _) (Nat.le_of_ble_eq_true rfl) (Nat.le_of_ble_eq_true rfl) (⟨rfl, rfl⟩)
set_option maxHeartbeats 4000000 in
set_option maxRecDepth 100000 in
theorem c_X10_word (L9 : Launch) (w9 : Wd) {σ : HS} {S : SP} {x9 : Nat → Nat} {k9 : Int32} (hs : RS S x9 k9 σ) (hw : WF S) {l c : Nat} (hl : l < nL S) (hc : c < 8) : MJ L9 w9 yX10_word cX10_word 3 (some .long) ({ frames := 4, cells := 0, slots := 0, locals := 112 } : Room) [.ref (x9 0), .int (nI l), .int (nI c)] σ (fun a9 σ' => a9 = some (.long (enc4 (word9 S l c))) ∧ RS S x9 k9 σ' ∧ MF σ σ') := by
  refine MJ.of (by decide +kernel) (Nat.le_of_ble_eq_true rfl) (fun X hX1 hX2 C Q hinit => ?_)
  subst hX1; subst hX2
  show J X 0 0 σ [(0, .ref (x9 0)), (1, .int (nI l)), (2, .int (nI c))] [] 0
  have hme : MF σ σ := MF.rf
  have gL := hw.2.2.1.1
  have g5 := hw.2.1.2.2.2.2
  have gR := hw.2.1.1
  have g6 : 2 ^ nR S ≤ 2 ^ 6 := Nat.pow_le_pow_right (by decide) gR
  refine j_aload_n (pc := 0) C dX10_word_0 rfl 0 rfl ?_
  refine j_iload_n (pc := 1) C dX10_word_1 rfl 1 rfl ?_
  refine j_iload_n (pc := 2) C dX10_word_2 rfl 2 rfl ?_
  refine j_callV (pc := 3) C [.int (nI l), .int (nI c)] [] (rm0 := ({ frames := 4, cells := 0, slots := 0, locals := 112 } : Room)) (k' := 0) (n' := 0) Q.1 (c_X10_isException (xl X) (xw X) hs hw hl hc) mp_X10_isException wm_1258 hs.2.1.1 rfl rfl (by decide) rfl rfl (Nat.le_of_ble_eq_true rfl) dX10_word_3 ⟨by decide, by decide⟩ ⟨Nat.le_of_ble_eq_true rfl, Nat.le_of_ble_eq_true rfl⟩ rfl rfl (det1 ?_)
  refine jb_if_eq (pc := 6) C 23 (b := (xc9 S l c).isSome) dX10_word_6 (by decide) (fun c1 => ?_) (fun c1 => ?_)
  · have e1 : xc9 S l c = none := by
      cases e : xc9 S l c with
      | none => rfl
      | some r => rw [e] at c1; exact absurd c1 (by simp)
    refine j_aload_n (pc := 23) C dX10_word_23 rfl 0 rfl ?_
    refine j_iload_n (pc := 24) C dX10_word_24 rfl 1 rfl ?_
    refine j_iload_n (pc := 25) C dX10_word_25 rfl 2 rfl ?_
    refine j_aload_n (pc := 26) C dX10_word_26 rfl 0 rfl ?_
    refine j_getI (pc := 27) C fp_X10_155 hs.2.1.1 rfl (f := 658) rfl dX10_word_27 ?_
    refine j_topi (nI (on9 S)) (hs.rdI 658 0 0 (by decide) (by decide)) ?_
    refine j_iconst (pc := 30) C (-1) dX10_word_30 (by decide) ?_
    refine j_callV (pc := 31) C [.int (nI l), .int (nI c), .int (nI (on9 S)), .int (-1)] [] (rm0 := ({ frames := 4, cells := 0, slots := 0, locals := 112 } : Room)) (k' := 0) (n' := 0) Q.1 (c_X10_derived (xl X) (xw X) hs hw hl hc (by omega)) mp_X10_derived wm_1290 hs.2.1.1 rfl rfl (by decide) rfl rfl (Nat.le_of_ble_eq_true rfl) dX10_word_31 ⟨by decide, by decide⟩ ⟨Nat.le_of_ble_eq_true rfl, Nat.le_of_ble_eq_true rfl⟩ rfl rfl (fun v9 σ1 hp9 => ?_)
    obtain ⟨rfl, hs, hme9⟩ := hp9
    have hme := hme.tr hme9
    show J X 0 0 σ1 [(0, .ref (x9 0)), (1, .int (nI l)), (2, .int (nI c))] [.long (enc4 (der S (on9 S) (base9 S l c)))] 34
    refine j_topl (enc4 (word9 S l c)) (by unfold word9; rw [e1]; rfl) ?_
    exact j_lreturn (pc := 34) C Q dX10_word_34 (Nat.le_of_ble_eq_true rfl) (Nat.le_of_ble_eq_true rfl) (⟨rfl, hs, hme⟩)
  · obtain ⟨r9, e1⟩ : ∃ r, xc9 S l c = some r := by
      cases e : xc9 S l c with
      | none => rw [e] at c1; exact absurd c1 (by decide)
      | some r => exact ⟨r, rfl⟩
    refine j_aload_n (pc := 9) C dX10_word_9 rfl 0 rfl ?_
    refine j_getA (pc := 10) C fp_X10_33 hs.2.1.1 rfl (f := 652) rfl (12, 412) (x9 12) ((hs.2.1.2 12 (by decide) (by decide)).1) ((hs.2.1.2 12 (by decide) (by decide)).2.1) dX10_word_10 ?_
    refine j_bipush (pc := 13) C (nI 8) dX10_word_13 (by decide) ?_
    refine j_iload_n (pc := 15) C dX10_word_15 rfl 1 rfl ?_
    refine j_imul (pc := 16) C dX10_word_16 ?_
    refine j_topi (nI (8 * l)) (pk_mul 8 l) ?_
    refine j_iload_n (pc := 17) C dX10_word_17 rfl 2 rfl ?_
    refine j_iadd (pc := 18) C dX10_word_18 ?_
    refine j_topi (nI (8 * l + c)) (nI_add (8 * l) c) ?_
    refine j_lald (pc := 19) C (p := 8 * l + c) (M := 128) ((hs.2.1.2 12 (by decide) (by decide)).2.1) rfl ((hs.2.1.2 12 (by decide) (by decide)).2.2) (by omega) (by decide) dX10_word_19 ?_
    refine j_topl (encO (S.2 768 412 (8 * l + c))) (hs.rdX 768 412 (8 * l + c) (by decide) (by decide)) ?_
    refine j_topl (enc4 (word9 S l c)) (by unfold word9; show encO (xc9 S l c) = _; rw [e1]; rfl) ?_
    refine j_goto (pc := 20) C 34 dX10_word_20 (by decide) ?_
    exact j_lreturn (pc := 34) C Q dX10_word_34 (Nat.le_of_ble_eq_true rfl) (Nat.le_of_ble_eq_true rfl) (⟨rfl, hs, hme⟩)
set_option maxHeartbeats 4000000 in
set_option maxRecDepth 100000 in
theorem c_X10_steps (L9 : Launch) (w9 : Wd) {σ : HS} {S : SP} {x9 : Nat → Nat} {k9 : Int32} (hs : RS S x9 k9 σ) (hw : WF S) {l c r : Nat} (hl : l < nL S) (hc : c < 8) (hr : r < nR S) : MJ L9 w9 yX10_steps cX10_steps 4 (some .int) ({ frames := 4, cells := 0, slots := 0, locals := 112 } : Room) [.ref (x9 0), .int (nI l), .int (nI c), .int (nI r)] σ (fun a9 σ' => a9 = some (.int (nI (steps9 S l c r))) ∧ RS S x9 k9 σ' ∧ MF σ σ') := by
  refine MJ.of (by decide +kernel) (Nat.le_of_ble_eq_true rfl) (fun X hX1 hX2 C Q hinit => ?_)
  subst hX1; subst hX2
  show J X 0 0 σ [(0, .ref (x9 0)), (1, .int (nI l)), (2, .int (nI c)), (3, .int (nI r))] [] 0
  have hme : MF σ σ := MF.rf
  have g5 := hw.2.1.2.2.2.2
  have gR := hw.2.1.1
  have g6 : 2 ^ nR S ≤ 2 ^ 6 := Nat.pow_le_pow_right (by decide) gR
  refine j_aload_n (pc := 0) C dX10_steps_0 rfl 0 rfl ?_
  refine j_getI (pc := 1) C fp_X10_155 hs.2.1.1 rfl (f := 658) rfl dX10_steps_1 ?_
  refine j_topi (nI (on9 S)) (hs.rdI 658 0 0 (by decide) (by decide)) ?_
  refine j_iload_n (pc := 4) C dX10_steps_4 rfl 3 rfl ?_
  refine j_ishr (pc := 5) C dX10_steps_5 ?_
  refine j_iconst (pc := 6) C (nI 1) dX10_steps_6 (by decide) ?_
  refine j_iand (pc := 7) C dX10_steps_7 ?_
  cases hB : (on9 S).testBit r with
  | false =>
    refine j_topi (nI 0) ((bitI (by omega) (by omega)).trans (by rw [hB]; rfl)) ?_
    refine j_if_ne (pc := 8) C 13 dX10_steps_8 (by decide) (fun q => absurd q (by decide)) (fun _ => ?_)
    refine j_iconst (pc := 11) C (nI 0) dX10_steps_11 (by decide) ?_
    refine j_topi (nI (steps9 S l c r)) (by unfold steps9; rw [if_neg (by rw [hB]; decide)]) ?_
    exact j_ireturn (pc := 12) C Q dX10_steps_12 (Nat.le_of_ble_eq_true rfl) (Nat.le_of_ble_eq_true rfl) (⟨rfl, hs, hme⟩)
  | true =>
    refine j_topi (nI 1) ((bitI (by omega) (by omega)).trans (by rw [hB]; rfl)) ?_
    refine j_if_ne (pc := 8) C 13 dX10_steps_8 (by decide) (fun _ => ?_) (fun q => absurd q (by decide))
    refine j_aload_n (pc := 13) C dX10_steps_13 rfl 0 rfl ?_
    refine j_iload_n (pc := 14) C dX10_steps_14 rfl 1 rfl ?_
    refine j_iload_n (pc := 15) C dX10_steps_15 rfl 2 rfl ?_
    refine j_aload_n (pc := 16) C dX10_steps_16 rfl 0 rfl ?_
    refine j_getI (pc := 17) C fp_X10_155 hs.2.1.1 rfl (f := 658) rfl dX10_steps_17 ?_
    refine j_topi (nI (on9 S)) (hs.rdI 658 0 0 (by decide) (by decide)) ?_
    refine j_iload_n (pc := 20) C dX10_steps_20 rfl 3 rfl ?_
    refine j_callV (pc := 21) C [.int (nI l), .int (nI c), .int (nI (on9 S)), .int (nI r)] [] (rm0 := ({ frames := 4, cells := 0, slots := 0, locals := 112 } : Room)) (k' := 0) (n' := 0) Q.1 (c_X10_derivedU (xl X) (xw X) hs hw hl hc (by omega) hr hB) mp_X10_derived wm_1290 hs.2.1.1 rfl rfl (by decide) rfl rfl (Nat.le_of_ble_eq_true rfl) dX10_steps_21 ⟨by decide, by decide⟩ ⟨Nat.le_of_ble_eq_true rfl, Nat.le_of_ble_eq_true rfl⟩ rfl rfl (fun v9 σ1 hp9 => ?_)
    obtain ⟨rfl, hs, hme9, hm⟩ := hp9
    have hme := hme.tr hme9
    show J X 0 0 σ1 [(0, .ref (x9 0)), (1, .int (nI l)), (2, .int (nI c)), (3, .int (nI r))] [.long (enc4 (gone S r (derP S (on9 S) (base9 S l c) (pos9 S r))).1)] 24
    refine j_pop2 (pc := 24) C dX10_steps_24 rfl ?_
    refine j_aload_n (pc := 25) C dX10_steps_25 rfl 0 rfl ?_
    refine j_getI (pc := 26) C fp_X10_165 hs.2.1.1 rfl (f := 660) rfl dX10_steps_26 ?_
    refine j_topi (nI (steps9 S l c r)) (hm.trans (by unfold steps9; rw [if_pos hB])) ?_
    exact j_ireturn (pc := 29) C Q dX10_steps_29 (Nat.le_of_ble_eq_true rfl) (Nat.le_of_ble_eq_true rfl) (⟨rfl, hs, hme⟩)
set_option maxHeartbeats 4000000 in
set_option maxRecDepth 100000 in
theorem c_X10_fits (L9 : Launch) (w9 : Wd) {σ : HS} {S : SP} {x9 : Nat → Nat} {k9 : Int32} (hs : RS S x9 k9 σ) (hw : WF S) {v : Nat} (hv : v < nW S)  : MJ L9 w9 yX10_fits cX10_fits 2 (some .boolean) ({ frames := 5, cells := 0, slots := 0, locals := 134 } : Room) [.ref (x9 0), .int (nI v)] σ (fun a9 σ' => a9 = some (.int (bI (fits9 S v))) ∧ RS S x9 k9 σ' ∧ MF σ σ') := by
  refine MJ.of (by decide +kernel) (Nat.le_of_ble_eq_true rfl) (fun X hX1 hX2 C Q hinit => ?_)
  subst hX1; subst hX2
  show J X 0 0 σ [(0, .ref (x9 0)), (1, .int (nI v))] [] 0
  have hme : MF σ σ := MF.rf
  have gW := hw.2.2.2.1.1
  obtain ⟨q1, q2, -⟩ := hw.2.2.2.1.2.2 v hv
  have i1 := enc4_inj (okS.R hw.1 (WF_hr hw v)) (okS.R hw.1 (word_ok hw q1 (c := cw S v)))
  refine j_aload_n (pc := 0) C dX10_fits_0 rfl 0 rfl ?_
  refine j_getA (pc := 1) C fp_X10_60 hs.2.1.1 rfl (f := 664) rfl (12, 424) (x9 24) ((hs.2.1.2 24 (by decide) (by decide)).1) ((hs.2.1.2 24 (by decide) (by decide)).2.1) dX10_fits_1 ?_
  refine j_iload_n (pc := 4) C dX10_fits_4 rfl 1 rfl ?_
  refine j_lald (pc := 5) C (p := v) (M := 40) ((hs.2.1.2 24 (by decide) (by decide)).2.1) rfl ((hs.2.1.2 24 (by decide) (by decide)).2.2) (by omega) (by decide) dX10_fits_5 ?_
  refine j_topl (enc4 (hr S v)) (hs.rdL 768 424 v (by decide) (by decide)) ?_
  refine j_aload_n (pc := 6) C dX10_fits_6 rfl 0 rfl ?_
  refine j_aload_n (pc := 7) C dX10_fits_7 rfl 0 rfl ?_
  refine j_getA (pc := 8) C fp_X10_51 hs.2.1.1 rfl (f := 661) rfl (11, 31) (x9 21) ((hs.2.1.2 21 (by decide) (by decide)).1) ((hs.2.1.2 21 (by decide) (by decide)).2.1) dX10_fits_8 ?_
  refine j_iload_n (pc := 11) C dX10_fits_11 rfl 1 rfl ?_
  refine j_iald (pc := 12) C (p := v) (M := 40) ((hs.2.1.2 21 (by decide) (by decide)).2.1) rfl ((hs.2.1.2 21 (by decide) (by decide)).2.2) (by omega) (by decide) dX10_fits_12 ?_
  refine j_topi (nI (ol S v)) (hs.rdI 704 31 v (by decide) (by decide)) ?_
  refine j_aload_n (pc := 13) C dX10_fits_13 rfl 0 rfl ?_
  refine j_getA (pc := 14) C fp_X10_54 hs.2.1.1 rfl (f := 662) rfl (11, 32) (x9 22) ((hs.2.1.2 22 (by decide) (by decide)).1) ((hs.2.1.2 22 (by decide) (by decide)).2.1) dX10_fits_14 ?_
  refine j_iload_n (pc := 17) C dX10_fits_17 rfl 1 rfl ?_
  refine j_iald (pc := 18) C (p := v) (M := 40) ((hs.2.1.2 22 (by decide) (by decide)).2.1) rfl ((hs.2.1.2 22 (by decide) (by decide)).2.2) (by omega) (by decide) dX10_fits_18 ?_
  refine j_topi (nI (cw S v)) (hs.rdI 704 32 v (by decide) (by decide)) ?_
  refine j_callV (pc := 19) C [.int (nI (ol S v)), .int (nI (cw S v))] [.long (enc4 (hr S v))] (rm0 := ({ frames := 5, cells := 0, slots := 0, locals := 134 } : Room)) (k' := 0) (n' := 0) Q.1 (c_X10_word (xl X) (xw X) hs hw q1 q2) mp_X10_word wm_1286 hs.2.1.1 rfl rfl (by decide) rfl rfl (Nat.le_of_ble_eq_true rfl) dX10_fits_19 ⟨by decide, by decide⟩ ⟨Nat.le_of_ble_eq_true rfl, Nat.le_of_ble_eq_true rfl⟩ rfl rfl (fun v9 σ1 hp9 => ?_)
  obtain ⟨rfl, hs, hme9⟩ := hp9
  have hme := hme.tr hme9
  show J X 0 0 σ1 [(0, .ref (x9 0)), (1, .int (nI v))] [.long (enc4 (word9 S (ol S v) (cw S v))), .long (enc4 (hr S v))] 22
  refine j_lcmp (pc := 22) C dX10_fits_22 ?_
  refine jl_if_ne (pc := 23) C 30 dX10_fits_23 (by decide) (fun c1 => ?_) (fun c1 => ?_)
  · refine j_iconst (pc := 30) C (nI 0) dX10_fits_30 (by decide) ?_
    refine j_topi (bI (fits9 S v)) (by unfold fits9; rw [decide_eq_false (fun z => c1 (i1.mpr z))]; rfl) ?_
    exact j_zreturn (pc := 31) C Q dX10_fits_31 (bI_nar _) (Nat.le_of_ble_eq_true rfl) (Nat.le_of_ble_eq_true rfl) (⟨rfl, hs, hme⟩)
  · refine j_iconst (pc := 26) C (nI 1) dX10_fits_26 (by decide) ?_
    refine j_goto (pc := 27) C 31 dX10_fits_27 (by decide) ?_
    refine j_topi (bI (fits9 S v)) (by unfold fits9; rw [decide_eq_true (i1.mp c1)]; rfl) ?_
    exact j_zreturn (pc := 31) C Q dX10_fits_31 (bI_nar _) (Nat.le_of_ble_eq_true rfl) (Nat.le_of_ble_eq_true rfl) (⟨rfl, hs, hme⟩)
set_option maxHeartbeats 4000000 in
set_option maxRecDepth 100000 in
theorem c_X10_fitsBy (L9 : Launch) (w9 : Wd) {σ : HS} {S : SP} {x9 : Nat → Nat} {k9 : Int32} (hs : RS S x9 k9 σ) (hw : WF S) {v : Nat} (hv : v < nW S) {set : Nat} (hset : set < 2 ^ 31) : MJ L9 w9 yX10_fitsBy cX10_fitsBy 3 (some .boolean) ({ frames := 4, cells := 0, slots := 0, locals := 112 } : Room) [.ref (x9 0), .int (nI v), .int (nI set)] σ (fun a9 σ' => a9 = some (.int (bI (fitsBy S v set))) ∧ RS S x9 k9 σ' ∧ MF σ σ') := by
  refine MJ.of (by decide +kernel) (Nat.le_of_ble_eq_true rfl) (fun X hX1 hX2 C Q hinit => ?_)
  subst hX1; subst hX2
  show J X 0 0 σ [(0, .ref (x9 0)), (1, .int (nI v)), (2, .int (nI set))] [] 0
  have hme : MF σ σ := MF.rf
  have gW := hw.2.2.2.1.1
  obtain ⟨q1, q2, -⟩ := hw.2.2.2.1.2.2 v hv
  have i1 := enc4_inj (okS.R hw.1 (WF_hr hw v)) (okS.R hw.1 (der_ok hw (set := set) (WF_base hw q1 (cw S v))))
  refine j_aload_n (pc := 0) C dX10_fitsBy_0 rfl 0 rfl ?_
  refine j_getA (pc := 1) C fp_X10_60 hs.2.1.1 rfl (f := 664) rfl (12, 424) (x9 24) ((hs.2.1.2 24 (by decide) (by decide)).1) ((hs.2.1.2 24 (by decide) (by decide)).2.1) dX10_fitsBy_1 ?_
  refine j_iload_n (pc := 4) C dX10_fitsBy_4 rfl 1 rfl ?_
  refine j_lald (pc := 5) C (p := v) (M := 40) ((hs.2.1.2 24 (by decide) (by decide)).2.1) rfl ((hs.2.1.2 24 (by decide) (by decide)).2.2) (by omega) (by decide) dX10_fitsBy_5 ?_
  refine j_topl (enc4 (hr S v)) (hs.rdL 768 424 v (by decide) (by decide)) ?_
  refine j_aload_n (pc := 6) C dX10_fitsBy_6 rfl 0 rfl ?_
  refine j_aload_n (pc := 7) C dX10_fitsBy_7 rfl 0 rfl ?_
  refine j_getA (pc := 8) C fp_X10_51 hs.2.1.1 rfl (f := 661) rfl (11, 31) (x9 21) ((hs.2.1.2 21 (by decide) (by decide)).1) ((hs.2.1.2 21 (by decide) (by decide)).2.1) dX10_fitsBy_8 ?_
  refine j_iload_n (pc := 11) C dX10_fitsBy_11 rfl 1 rfl ?_
  refine j_iald (pc := 12) C (p := v) (M := 40) ((hs.2.1.2 21 (by decide) (by decide)).2.1) rfl ((hs.2.1.2 21 (by decide) (by decide)).2.2) (by omega) (by decide) dX10_fitsBy_12 ?_
  refine j_topi (nI (ol S v)) (hs.rdI 704 31 v (by decide) (by decide)) ?_
  refine j_aload_n (pc := 13) C dX10_fitsBy_13 rfl 0 rfl ?_
  refine j_getA (pc := 14) C fp_X10_54 hs.2.1.1 rfl (f := 662) rfl (11, 32) (x9 22) ((hs.2.1.2 22 (by decide) (by decide)).1) ((hs.2.1.2 22 (by decide) (by decide)).2.1) dX10_fitsBy_14 ?_
  refine j_iload_n (pc := 17) C dX10_fitsBy_17 rfl 1 rfl ?_
  refine j_iald (pc := 18) C (p := v) (M := 40) ((hs.2.1.2 22 (by decide) (by decide)).2.1) rfl ((hs.2.1.2 22 (by decide) (by decide)).2.2) (by omega) (by decide) dX10_fitsBy_18 ?_
  refine j_topi (nI (cw S v)) (hs.rdI 704 32 v (by decide) (by decide)) ?_
  refine j_iload_n (pc := 19) C dX10_fitsBy_19 rfl 2 rfl ?_
  refine j_iconst (pc := 20) C (-1) dX10_fitsBy_20 (by decide) ?_
  refine j_callV (pc := 21) C [.int (nI (ol S v)), .int (nI (cw S v)), .int (nI set), .int (-1)] [.long (enc4 (hr S v))] (rm0 := ({ frames := 4, cells := 0, slots := 0, locals := 112 } : Room)) (k' := 0) (n' := 0) Q.1 (c_X10_derived (xl X) (xw X) hs hw q1 q2 hset) mp_X10_derived wm_1290 hs.2.1.1 rfl rfl (by decide) rfl rfl (Nat.le_of_ble_eq_true rfl) dX10_fitsBy_21 ⟨by decide, by decide⟩ ⟨Nat.le_of_ble_eq_true rfl, Nat.le_of_ble_eq_true rfl⟩ rfl rfl (fun v9 σ1 hp9 => ?_)
  obtain ⟨rfl, hs, hme9⟩ := hp9
  have hme := hme.tr hme9
  show J X 0 0 σ1 [(0, .ref (x9 0)), (1, .int (nI v)), (2, .int (nI set))] [.long (enc4 (der S set (base9 S (ol S v) (cw S v)))), .long (enc4 (hr S v))] 24
  refine j_lcmp (pc := 24) C dX10_fitsBy_24 ?_
  refine jl_if_ne (pc := 25) C 32 dX10_fitsBy_25 (by decide) (fun c1 => ?_) (fun c1 => ?_)
  · refine j_iconst (pc := 32) C (nI 0) dX10_fitsBy_32 (by decide) ?_
    refine j_topi (bI (fitsBy S v set)) (by unfold fitsBy; rw [decide_eq_false (fun z => c1 (i1.mpr z))]; rfl) ?_
    exact j_zreturn (pc := 33) C Q dX10_fitsBy_33 (bI_nar _) (Nat.le_of_ble_eq_true rfl) (Nat.le_of_ble_eq_true rfl) (⟨rfl, hs, hme⟩)
  · refine j_iconst (pc := 28) C (nI 1) dX10_fitsBy_28 (by decide) ?_
    refine j_goto (pc := 29) C 33 dX10_fitsBy_29 (by decide) ?_
    refine j_topi (bI (fitsBy S v set)) (by unfold fitsBy; rw [decide_eq_true (i1.mp c1)]; rfl) ?_
    exact j_zreturn (pc := 33) C Q dX10_fitsBy_33 (bI_nar _) (Nat.le_of_ble_eq_true rfl) (Nat.le_of_ble_eq_true rfl) (⟨rfl, hs, hme⟩)
set_option maxHeartbeats 4000000 in
set_option maxRecDepth 100000 in
theorem c_X10_isBare (L9 : Launch) (w9 : Wd) {σ : HS} {S : SP} {x9 : Nat → Nat} {k9 : Int32} (hs : RS S x9 k9 σ) (hw : WF S) {v : Nat} (hv : v < nW S) : MJ L9 w9 yX10_isBare cX10_isBare 2 (some .boolean) ({ frames := 1, cells := 0, slots := 0, locals := 22 } : Room) [.ref (x9 0), .int (nI v)] σ (fun a9 σ' => a9 = some (.int (bI (bare S v))) ∧ σ' = σ) := by
  refine MJ.of (by decide +kernel) (Nat.le_of_ble_eq_true rfl) (fun X hX1 hX2 C Q hinit => ?_)
  subst hX1; subst hX2
  show J X 0 0 σ [(0, .ref (x9 0)), (1, .int (nI v))] [] 0
  have hme : ME σ σ := ME.rf
  have gW := hw.2.2.2.1.1
  obtain ⟨q1, q2, -, q4, -⟩ := hw.2.2.2.1.2.2 v hv
  refine j_aload_n (pc := 0) C dX10_isBare_0 rfl 0 rfl ?_
  refine j_getA (pc := 1) C fp_X10_63 hs.2.1.1 rfl (f := 665) rfl (13, 25) (x9 25) ((hs.2.1.2 25 (by decide) (by decide)).1) ((hs.2.1.2 25 (by decide) (by decide)).2.1) dX10_isBare_1 ?_
  refine j_iload_n (pc := 4) C dX10_isBare_4 rfl 1 rfl ?_
  refine j_zald (pc := 5) C (p := v) (M := 40) ((hs.2.1.2 25 (by decide) (by decide)).2.1) rfl ((hs.2.1.2 25 (by decide) (by decide)).2.2) (by omega) (by decide) dX10_isBare_5 ?_
  refine j_topi (nI (hd9 S v)) (hs.rdI 832 25 v (by decide) (by decide)) ?_
  refine jn_if_eq (pc := 6) C 32 (a := hd9 S v) (by omega) dX10_isBare_6 (by decide) (fun c1 => ?_) (fun c1 => ?_)
  · refine j_iconst (pc := 32) C (nI 0) dX10_isBare_32 (by decide) ?_
    refine j_topi (bI (bare S v)) (by unfold bare; rw [decide_eq_false (by omega)]; rfl) ?_
    exact j_zreturn (pc := 33) C Q dX10_isBare_33 (bI_nar _) (Nat.le_of_ble_eq_true rfl) (Nat.le_of_ble_eq_true rfl) (⟨rfl, rfl⟩)
  · refine j_aload_n (pc := 9) C dX10_isBare_9 rfl 0 rfl ?_
    refine j_aload_n (pc := 10) C dX10_isBare_10 rfl 0 rfl ?_
    refine j_getA (pc := 11) C fp_X10_51 hs.2.1.1 rfl (f := 661) rfl (11, 31) (x9 21) ((hs.2.1.2 21 (by decide) (by decide)).1) ((hs.2.1.2 21 (by decide) (by decide)).2.1) dX10_isBare_11 ?_
    refine j_iload_n (pc := 14) C dX10_isBare_14 rfl 1 rfl ?_
    refine j_iald (pc := 15) C (p := v) (M := 40) ((hs.2.1.2 21 (by decide) (by decide)).2.1) rfl ((hs.2.1.2 21 (by decide) (by decide)).2.2) (by omega) (by decide) dX10_isBare_15 ?_
    refine j_topi (nI (ol S v)) (hs.rdI 704 31 v (by decide) (by decide)) ?_
    refine j_aload_n (pc := 16) C dX10_isBare_16 rfl 0 rfl ?_
    refine j_getA (pc := 17) C fp_X10_54 hs.2.1.1 rfl (f := 662) rfl (11, 32) (x9 22) ((hs.2.1.2 22 (by decide) (by decide)).1) ((hs.2.1.2 22 (by decide) (by decide)).2.1) dX10_isBare_17 ?_
    refine j_iload_n (pc := 20) C dX10_isBare_20 rfl 1 rfl ?_
    refine j_iald (pc := 21) C (p := v) (M := 40) ((hs.2.1.2 22 (by decide) (by decide)).2.1) rfl ((hs.2.1.2 22 (by decide) (by decide)).2.2) (by omega) (by decide) dX10_isBare_21 ?_
    refine j_topi (nI (cw S v)) (hs.rdI 704 32 v (by decide) (by decide)) ?_
    refine j_callV (pc := 22) C [.int (nI (ol S v)), .int (nI (cw S v))] [] (rm0 := ({ frames := 1, cells := 0, slots := 0, locals := 22 } : Room)) (k' := 0) (n' := 0) Q.1 (c_X10_isException (xl X) (xw X) hs hw q1 q2) mp_X10_isException wm_1258 hs.2.1.1 rfl rfl (by decide) rfl rfl (Nat.le_of_ble_eq_true rfl) dX10_isBare_22 ⟨by decide, by decide⟩ ⟨Nat.le_of_ble_eq_true rfl, Nat.le_of_ble_eq_true rfl⟩ rfl rfl (det1 ?_)
    refine jb_if_ne (pc := 25) C 32 (b := (xc9 S (ol S v) (cw S v)).isSome) dX10_isBare_25 (by decide) (fun c2 => ?_) (fun c2 => ?_)
    · refine j_iconst (pc := 32) C (nI 0) dX10_isBare_32 (by decide) ?_
      refine j_topi (bI (bare S v)) (by unfold bare; rw [decide_eq_true (by omega)]; cases e : xc9 S (ol S v) (cw S v) <;> rw [e] at c2 <;> first | rfl | exact absurd c2 (by simp)) ?_
      exact j_zreturn (pc := 33) C Q dX10_isBare_33 (bI_nar _) (Nat.le_of_ble_eq_true rfl) (Nat.le_of_ble_eq_true rfl) (⟨rfl, rfl⟩)
    · refine j_iconst (pc := 28) C (nI 1) dX10_isBare_28 (by decide) ?_
      refine j_goto (pc := 29) C 33 dX10_isBare_29 (by decide) ?_
      refine j_topi (bI (bare S v)) (by unfold bare; rw [decide_eq_true (by omega)]; cases e : xc9 S (ol S v) (cw S v) <;> rw [e] at c2 <;> first | rfl | exact absurd c2 (by simp)) ?_
      exact j_zreturn (pc := 33) C Q dX10_isBare_33 (bI_nar _) (Nat.le_of_ble_eq_true rfl) (Nat.le_of_ble_eq_true rfl) (⟨rfl, rfl⟩)
set_option maxHeartbeats 4000000 in
set_option maxRecDepth 100000 in
theorem c_X10_isFitting (L9 : Launch) (w9 : Wd) {σ : HS} {S : SP} {x9 : Nat → Nat} {k9 : Int32} (hs : RS S x9 k9 σ) (hw : WF S) {set : Nat} (hset : set < 2 ^ 31) : MJ L9 w9 yX10_isFitting cX10_isFitting 4 (some .boolean) ({ frames := 5, cells := 0, slots := 0, locals := 134 } : Room) [.ref (x9 0), .int (nI set)] σ (fun a9 σ' => a9 = some (.int (bI (fitset S set))) ∧ RS S x9 k9 σ' ∧ MF σ σ') := by
  refine MJ.of (by decide +kernel) (Nat.le_of_ble_eq_true rfl) (fun X hX1 hX2 C Q hinit => ?_)
  subst hX1; subst hX2
  show J X 0 0 σ [(0, .ref (x9 0)), (1, .int (nI set))] [] 0
  have hme : MF σ σ := MF.rf
  have gW := hw.2.2.2.1.1
  refine j_iconst (pc := 0) C (nI 1) dX10_isFitting_0 (by decide) ?_
  refine j_istore_n (pc := 1) C [(2, .int (nI 1)), (0, .ref (x9 0)), (1, .int (nI set))] dX10_isFitting_1 rfl (by decide) rfl ?_
  refine j_iconst (pc := 2) C (nI 0) dX10_isFitting_2 (by decide) ?_
  refine j_istore_n (pc := 3) C [(3, .int (nI 0)), (2, .int (nI 1)), (0, .ref (x9 0)), (1, .int (nI set))] dX10_isFitting_3 rfl (by decide) rfl ?_
  have loop : ∀ (f : Nat) (v : Nat) (b : Bool) (σ9 : HS), (v ≤ nW S) → (nW S < v + f) → (b = (List.range v).all (fun w => !bare S w || fitsBy S w set)) → RS S x9 k9 σ9 → MF σ σ9 → J X 0 0 σ9 [(3, .int (nI v)), (2, .int (bI b)), (0, .ref (x9 0)), (1, .int (nI set))] [] 4 := by
    clear hs hme
    intro f
    induction f with
    | zero => intro v b σ9 h1 h2 h3; exact absurd h2 (by omega)
    | succ f ih =>
      intro v b σ9 h1 h2 h3 hs hme
      refine j_iload_n (pc := 4) C dX10_isFitting_4 rfl 0 rfl ?_
      refine j_aload_n (pc := 5) C dX10_isFitting_5 rfl 2 rfl ?_
      refine j_getI (pc := 6) C fp_X10_187 hs.2.1.1 rfl (f := 666) rfl dX10_isFitting_6 ?_
      refine j_topi (nI (nW S)) (hs.rdI 666 0 0 (by decide) (by decide)) ?_
      refine jn_icmp_ge (pc := 9) C 45 (a := v) (b := nW S) (by omega) (by omega) dX10_isFitting_9 (by decide) (fun c1 => ?_) (fun c1 => ?_)
      · have e : v = nW S := Nat.le_antisymm h1 c1
        refine j_iload_n (pc := 45) C dX10_isFitting_45 rfl 1 rfl ?_
        refine j_topi (bI (fitset S set)) (by rw [h3, e]; rfl) ?_
        exact j_zreturn (pc := 46) C Q dX10_isFitting_46 (bI_nar _) (Nat.le_of_ble_eq_true rfl) (Nat.le_of_ble_eq_true rfl) (⟨rfl, hs, hme⟩)
      · refine j_iload_n (pc := 12) C dX10_isFitting_12 rfl 1 rfl ?_
        refine jb_if_eq (pc := 13) C 45 (b := b) dX10_isFitting_13 (by decide) (fun c2 => ?_) (fun c2 => ?_)
        · refine j_iload_n (pc := 45) C dX10_isFitting_45 rfl 1 rfl ?_
          refine j_topi (bI (fitset S set)) (by rw [c2] at h3 ⊢; unfold fitset; rw [all_cut h3.symm h1]) ?_
          exact j_zreturn (pc := 46) C Q dX10_isFitting_46 (bI_nar _) (Nat.le_of_ble_eq_true rfl) (Nat.le_of_ble_eq_true rfl) (⟨rfl, hs, hme⟩)
        · refine j_aload_n (pc := 16) C dX10_isFitting_16 rfl 2 rfl ?_
          refine j_iload_n (pc := 17) C dX10_isFitting_17 rfl 0 rfl ?_
          refine j_callV (pc := 18) C [.int (nI v)] [] (rm0 := ({ frames := 5, cells := 0, slots := 0, locals := 134 } : Room)) (k' := 0) (n' := 0) Q.1 (c_X10_isBare (xl X) (xw X) hs hw c1) mp_X10_isBare wm_1341 hs.2.1.1 rfl rfl (by decide) rfl rfl (Nat.le_of_ble_eq_true rfl) dX10_isFitting_18 ⟨by decide, by decide⟩ ⟨Nat.le_of_ble_eq_true rfl, Nat.le_of_ble_eq_true rfl⟩ rfl rfl (det1 ?_)
          refine jb_if_eq (pc := 21) C 33 (b := bare S v) dX10_isFitting_21 (by decide) (fun c3 => ?_) (fun c3 => ?_)
          · refine j_iconst (pc := 33) C (nI 1) dX10_isFitting_33 (by decide) ?_
            refine j_goto (pc := 34) C 38 dX10_isFitting_34 (by decide) ?_
            refine j_topi (bI true) rfl ?_
            refine j_istore_n (pc := 38) C [(2, .int (bI true)), (3, .int (nI v)), (0, .ref (x9 0)), (1, .int (nI set))] dX10_isFitting_38 rfl (by decide) rfl ?_
            refine j_iinc (pc := 39) C (nI (v + 1)) [(3, .int (nI (v + 1))), (2, .int (bI true)), (0, .ref (x9 0)), (1, .int (nI set))] dX10_isFitting_39 1 rfl (nI_add v 1) (by decide) rfl ?_
            refine j_goto (pc := 42) C 4 dX10_isFitting_42 (by decide) ?_
            exact J.to [0, 1, 2, 3] rfl (ih (v + 1) _ σ9 (by omega) (by omega) (by rw [all_succ, ← h3, c2, c3]; rfl) hs hme)
          · refine j_aload_n (pc := 24) C dX10_isFitting_24 rfl 2 rfl ?_
            refine j_iload_n (pc := 25) C dX10_isFitting_25 rfl 0 rfl ?_
            refine j_iload_n (pc := 26) C dX10_isFitting_26 rfl 3 rfl ?_
            refine j_callV (pc := 27) C [.int (nI v), .int (nI set)] [] (rm0 := ({ frames := 5, cells := 0, slots := 0, locals := 134 } : Room)) (k' := 0) (n' := 0) Q.1 (c_X10_fitsBy (xl X) (xw X) hs hw c1 hset) mp_X10_fitsBy wm_1345 hs.2.1.1 rfl rfl (by decide) rfl rfl (Nat.le_of_ble_eq_true rfl) dX10_isFitting_27 ⟨by decide, by decide⟩ ⟨Nat.le_of_ble_eq_true rfl, Nat.le_of_ble_eq_true rfl⟩ rfl rfl (fun v9 σ1 hp9 => ?_)
            obtain ⟨rfl, hs, hme9⟩ := hp9
            have hme := hme.tr hme9
            show J X 0 0 σ1 [(3, .int (nI v)), (2, .int (bI b)), (0, .ref (x9 0)), (1, .int (nI set))] [.int (bI (fitsBy S v set))] 30
            refine jb_if_eq (pc := 30) C 37 (b := fitsBy S v set) dX10_isFitting_30 (by decide) (fun c4 => ?_) (fun c4 => ?_)
            · refine j_iconst (pc := 37) C (nI 0) dX10_isFitting_37 (by decide) ?_
              refine j_topi (bI false) rfl ?_
              refine j_istore_n (pc := 38) C [(2, .int (bI false)), (3, .int (nI v)), (0, .ref (x9 0)), (1, .int (nI set))] dX10_isFitting_38 rfl (by decide) rfl ?_
              refine j_iinc (pc := 39) C (nI (v + 1)) [(3, .int (nI (v + 1))), (2, .int (bI false)), (0, .ref (x9 0)), (1, .int (nI set))] dX10_isFitting_39 1 rfl (nI_add v 1) (by decide) rfl ?_
              refine j_goto (pc := 42) C 4 dX10_isFitting_42 (by decide) ?_
              exact J.to [0, 1, 2, 3] rfl (ih (v + 1) _ σ1 (by omega) (by omega) (by rw [all_succ, ← h3, c2, c3, c4]; rfl) hs hme)
            · refine j_iconst (pc := 33) C (nI 1) dX10_isFitting_33 (by decide) ?_
              refine j_goto (pc := 34) C 38 dX10_isFitting_34 (by decide) ?_
              refine j_topi (bI true) rfl ?_
              refine j_istore_n (pc := 38) C [(2, .int (bI true)), (3, .int (nI v)), (0, .ref (x9 0)), (1, .int (nI set))] dX10_isFitting_38 rfl (by decide) rfl ?_
              refine j_iinc (pc := 39) C (nI (v + 1)) [(3, .int (nI (v + 1))), (2, .int (bI true)), (0, .ref (x9 0)), (1, .int (nI set))] dX10_isFitting_39 1 rfl (nI_add v 1) (by decide) rfl ?_
              refine j_goto (pc := 42) C 4 dX10_isFitting_42 (by decide) ?_
              exact J.to [0, 1, 2, 3] rfl (ih (v + 1) _ σ1 (by omega) (by omega) (by rw [all_succ, ← h3, c2, c3, c4]; rfl) hs hme)
  exact J.to [0, 1, 2, 3] rfl (loop (nW S + 1) 0 true _ (Nat.zero_le _) (by omega) rfl hs hme)
