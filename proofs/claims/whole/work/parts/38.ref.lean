set_option maxHeartbeats 4000000 in
set_option maxRecDepth 100000 in
theorem c_X10_rule (L9 : Launch) (w9 : Wd) {σ : HS} {S : SP} {x9 : Nat → Nat} {k9 : Int32} (hs : RS S x9 k9 σ) (hw : WF S) (t u l r : Int32) : MJ L9 w9 yX10_rule cX10_rule 7 (some .int) ({ frames := 3, cells := 0, slots := 0, locals := 64 } : Room) [.ref (x9 0), .int t, .int u, .int l, .int r] σ (fun a9 σ' => a9 = some (.int (s_rule S t u l r).2.1) ∧ RS (s_rule S t u l r).2.2 x9 (nI (s_rule S t u l r).1) σ' ∧ ME σ σ') := by
  refine MJ.of (by decide +kernel) (Nat.le_of_ble_eq_true rfl) (fun X hX1 hX2 C Q hinit => ?_)
  subst hX1; subst hX2
  show J X 0 0 σ [(0, .ref (x9 0)), (1, .int t), (2, .int u), (3, .int l), (4, .int r)] [] 0
  have hme : ME σ σ := ME.rf
  have gC := hw.1.2.2.2.1
  have gR := hw.2.1.1
  have gO := hw.2.1.2.2.2.2
  have g6 : 2 ^ nR S ≤ 2 ^ 6 := Nat.pow_le_pow_right (by decide) gR
  refine j_aload_n (pc := 0) C dX10_rule_0 rfl 0 rfl ?_
  refine j_iload_n (pc := 1) C dX10_rule_1 rfl 1 rfl ?_
  refine j_callV (pc := 2) C [.int t] [] (rm0 := ({ frames := 3, cells := 0, slots := 0, locals := 64 } : Room)) (k' := 0) (n' := 0) Q.1 (c_X10_isClass (xl X) (xw X) hs hw t) mp_X10_isClass wm_1218 hs.2.1.1 rfl rfl (by decide) rfl rfl (Nat.le_of_ble_eq_true rfl) dX10_rule_2 ⟨by decide, by decide⟩ ⟨Nat.le_of_ble_eq_true rfl, Nat.le_of_ble_eq_true rfl⟩ rfl rfl (det1 ?_)
  refine jb_if_eq (pc := 5) C 29 (b := inI t (nC S)) dX10_rule_5 (by decide) (fun c1 => ?_) (fun c1 => ?_)
  · refine j_iconst (pc := 29) C (nI 0) dX10_rule_29 (by decide) ?_
    refine j_istore (pc := 30) C [(5, .int (nI 0)), (0, .ref (x9 0)), (1, .int t), (2, .int u), (3, .int l), (4, .int r)] dX10_rule_30 (by decide) rfl ?_
    refine j_aload_n (pc := 32) C dX10_rule_32 rfl 1 rfl ?_
    refine j_iload (pc := 33) C dX10_rule_33 0 rfl ?_
    refine j_if_ne (pc := 35) C 42 dX10_rule_35 (by decide) (fun q => absurd q (by decide)) (fun _ => ?_)
    refine j_iconst (pc := 38) C (nI 1) dX10_rule_38 (by decide) ?_
    refine j_goto (pc := 39) C 70 dX10_rule_39 (by decide) ?_
    refine j_callV (pc := 70) C [.int (nI 1)] [] (rm0 := ({ frames := 3, cells := 0, slots := 0, locals := 64 } : Room)) (k' := 0) (n' := 0) Q.1 (c_X10_holds (xl X) (xw X) hs (nI 1)) mp_X10_holds wm_1156 hs.2.1.1 rfl rfl (by decide) rfl rfl (Nat.le_of_ble_eq_true rfl) dX10_rule_70 ⟨by decide, by decide⟩ ⟨Nat.le_of_ble_eq_true rfl, Nat.le_of_ble_eq_true rfl⟩ rfl rfl (fun v9 σ1 hp9 => ?_)
    obtain ⟨rfl, hs, hme9⟩ := hp9
    have hme := hme.tr hme9
    show J X 0 0 σ1 [(5, .int (nI 0)), (0, .ref (x9 0)), (1, .int t), (2, .int u), (3, .int l), (4, .int r)] [.int (bI (decide (nI 1 = 0)))] 73
    refine j_topi (bI false) (by decide) ?_
    refine j_if_ne (pc := 73) C 78 dX10_rule_73 (by decide) (fun q => absurd q (by decide)) (fun _ => ?_)
    refine j_iconst (pc := 76) C (nI 0) dX10_rule_76 (by decide) ?_
    exact j_ireturn (pc := 77) C Q dX10_rule_77 (Nat.le_of_ble_eq_true rfl) (Nat.le_of_ble_eq_true rfl) (by unfold s_rule; rw [if_pos (by rw [c1]; rfl)]; exact ⟨rfl, hs, hme⟩)
  · refine j_aload_n (pc := 8) C dX10_rule_8 rfl 0 rfl ?_
    refine j_iload_n (pc := 9) C dX10_rule_9 rfl 3 rfl ?_
    refine j_callV (pc := 10) C [.int l] [] (rm0 := ({ frames := 3, cells := 0, slots := 0, locals := 64 } : Room)) (k' := 0) (n' := 0) Q.1 (c_X10_isSide (xl X) (xw X) hs hw l) mp_X10_isSide wm_1222 hs.2.1.1 rfl rfl (by decide) rfl rfl (Nat.le_of_ble_eq_true rfl) dX10_rule_10 ⟨by decide, by decide⟩ ⟨Nat.le_of_ble_eq_true rfl, Nat.le_of_ble_eq_true rfl⟩ rfl rfl (det1 ?_)
    refine jb_if_eq (pc := 13) C 29 (b := isSide9 S l) dX10_rule_13 (by decide) (fun c2 => ?_) (fun c2 => ?_)
    · refine j_iconst (pc := 29) C (nI 0) dX10_rule_29 (by decide) ?_
      refine j_istore (pc := 30) C [(5, .int (nI 0)), (0, .ref (x9 0)), (1, .int t), (2, .int u), (3, .int l), (4, .int r)] dX10_rule_30 (by decide) rfl ?_
      refine j_aload_n (pc := 32) C dX10_rule_32 rfl 1 rfl ?_
      refine j_iload (pc := 33) C dX10_rule_33 0 rfl ?_
      refine j_if_ne (pc := 35) C 42 dX10_rule_35 (by decide) (fun q => absurd q (by decide)) (fun _ => ?_)
      refine j_iconst (pc := 38) C (nI 1) dX10_rule_38 (by decide) ?_
      refine j_goto (pc := 39) C 70 dX10_rule_39 (by decide) ?_
      refine j_callV (pc := 70) C [.int (nI 1)] [] (rm0 := ({ frames := 3, cells := 0, slots := 0, locals := 64 } : Room)) (k' := 0) (n' := 0) Q.1 (c_X10_holds (xl X) (xw X) hs (nI 1)) mp_X10_holds wm_1156 hs.2.1.1 rfl rfl (by decide) rfl rfl (Nat.le_of_ble_eq_true rfl) dX10_rule_70 ⟨by decide, by decide⟩ ⟨Nat.le_of_ble_eq_true rfl, Nat.le_of_ble_eq_true rfl⟩ rfl rfl (fun v9 σ2 hp9 => ?_)
      obtain ⟨rfl, hs, hme9⟩ := hp9
      have hme := hme.tr hme9
      show J X 0 0 σ2 [(5, .int (nI 0)), (0, .ref (x9 0)), (1, .int t), (2, .int u), (3, .int l), (4, .int r)] [.int (bI (decide (nI 1 = 0)))] 73
      refine j_topi (bI false) (by decide) ?_
      refine j_if_ne (pc := 73) C 78 dX10_rule_73 (by decide) (fun q => absurd q (by decide)) (fun _ => ?_)
      refine j_iconst (pc := 76) C (nI 0) dX10_rule_76 (by decide) ?_
      exact j_ireturn (pc := 77) C Q dX10_rule_77 (Nat.le_of_ble_eq_true rfl) (Nat.le_of_ble_eq_true rfl) (by unfold s_rule; rw [if_pos (by rw [c1, c2]; rfl)]; exact ⟨rfl, hs, hme⟩)
    · refine j_aload_n (pc := 16) C dX10_rule_16 rfl 0 rfl ?_
      refine j_iload (pc := 17) C dX10_rule_17 4 rfl ?_
      refine j_callV (pc := 19) C [.int r] [] (rm0 := ({ frames := 3, cells := 0, slots := 0, locals := 64 } : Room)) (k' := 0) (n' := 0) Q.1 (c_X10_isSide (xl X) (xw X) hs hw r) mp_X10_isSide wm_1222 hs.2.1.1 rfl rfl (by decide) rfl rfl (Nat.le_of_ble_eq_true rfl) dX10_rule_19 ⟨by decide, by decide⟩ ⟨Nat.le_of_ble_eq_true rfl, Nat.le_of_ble_eq_true rfl⟩ rfl rfl (det1 ?_)
      refine jb_if_eq (pc := 22) C 29 (b := isSide9 S r) dX10_rule_22 (by decide) (fun c3 => ?_) (fun c3 => ?_)
      · refine j_iconst (pc := 29) C (nI 0) dX10_rule_29 (by decide) ?_
        refine j_istore (pc := 30) C [(5, .int (nI 0)), (0, .ref (x9 0)), (1, .int t), (2, .int u), (3, .int l), (4, .int r)] dX10_rule_30 (by decide) rfl ?_
        refine j_aload_n (pc := 32) C dX10_rule_32 rfl 1 rfl ?_
        refine j_iload (pc := 33) C dX10_rule_33 0 rfl ?_
        refine j_if_ne (pc := 35) C 42 dX10_rule_35 (by decide) (fun q => absurd q (by decide)) (fun _ => ?_)
        refine j_iconst (pc := 38) C (nI 1) dX10_rule_38 (by decide) ?_
        refine j_goto (pc := 39) C 70 dX10_rule_39 (by decide) ?_
        refine j_callV (pc := 70) C [.int (nI 1)] [] (rm0 := ({ frames := 3, cells := 0, slots := 0, locals := 64 } : Room)) (k' := 0) (n' := 0) Q.1 (c_X10_holds (xl X) (xw X) hs (nI 1)) mp_X10_holds wm_1156 hs.2.1.1 rfl rfl (by decide) rfl rfl (Nat.le_of_ble_eq_true rfl) dX10_rule_70 ⟨by decide, by decide⟩ ⟨Nat.le_of_ble_eq_true rfl, Nat.le_of_ble_eq_true rfl⟩ rfl rfl (fun v9 σ3 hp9 => ?_)
        obtain ⟨rfl, hs, hme9⟩ := hp9
        have hme := hme.tr hme9
        show J X 0 0 σ3 [(5, .int (nI 0)), (0, .ref (x9 0)), (1, .int t), (2, .int u), (3, .int l), (4, .int r)] [.int (bI (decide (nI 1 = 0)))] 73
        refine j_topi (bI false) (by decide) ?_
        refine j_if_ne (pc := 73) C 78 dX10_rule_73 (by decide) (fun q => absurd q (by decide)) (fun _ => ?_)
        refine j_iconst (pc := 76) C (nI 0) dX10_rule_76 (by decide) ?_
        exact j_ireturn (pc := 77) C Q dX10_rule_77 (Nat.le_of_ble_eq_true rfl) (Nat.le_of_ble_eq_true rfl) (by unfold s_rule; rw [if_pos (by rw [c1, c2, c3]; rfl)]; exact ⟨rfl, hs, hme⟩)
      · refine j_iconst (pc := 25) C (nI 1) dX10_rule_25 (by decide) ?_
        refine j_goto (pc := 26) C 30 dX10_rule_26 (by decide) ?_
        refine j_istore (pc := 30) C [(5, .int (nI 1)), (0, .ref (x9 0)), (1, .int t), (2, .int u), (3, .int l), (4, .int r)] dX10_rule_30 (by decide) rfl ?_
        refine j_aload_n (pc := 32) C dX10_rule_32 rfl 1 rfl ?_
        refine j_iload (pc := 33) C dX10_rule_33 0 rfl ?_
        refine j_if_ne (pc := 35) C 42 dX10_rule_35 (by decide) (fun _ => ?_) (fun q => absurd q (by decide))
        refine j_iload_n (pc := 42) C dX10_rule_42 rfl 3 rfl ?_
        refine j_iconst (pc := 43) C (nI 0) dX10_rule_43 (by decide) ?_
        refine j_bipush (pc := 44) C (nI 63) dX10_rule_44 (by decide) ?_
        refine j_callS (pc := 46) C [.int u, .int (nI 0), .int (nI 63)] [.ref (x9 0)] (rm0 := ({ frames := 3, cells := 0, slots := 0, locals := 64 } : Room)) (k' := 0) (n' := 0) Q.1 (c_X10_isIn (xl X) (xw X) _ _ _ _ (in_of u (by decide))) mp_X10_isIn wm_1153 rfl rfl (Nat.le_of_ble_eq_true rfl) dX10_rule_46 ⟨by decide, by decide⟩ ⟨Nat.le_of_ble_eq_true rfl, Nat.le_of_ble_eq_true rfl⟩ rfl rfl (det1 ?_)
        refine jb_if_ne (pc := 49) C 56 (b := inI u 64) dX10_rule_49 (by decide) (fun c4 => ?_) (fun c4 => ?_)
        · refine j_aload_n (pc := 56) C dX10_rule_56 rfl 1 rfl ?_
          refine j_getI (pc := 57) C fp_X10_133 hs.2.1.1 rfl (f := 659) rfl dX10_rule_57 ?_
          refine j_topi (nI (nR S)) (hs.rdI 659 0 0 (by decide) (by decide)) ?_
          refine j_bipush (pc := 60) C (nI 6) dX10_rule_60 (by decide) ?_
          refine jn_icmp_ne (pc := 62) C 69 (a := nR S) (b := 6) (by omega) (by omega) dX10_rule_62 (by decide) (fun c5 => ?_) (fun c5 => ?_)
          · refine j_iconst (pc := 69) C (nI 0) dX10_rule_69 (by decide) ?_
            refine j_callV (pc := 70) C [.int (nI 0)] [] (rm0 := ({ frames := 3, cells := 0, slots := 0, locals := 64 } : Room)) (k' := 0) (n' := 0) Q.1 (c_X10_holds (xl X) (xw X) hs (nI 0)) mp_X10_holds wm_1156 hs.2.1.1 rfl rfl (by decide) rfl rfl (Nat.le_of_ble_eq_true rfl) dX10_rule_70 ⟨by decide, by decide⟩ ⟨Nat.le_of_ble_eq_true rfl, Nat.le_of_ble_eq_true rfl⟩ rfl rfl (fun v9 σ4 hp9 => ?_)
            obtain ⟨rfl, hs, hme9⟩ := hp9
            have hme := hme.tr hme9
            show J X 0 0 σ4 [(5, .int (nI 1)), (0, .ref (x9 0)), (1, .int t), (2, .int u), (3, .int l), (4, .int r)] [.int (bI (decide (nI 0 = 0)))] 73
            refine j_topi (bI true) (by decide) ?_
            obtain ⟨ht1, ht2⟩ := inI_t c1
            obtain ⟨hu1, hu2⟩ := inI_t c4
            refine j_if_ne (pc := 73) C 78 dX10_rule_73 (by decide) (fun _ => ?_) (fun q => absurd q (by decide))
            refine j_aload_n (pc := 78) C dX10_rule_78 rfl 1 rfl ?_
            refine j_getI (pc := 79) C fp_X10_133 hs.2.1.1 rfl (f := 659) rfl dX10_rule_79 ?_
            refine j_topi (nI (nR S)) (hs.rdI 659 0 0 (by decide) (by decide)) ?_
            refine j_istore (pc := 82) C [(6, .int (nI (nR S))), (5, .int (nI 1)), (0, .ref (x9 0)), (1, .int t), (2, .int u), (3, .int l), (4, .int r)] dX10_rule_82 (by decide) rfl ?_
            refine j_aload_n (pc := 84) C dX10_rule_84 rfl 2 rfl ?_
            refine j_getA (pc := 85) C fp_X10_36 hs.2.1.1 rfl (f := 653) rfl (11, 23) (x9 13) ((hs.2.1.2 13 (by decide) (by decide)).1) ((hs.2.1.2 13 (by decide) (by decide)).2.1) dX10_rule_85 ?_
            refine j_iload (pc := 88) C dX10_rule_88 0 rfl ?_
            refine j_iload_n (pc := 90) C dX10_rule_90 rfl 3 rfl ?_
            refine j_topi (nI (xN t)) ht2 ?_
            refine j_iast (pc := 91) C (p := nR S) (M := 6) ((hs.2.1.2 13 (by decide) (by decide)).2.1) rfl ((hs.2.1.2 13 (by decide) (by decide)).2.2) (by omega) (by decide) dX10_rule_91 ?_
            have hs := hs.wI 704 23 (nR S) (xN t) (by decide) (by decide)
            have hme := hme.sI (f := 704) (i := 23) (j := (nR S)) (v := (nI (xN t))) rfl
            generalize sI σ4 704 23 (nR S) (nI (xN t)) = σ5 at hs hme ⊢
            refine j_aload_n (pc := 92) C dX10_rule_92 rfl 2 rfl ?_
            refine j_getA (pc := 93) C fp_X10_39 hs.2.1.1 rfl (f := 654) rfl (11, 24) (x9 14) ((hs.2.1.2 14 (by decide) (by decide)).1) ((hs.2.1.2 14 (by decide) (by decide)).2.1) dX10_rule_93 ?_
            refine j_iload (pc := 96) C dX10_rule_96 0 rfl ?_
            refine j_iload_n (pc := 98) C dX10_rule_98 rfl 4 rfl ?_
            refine j_topi (nI (xN u)) hu2 ?_
            refine j_iast (pc := 99) C (p := nR S) (M := 6) ((hs.2.1.2 14 (by decide) (by decide)).2.1) rfl ((hs.2.1.2 14 (by decide) (by decide)).2.2) (by omega) (by decide) dX10_rule_99 ?_
            have hs := hs.wI 704 24 (nR S) (xN u) (by decide) (by decide)
            have hme := hme.sI (f := 704) (i := 24) (j := (nR S)) (v := (nI (xN u))) rfl
            generalize sI σ5 704 24 (nR S) (nI (xN u)) = σ6 at hs hme ⊢
            refine j_aload_n (pc := 100) C dX10_rule_100 rfl 2 rfl ?_
            refine j_getA (pc := 101) C fp_X10_42 hs.2.1.1 rfl (f := 655) rfl (11, 25) (x9 15) ((hs.2.1.2 15 (by decide) (by decide)).1) ((hs.2.1.2 15 (by decide) (by decide)).2.1) dX10_rule_101 ?_
            refine j_iload (pc := 104) C dX10_rule_104 0 rfl ?_
            refine j_iload_n (pc := 106) C dX10_rule_106 rfl 5 rfl ?_
            refine j_iast (pc := 107) C (p := nR S) (M := 6) ((hs.2.1.2 15 (by decide) (by decide)).2.1) rfl ((hs.2.1.2 15 (by decide) (by decide)).2.2) (by omega) (by decide) dX10_rule_107 ?_
            have hs := hs.wO 704 25 (nR S) (sideN l) l (by decide) (side_enc gC c2)
            have hme := hme.sI (f := 704) (i := 25) (j := (nR S)) (v := l) rfl
            generalize sI σ6 704 25 (nR S) l = σ7 at hs hme ⊢
            refine j_aload_n (pc := 108) C dX10_rule_108 rfl 2 rfl ?_
            refine j_getA (pc := 109) C fp_X10_45 hs.2.1.1 rfl (f := 656) rfl (11, 26) (x9 16) ((hs.2.1.2 16 (by decide) (by decide)).1) ((hs.2.1.2 16 (by decide) (by decide)).2.1) dX10_rule_109 ?_
            refine j_iload (pc := 112) C dX10_rule_112 0 rfl ?_
            refine j_iload (pc := 114) C dX10_rule_114 6 rfl ?_
            refine j_iast (pc := 116) C (p := nR S) (M := 6) ((hs.2.1.2 16 (by decide) (by decide)).2.1) rfl ((hs.2.1.2 16 (by decide) (by decide)).2.2) (by omega) (by decide) dX10_rule_116 ?_
            have hs := hs.wO 704 26 (nR S) (sideN r) r (by decide) (side_enc gC c3)
            have hme := hme.sI (f := 704) (i := 26) (j := (nR S)) (v := r) rfl
            generalize sI σ7 704 26 (nR S) r = σ8 at hs hme ⊢
            refine j_aload_n (pc := 117) C dX10_rule_117 rfl 2 rfl ?_
            refine j_getA (pc := 118) C fp_X10_48 hs.2.1.1 rfl (f := 657) rfl (11, 27) (x9 17) ((hs.2.1.2 17 (by decide) (by decide)).1) ((hs.2.1.2 17 (by decide) (by decide)).2.1) dX10_rule_118 ?_
            refine j_iload (pc := 121) C dX10_rule_121 0 rfl ?_
            refine j_iload (pc := 123) C dX10_rule_123 0 rfl ?_
            refine j_iast (pc := 125) C (p := nR S) (M := 6) ((hs.2.1.2 17 (by decide) (by decide)).2.1) rfl ((hs.2.1.2 17 (by decide) (by decide)).2.2) (by omega) (by decide) dX10_rule_125 ?_
            have hs := hs.wI 704 27 (nR S) (nR S) (by decide) (by decide)
            have hme := hme.sI (f := 704) (i := 27) (j := (nR S)) (v := (nI (nR S))) rfl
            generalize sI σ8 704 27 (nR S) (nI (nR S)) = σ9 at hs hme ⊢
            refine j_aload_n (pc := 126) C dX10_rule_126 rfl 2 rfl ?_
            refine j_dup (pc := 127) C dX10_rule_127 rfl ?_
            refine j_getI (pc := 128) C fp_X10_155 hs.2.1.1 rfl (f := 658) rfl dX10_rule_128 ?_
            refine j_topi (nI (on9 S)) (hs.rdI 658 0 0 (by decide) (by decide)) ?_
            refine j_iconst (pc := 131) C (nI 1) dX10_rule_131 (by decide) ?_
            refine j_iload (pc := 132) C dX10_rule_132 0 rfl ?_
            refine j_ishl (pc := 134) C dX10_rule_134 ?_
            refine j_topi (nI (2 ^ nR S)) (shl1 (by omega)) ?_
            refine j_ior (pc := 135) C dX10_rule_135 ?_
            refine j_topi (nI ((on9 S) ||| (2 ^ nR S))) (nx_or (on9 S) (2 ^ nR S)) ?_
            refine j_putI (pc := 136) C fp_X10_155 hs.2.1.1 rfl rfl (Or.inl rfl) rfl (by decide) (f := 658) rfl dX10_rule_136 ?_
            have hs := hs.wI 658 0 0 ((on9 S) ||| (2 ^ nR S)) (by decide) (by decide)
            have hme := hme.sI (f := 658) (i := 0) (j := 0) (v := (nI ((on9 S) ||| (2 ^ nR S)))) rfl
            generalize sI σ9 658 0 0 (nI ((on9 S) ||| (2 ^ nR S))) = σ10 at hs hme ⊢
            refine j_aload_n (pc := 139) C dX10_rule_139 rfl 2 rfl ?_
            refine j_dup (pc := 140) C dX10_rule_140 rfl ?_
            refine j_getI (pc := 141) C fp_X10_133 hs.2.1.1 rfl (f := 659) rfl dX10_rule_141 ?_
            refine j_topi (nI (nR S)) (hs.rdI 659 0 0 (by decide) (by decide)) ?_
            refine j_iconst (pc := 144) C (nI 1) dX10_rule_144 (by decide) ?_
            refine j_iadd (pc := 145) C dX10_rule_145 ?_
            refine j_topi (nI (nR S + 1)) (nI_add (nR S) 1) ?_
            refine j_putI (pc := 146) C fp_X10_133 hs.2.1.1 rfl rfl (Or.inl rfl) rfl (by decide) (f := 659) rfl dX10_rule_146 ?_
            have hs := hs.wI 659 0 0 (nR S + 1) (by decide) (by decide)
            have hme := hme.sI (f := 659) (i := 0) (j := 0) (v := (nI (nR S + 1))) rfl
            generalize sI σ10 659 0 0 (nI (nR S + 1)) = σ11 at hs hme ⊢
            refine j_iload (pc := 149) C dX10_rule_149 0 rfl ?_
            exact j_ireturn (pc := 151) C Q dX10_rule_151 (Nat.le_of_ble_eq_true rfl) (Nat.le_of_ble_eq_true rfl) (by unfold s_rule; rw [if_neg (by rw [c1, c2, c3]; decide), if_neg (by rw [c4]; decide), if_neg c5]; exact ⟨rfl, hs, hme⟩)
          · refine j_iconst (pc := 65) C (nI 3) dX10_rule_65 (by decide) ?_
            refine j_goto (pc := 66) C 70 dX10_rule_66 (by decide) ?_
            refine j_callV (pc := 70) C [.int (nI 3)] [] (rm0 := ({ frames := 3, cells := 0, slots := 0, locals := 64 } : Room)) (k' := 0) (n' := 0) Q.1 (c_X10_holds (xl X) (xw X) hs (nI 3)) mp_X10_holds wm_1156 hs.2.1.1 rfl rfl (by decide) rfl rfl (Nat.le_of_ble_eq_true rfl) dX10_rule_70 ⟨by decide, by decide⟩ ⟨Nat.le_of_ble_eq_true rfl, Nat.le_of_ble_eq_true rfl⟩ rfl rfl (fun v9 σ12 hp9 => ?_)
            obtain ⟨rfl, hs, hme9⟩ := hp9
            have hme := hme.tr hme9
            show J X 0 0 σ12 [(5, .int (nI 1)), (0, .ref (x9 0)), (1, .int t), (2, .int u), (3, .int l), (4, .int r)] [.int (bI (decide (nI 3 = 0)))] 73
            refine j_topi (bI false) (by decide) ?_
            refine j_if_ne (pc := 73) C 78 dX10_rule_73 (by decide) (fun q => absurd q (by decide)) (fun _ => ?_)
            refine j_iconst (pc := 76) C (nI 0) dX10_rule_76 (by decide) ?_
            exact j_ireturn (pc := 77) C Q dX10_rule_77 (Nat.le_of_ble_eq_true rfl) (Nat.le_of_ble_eq_true rfl) (by unfold s_rule; rw [if_neg (by rw [c1, c2, c3]; decide), if_neg (by rw [c4]; decide), if_pos c5]; exact ⟨rfl, hs, hme⟩)
        · refine j_iconst (pc := 52) C (nI 2) dX10_rule_52 (by decide) ?_
          refine j_goto (pc := 53) C 70 dX10_rule_53 (by decide) ?_
          refine j_callV (pc := 70) C [.int (nI 2)] [] (rm0 := ({ frames := 3, cells := 0, slots := 0, locals := 64 } : Room)) (k' := 0) (n' := 0) Q.1 (c_X10_holds (xl X) (xw X) hs (nI 2)) mp_X10_holds wm_1156 hs.2.1.1 rfl rfl (by decide) rfl rfl (Nat.le_of_ble_eq_true rfl) dX10_rule_70 ⟨by decide, by decide⟩ ⟨Nat.le_of_ble_eq_true rfl, Nat.le_of_ble_eq_true rfl⟩ rfl rfl (fun v9 σ13 hp9 => ?_)
          obtain ⟨rfl, hs, hme9⟩ := hp9
          have hme := hme.tr hme9
          show J X 0 0 σ13 [(5, .int (nI 1)), (0, .ref (x9 0)), (1, .int t), (2, .int u), (3, .int l), (4, .int r)] [.int (bI (decide (nI 2 = 0)))] 73
          refine j_topi (bI false) (by decide) ?_
          refine j_if_ne (pc := 73) C 78 dX10_rule_73 (by decide) (fun q => absurd q (by decide)) (fun _ => ?_)
          refine j_iconst (pc := 76) C (nI 0) dX10_rule_76 (by decide) ?_
          exact j_ireturn (pc := 77) C Q dX10_rule_77 (Nat.le_of_ble_eq_true rfl) (Nat.le_of_ble_eq_true rfl) (by unfold s_rule; rw [if_neg (by rw [c1, c2, c3]; decide), if_pos c4]; exact ⟨rfl, hs, hme⟩)
set_option maxHeartbeats 4000000 in
set_option maxRecDepth 100000 in
theorem c_X10_turn (L9 : Launch) (w9 : Wd) {σ : HS} {S : SP} {x9 : Nat → Nat} {k9 : Int32} (hs : RS S x9 k9 σ) (hw : WF S) (x : Int32) (b : Bool) : MJ L9 w9 yX10_turn cX10_turn 4 (some .boolean) ({ frames := 2, cells := 0, slots := 0, locals := 43 } : Room) [.ref (x9 0), .int x, .int (bI b)] σ (fun a9 σ' => a9 = some (.int (s_turn S x b).2.1) ∧ RS (s_turn S x b).2.2 x9 (nI (s_turn S x b).1) σ' ∧ ME σ σ') := by
  refine MJ.of (by decide +kernel) (Nat.le_of_ble_eq_true rfl) (fun X hX1 hX2 C Q hinit => ?_)
  subst hX1; subst hX2
  show J X 0 0 σ [(0, .ref (x9 0)), (1, .int x), (2, .int (bI b))] [] 0
  have hme : ME σ σ := ME.rf
  have gR := hw.2.1.1
  have gO := hw.2.1.2.2.2.2
  have g6 : 2 ^ nR S ≤ 2 ^ 6 := Nat.pow_le_pow_right (by decide) gR
  refine j_aload_n (pc := 0) C dX10_turn_0 rfl 0 rfl ?_
  refine j_aload_n (pc := 1) C dX10_turn_1 rfl 0 rfl ?_
  refine j_iload_n (pc := 2) C dX10_turn_2 rfl 1 rfl ?_
  refine j_callV (pc := 3) C [.int x] [.ref (x9 0)] (rm0 := ({ frames := 2, cells := 0, slots := 0, locals := 43 } : Room)) (k' := 0) (n' := 0) Q.1 (c_X10_isRule (xl X) (xw X) hs hw x) mp_X10_isRule wm_1230 hs.2.1.1 rfl rfl (by decide) rfl rfl (Nat.le_of_ble_eq_true rfl) dX10_turn_3 ⟨by decide, by decide⟩ ⟨Nat.le_of_ble_eq_true rfl, Nat.le_of_ble_eq_true rfl⟩ rfl rfl (det1 ?_)
  refine jb_if_eq (pc := 6) C 13 (b := inI x (nR S)) dX10_turn_6 (by decide) (fun c1 => ?_) (fun c1 => ?_)
  · refine j_iconst (pc := 13) C (nI 1) dX10_turn_13 (by decide) ?_
    refine j_callV (pc := 14) C [.int (nI 1)] [] (rm0 := ({ frames := 2, cells := 0, slots := 0, locals := 43 } : Room)) (k' := 0) (n' := 0) Q.1 (c_X10_holds (xl X) (xw X) hs (nI 1)) mp_X10_holds wm_1156 hs.2.1.1 rfl rfl (by decide) rfl rfl (Nat.le_of_ble_eq_true rfl) dX10_turn_14 ⟨by decide, by decide⟩ ⟨Nat.le_of_ble_eq_true rfl, Nat.le_of_ble_eq_true rfl⟩ rfl rfl (fun v9 σ1 hp9 => ?_)
    obtain ⟨rfl, hs, hme9⟩ := hp9
    have hme := hme.tr hme9
    show J X 0 0 σ1 [(0, .ref (x9 0)), (1, .int x), (2, .int (bI b))] [.int (bI (decide (nI 1 = 0)))] 17
    refine j_topi (bI false) (by decide) ?_
    refine j_if_ne (pc := 17) C 22 dX10_turn_17 (by decide) (fun q => absurd q (by decide)) (fun _ => ?_)
    refine j_iconst (pc := 20) C (nI 0) dX10_turn_20 (by decide) ?_
    exact j_zreturn (pc := 21) C Q dX10_turn_21 (by decide) (Nat.le_of_ble_eq_true rfl) (Nat.le_of_ble_eq_true rfl) (by unfold s_turn; rw [if_pos c1]; exact ⟨rfl, hs, hme⟩)
  · obtain ⟨hx1, hx2⟩ := inI_t c1
    rw [hx2]
    refine j_iconst (pc := 9) C (nI 0) dX10_turn_9 (by decide) ?_
    refine j_goto (pc := 10) C 14 dX10_turn_10 (by decide) ?_
    refine j_callV (pc := 14) C [.int (nI 0)] [] (rm0 := ({ frames := 2, cells := 0, slots := 0, locals := 43 } : Room)) (k' := 0) (n' := 0) Q.1 (c_X10_holds (xl X) (xw X) hs (nI 0)) mp_X10_holds wm_1156 hs.2.1.1 rfl rfl (by decide) rfl rfl (Nat.le_of_ble_eq_true rfl) dX10_turn_14 ⟨by decide, by decide⟩ ⟨Nat.le_of_ble_eq_true rfl, Nat.le_of_ble_eq_true rfl⟩ rfl rfl (fun v9 σ2 hp9 => ?_)
    obtain ⟨rfl, hs, hme9⟩ := hp9
    have hme := hme.tr hme9
    show J X 0 0 σ2 [(0, .ref (x9 0)), (1, .int (nI (xN x))), (2, .int (bI b))] [.int (bI (decide (nI 0 = 0)))] 17
    refine j_topi (bI true) (by decide) ?_
    have h64 : setOn (on9 S) (xN x) b < 2 ^ nR S := setOn_lt gO hx1
    refine j_if_ne (pc := 17) C 22 dX10_turn_17 (by decide) (fun _ => ?_) (fun q => absurd q (by decide))
    refine j_aload_n (pc := 22) C dX10_turn_22 rfl 0 rfl ?_
    refine j_getI (pc := 23) C fp_X10_155 hs.2.1.1 rfl (f := 658) rfl dX10_turn_23 ?_
    refine j_topi (nI (on9 S)) (hs.rdI 658 0 0 (by decide) (by decide)) ?_
    refine j_istore_n (pc := 26) C [(3, .int (nI (on9 S))), (0, .ref (x9 0)), (1, .int (nI (xN x))), (2, .int (bI b))] dX10_turn_26 rfl (by decide) rfl ?_
    refine j_aload_n (pc := 27) C dX10_turn_27 rfl 1 rfl ?_
    refine j_iload_n (pc := 28) C dX10_turn_28 rfl 3 rfl ?_
    refine jb_if_eq (pc := 29) C 43 (b := b) dX10_turn_29 (by decide) (fun c2 => ?_) (fun c2 => ?_)
    · subst c2
      refine j_aload_n (pc := 43) C dX10_turn_43 rfl 1 rfl ?_
      refine j_getI (pc := 44) C fp_X10_155 hs.2.1.1 rfl (f := 658) rfl dX10_turn_44 ?_
      refine j_topi (nI (on9 S)) (hs.rdI 658 0 0 (by decide) (by decide)) ?_
      refine j_iconst (pc := 47) C (nI 1) dX10_turn_47 (by decide) ?_
      refine j_iload_n (pc := 48) C dX10_turn_48 rfl 2 rfl ?_
      refine j_ishl (pc := 49) C dX10_turn_49 ?_
      refine j_topi (nI (2 ^ xN x)) (shl1 (by omega)) ?_
      refine j_iconst (pc := 50) C (-1) dX10_turn_50 (by decide) ?_
      refine j_ixor (pc := 51) C dX10_turn_51 ?_
      refine j_iand (pc := 52) C dX10_turn_52 ?_
      refine j_topi (nI (setOn (on9 S) (xN x) false)) (setOn_off (by omega)) ?_
      refine j_putI (pc := 53) C fp_X10_155 hs.2.1.1 rfl rfl (Or.inl rfl) rfl (by decide) (f := 658) rfl dX10_turn_53 ?_
      have hs := hs.wI 658 0 0 (setOn (on9 S) (xN x) false) (by decide) (by decide)
      have hme := hme.sI (f := 658) (i := 0) (j := 0) (v := (nI (setOn (on9 S) (xN x) false))) rfl
      generalize sI σ2 658 0 0 (nI (setOn (on9 S) (xN x) false)) = σ3 at hs hme ⊢
      refine j_aload_n (pc := 56) C dX10_turn_56 rfl 1 rfl ?_
      refine j_getI (pc := 57) C fp_X10_155 hs.2.1.1 rfl (f := 658) rfl dX10_turn_57 ?_
      refine j_topi (nI (setOn (on9 S) (xN x) false)) ((hs.rdI 658 0 0 (by decide) (by decide)).trans (congrArg nI zN_eq)) ?_
      refine j_iload_n (pc := 60) C dX10_turn_60 rfl 0 rfl ?_
      refine jn_icmp_eq (pc := 61) C 68 (a := setOn (on9 S) (xN x) false) (b := on9 S) (by omega) (by omega) dX10_turn_61 (by decide) (fun c3 => ?_) (fun c3 => ?_)
      · refine j_iconst (pc := 68) C (nI 0) dX10_turn_68 (by decide) ?_
        refine j_topi (bI (decide ((on9 S).testBit (xN x) ≠ false))) (by rw [decide_eq_false (show ¬ (on9 S).testBit (xN x) ≠ false from fun z => z (setOn_id.mp c3))]; rfl) ?_
        exact j_zreturn (pc := 69) C Q dX10_turn_69 (bI_nar _) (Nat.le_of_ble_eq_true rfl) (Nat.le_of_ble_eq_true rfl) (by unfold s_turn; rw [if_neg (by rw [c1]; decide)]; exact ⟨rfl, hs, hme⟩)
      · refine j_iconst (pc := 64) C (nI 1) dX10_turn_64 (by decide) ?_
        refine j_goto (pc := 65) C 69 dX10_turn_65 (by decide) ?_
        refine j_topi (bI (decide ((on9 S).testBit (xN x) ≠ false))) (by rw [decide_eq_true (show (on9 S).testBit (xN x) ≠ false from fun z => c3 (setOn_id.mpr z))]; rfl) ?_
        exact j_zreturn (pc := 69) C Q dX10_turn_69 (bI_nar _) (Nat.le_of_ble_eq_true rfl) (Nat.le_of_ble_eq_true rfl) (by unfold s_turn; rw [if_neg (by rw [c1]; decide)]; exact ⟨rfl, hs, hme⟩)
    · subst c2
      refine j_aload_n (pc := 32) C dX10_turn_32 rfl 1 rfl ?_
      refine j_getI (pc := 33) C fp_X10_155 hs.2.1.1 rfl (f := 658) rfl dX10_turn_33 ?_
      refine j_topi (nI (on9 S)) (hs.rdI 658 0 0 (by decide) (by decide)) ?_
      refine j_iconst (pc := 36) C (nI 1) dX10_turn_36 (by decide) ?_
      refine j_iload_n (pc := 37) C dX10_turn_37 rfl 2 rfl ?_
      refine j_ishl (pc := 38) C dX10_turn_38 ?_
      refine j_topi (nI (2 ^ xN x)) (shl1 (by omega)) ?_
      refine j_ior (pc := 39) C dX10_turn_39 ?_
      refine j_topi (nI ((on9 S) ||| (2 ^ xN x))) (nx_or (on9 S) (2 ^ xN x)) ?_
      refine j_goto (pc := 40) C 53 dX10_turn_40 (by decide) ?_
      refine j_topi (nI (setOn (on9 S) (xN x) true)) rfl ?_
      refine j_putI (pc := 53) C fp_X10_155 hs.2.1.1 rfl rfl (Or.inl rfl) rfl (by decide) (f := 658) rfl dX10_turn_53 ?_
      have hs := hs.wI 658 0 0 (setOn (on9 S) (xN x) true) (by decide) (by decide)
      have hme := hme.sI (f := 658) (i := 0) (j := 0) (v := (nI (setOn (on9 S) (xN x) true))) rfl
      generalize sI σ2 658 0 0 (nI (setOn (on9 S) (xN x) true)) = σ4 at hs hme ⊢
      refine j_aload_n (pc := 56) C dX10_turn_56 rfl 1 rfl ?_
      refine j_getI (pc := 57) C fp_X10_155 hs.2.1.1 rfl (f := 658) rfl dX10_turn_57 ?_
      refine j_topi (nI (setOn (on9 S) (xN x) true)) ((hs.rdI 658 0 0 (by decide) (by decide)).trans (congrArg nI zN_eq)) ?_
      refine j_iload_n (pc := 60) C dX10_turn_60 rfl 0 rfl ?_
      refine jn_icmp_eq (pc := 61) C 68 (a := setOn (on9 S) (xN x) true) (b := on9 S) (by omega) (by omega) dX10_turn_61 (by decide) (fun c3 => ?_) (fun c3 => ?_)
      · refine j_iconst (pc := 68) C (nI 0) dX10_turn_68 (by decide) ?_
        refine j_topi (bI (decide ((on9 S).testBit (xN x) ≠ true))) (by rw [decide_eq_false (show ¬ (on9 S).testBit (xN x) ≠ true from fun z => z (setOn_id.mp c3))]; rfl) ?_
        exact j_zreturn (pc := 69) C Q dX10_turn_69 (bI_nar _) (Nat.le_of_ble_eq_true rfl) (Nat.le_of_ble_eq_true rfl) (by unfold s_turn; rw [if_neg (by rw [c1]; decide)]; exact ⟨rfl, hs, hme⟩)
      · refine j_iconst (pc := 64) C (nI 1) dX10_turn_64 (by decide) ?_
        refine j_goto (pc := 65) C 69 dX10_turn_65 (by decide) ?_
        refine j_topi (bI (decide ((on9 S).testBit (xN x) ≠ true))) (by rw [decide_eq_true (show (on9 S).testBit (xN x) ≠ true from fun z => c3 (setOn_id.mpr z))]; rfl) ?_
        exact j_zreturn (pc := 69) C Q dX10_turn_69 (bI_nar _) (Nat.le_of_ble_eq_true rfl) (Nat.le_of_ble_eq_true rfl) (by unfold s_turn; rw [if_neg (by rw [c1]; decide)]; exact ⟨rfl, hs, hme⟩)
set_option maxHeartbeats 4000000 in
set_option maxRecDepth 100000 in
theorem c_X10_raise (L9 : Launch) (w9 : Wd) {σ : HS} {S : SP} {x9 : Nat → Nat} {k9 : Int32} (hs : RS S x9 k9 σ) (hw : WF S) (x : Int32) : MJ L9 w9 yX10_raise cX10_raise 3 (some .int) ({ frames := 2, cells := 0, slots := 0, locals := 43 } : Room) [.ref (x9 0), .int x] σ (fun a9 σ' => a9 = some (.int (s_raise S x).2.1) ∧ RS (s_raise S x).2.2 x9 (nI (s_raise S x).1) σ' ∧ ME σ σ') := by
  refine MJ.of (by decide +kernel) (Nat.le_of_ble_eq_true rfl) (fun X hX1 hX2 C Q hinit => ?_)
  subst hX1; subst hX2
  show J X 0 0 σ [(0, .ref (x9 0)), (1, .int x)] [] 0
  have hme : ME σ σ := ME.rf
  have gR := hw.2.1.1
  refine j_aload_n (pc := 0) C dX10_raise_0 rfl 0 rfl ?_
  refine j_aload_n (pc := 1) C dX10_raise_1 rfl 0 rfl ?_
  refine j_iload_n (pc := 2) C dX10_raise_2 rfl 1 rfl ?_
  refine j_callV (pc := 3) C [.int x] [.ref (x9 0)] (rm0 := ({ frames := 2, cells := 0, slots := 0, locals := 43 } : Room)) (k' := 0) (n' := 0) Q.1 (c_X10_isRule (xl X) (xw X) hs hw x) mp_X10_isRule wm_1230 hs.2.1.1 rfl rfl (by decide) rfl rfl (Nat.le_of_ble_eq_true rfl) dX10_raise_3 ⟨by decide, by decide⟩ ⟨Nat.le_of_ble_eq_true rfl, Nat.le_of_ble_eq_true rfl⟩ rfl rfl (det1 ?_)
  refine jb_if_eq (pc := 6) C 13 (b := inI x (nR S)) dX10_raise_6 (by decide) (fun c1 => ?_) (fun c1 => ?_)
  · refine j_iconst (pc := 13) C (nI 1) dX10_raise_13 (by decide) ?_
    refine j_callV (pc := 14) C [.int (nI 1)] [] (rm0 := ({ frames := 2, cells := 0, slots := 0, locals := 43 } : Room)) (k' := 0) (n' := 0) Q.1 (c_X10_holds (xl X) (xw X) hs (nI 1)) mp_X10_holds wm_1156 hs.2.1.1 rfl rfl (by decide) rfl rfl (Nat.le_of_ble_eq_true rfl) dX10_raise_14 ⟨by decide, by decide⟩ ⟨Nat.le_of_ble_eq_true rfl, Nat.le_of_ble_eq_true rfl⟩ rfl rfl (fun v9 σ1 hp9 => ?_)
    obtain ⟨rfl, hs, hme9⟩ := hp9
    have hme := hme.tr hme9
    show J X 0 0 σ1 [(0, .ref (x9 0)), (1, .int x)] [.int (bI (decide (nI 1 = 0)))] 17
    refine j_topi (bI false) (by decide) ?_
    refine j_if_ne (pc := 17) C 22 dX10_raise_17 (by decide) (fun q => absurd q (by decide)) (fun _ => ?_)
    refine j_iconst (pc := 20) C (nI 0) dX10_raise_20 (by decide) ?_
    exact j_ireturn (pc := 21) C Q dX10_raise_21 (Nat.le_of_ble_eq_true rfl) (Nat.le_of_ble_eq_true rfl) (by unfold s_raise; rw [if_pos c1]; exact ⟨rfl, hs, hme⟩)
  · obtain ⟨hx1, hx2⟩ := inI_t c1
    rw [hx2]
    refine j_iconst (pc := 9) C (nI 0) dX10_raise_9 (by decide) ?_
    refine j_goto (pc := 10) C 14 dX10_raise_10 (by decide) ?_
    refine j_callV (pc := 14) C [.int (nI 0)] [] (rm0 := ({ frames := 2, cells := 0, slots := 0, locals := 43 } : Room)) (k' := 0) (n' := 0) Q.1 (c_X10_holds (xl X) (xw X) hs (nI 0)) mp_X10_holds wm_1156 hs.2.1.1 rfl rfl (by decide) rfl rfl (Nat.le_of_ble_eq_true rfl) dX10_raise_14 ⟨by decide, by decide⟩ ⟨Nat.le_of_ble_eq_true rfl, Nat.le_of_ble_eq_true rfl⟩ rfl rfl (fun v9 σ2 hp9 => ?_)
    obtain ⟨rfl, hs, hme9⟩ := hp9
    have hme := hme.tr hme9
    show J X 0 0 σ2 [(0, .ref (x9 0)), (1, .int (nI (xN x)))] [.int (bI (decide (nI 0 = 0)))] 17
    refine j_topi (bI true) (by decide) ?_
    obtain ⟨p1, p2, p3⟩ := pos_spec hw hx1
    refine j_if_ne (pc := 17) C 22 dX10_raise_17 (by decide) (fun _ => ?_) (fun q => absurd q (by decide))
    refine j_iconst (pc := 22) C (nI 0) dX10_raise_22 (by decide) ?_
    refine j_istore_n (pc := 23) C [(2, .int (nI 0)), (0, .ref (x9 0)), (1, .int (nI (xN x)))] dX10_raise_23 rfl (by decide) rfl ?_
    have pe : ∀ p, p < nR S → orr S p < nR S := hw.2.1.2.2.1
    have loop : ∀ (f : Nat) (k : Nat), (k ≤ pos9 S (xN x)) → (pos9 S (xN x) < k + f) → J X 0 0 σ2 [(2, .int (nI k)), (0, .ref (x9 0)), (1, .int (nI (xN x)))] [] 24 := by
      intro f
      induction f with
      | zero => intro k h1 h2; exact absurd h2 (by omega)
      | succ f ih =>
        intro k h1 h2
        have pe := pe k (by omega)
        refine j_aload_n (pc := 24) C dX10_raise_24 rfl 1 rfl ?_
        refine j_getA (pc := 25) C fp_X10_48 hs.2.1.1 rfl (f := 657) rfl (11, 27) (x9 17) ((hs.2.1.2 17 (by decide) (by decide)).1) ((hs.2.1.2 17 (by decide) (by decide)).2.1) dX10_raise_25 ?_
        refine j_iload_n (pc := 28) C dX10_raise_28 rfl 0 rfl ?_
        refine j_iald (pc := 29) C (p := k) (M := 6) ((hs.2.1.2 17 (by decide) (by decide)).2.1) rfl ((hs.2.1.2 17 (by decide) (by decide)).2.2) (by omega) (by decide) dX10_raise_29 ?_
        refine j_topi (nI (orr S k)) (hs.rdI 704 27 k (by decide) (by decide)) ?_
        refine j_iload_n (pc := 30) C dX10_raise_30 rfl 2 rfl ?_
        refine jn_icmp_eq (pc := 31) C 40 (a := orr S k) (b := xN x) (by omega) (by omega) dX10_raise_31 (by decide) (fun c2 => ?_) (fun c2 => ?_)
        · have q1 : k = pos9 S (xN x) := by
            rcases Nat.lt_or_ge k (pos9 S (xN x)) with q | q
            · exact absurd c2 (p3 k q)
            · exact Nat.le_antisymm h1 q
          rw [q1]
          refine j_iload_n (pc := 40) C dX10_raise_40 rfl 0 rfl ?_
          refine jn_if_le (pc := 41) C 68 (a := pos9 S (xN x)) (by omega) dX10_raise_41 (by decide) (fun c3 => ?_) (fun c3 => ?_)
          · refine j_iload_n (pc := 68) C dX10_raise_68 rfl 0 rfl ?_
            refine j_topi 0 (by rw [show pos9 S (xN x) = 0 by omega]; rfl) ?_
            exact j_ireturn (pc := 69) C Q dX10_raise_69 (Nat.le_of_ble_eq_true rfl) (Nat.le_of_ble_eq_true rfl) (by unfold s_raise; rw [if_neg (by rw [c1]; decide), if_pos (by omega)]; exact ⟨rfl, hs, hme⟩)
          · refine j_aload_n (pc := 44) C dX10_raise_44 rfl 1 rfl ?_
            refine j_getA (pc := 45) C fp_X10_48 hs.2.1.1 rfl (f := 657) rfl (11, 27) (x9 17) ((hs.2.1.2 17 (by decide) (by decide)).1) ((hs.2.1.2 17 (by decide) (by decide)).2.1) dX10_raise_45 ?_
            refine j_iload_n (pc := 48) C dX10_raise_48 rfl 0 rfl ?_
            refine j_aload_n (pc := 49) C dX10_raise_49 rfl 1 rfl ?_
            refine j_getA (pc := 50) C fp_X10_48 hs.2.1.1 rfl (f := 657) rfl (11, 27) (x9 17) ((hs.2.1.2 17 (by decide) (by decide)).1) ((hs.2.1.2 17 (by decide) (by decide)).2.1) dX10_raise_50 ?_
            refine j_iload_n (pc := 53) C dX10_raise_53 rfl 0 rfl ?_
            refine j_iconst (pc := 54) C (nI 1) dX10_raise_54 (by decide) ?_
            refine j_isub (pc := 55) C dX10_raise_55 ?_
            refine j_topi (nI (pos9 S (xN x) - 1)) (pk_sub (by omega)) ?_
            refine j_iald (pc := 56) C (p := pos9 S (xN x) - 1) (M := 6) ((hs.2.1.2 17 (by decide) (by decide)).2.1) rfl ((hs.2.1.2 17 (by decide) (by decide)).2.2) (by omega) (by decide) dX10_raise_56 ?_
            refine j_topi (nI (orr S (pos9 S (xN x) - 1))) (hs.rdI 704 27 (pos9 S (xN x) - 1) (by decide) (by decide)) ?_
            refine j_iast (pc := 57) C (p := pos9 S (xN x)) (M := 6) ((hs.2.1.2 17 (by decide) (by decide)).2.1) rfl ((hs.2.1.2 17 (by decide) (by decide)).2.2) (by omega) (by decide) dX10_raise_57 ?_
            have hs := hs.wI 704 27 (pos9 S (xN x)) (orr S (pos9 S (xN x) - 1)) (by decide) (by decide)
            have hme := hme.sI (f := 704) (i := 27) (j := (pos9 S (xN x))) (v := (nI (orr S (pos9 S (xN x) - 1)))) rfl
            generalize sI σ2 704 27 (pos9 S (xN x)) (nI (orr S (pos9 S (xN x) - 1))) = σ3 at hs hme ⊢
            refine j_iinc (pc := 58) C (nI (pos9 S (xN x) - 1)) [(2, .int (nI (pos9 S (xN x) - 1))), (0, .ref (x9 0)), (1, .int (nI (xN x)))] dX10_raise_58 0 rfl (nI_dec (by omega)) (by decide) rfl ?_
            refine j_aload_n (pc := 61) C dX10_raise_61 rfl 1 rfl ?_
            refine j_getA (pc := 62) C fp_X10_48 hs.2.1.1 rfl (f := 657) rfl (11, 27) (x9 17) ((hs.2.1.2 17 (by decide) (by decide)).1) ((hs.2.1.2 17 (by decide) (by decide)).2.1) dX10_raise_62 ?_
            refine j_iload_n (pc := 65) C dX10_raise_65 rfl 0 rfl ?_
            refine j_iload_n (pc := 66) C dX10_raise_66 rfl 2 rfl ?_
            refine j_iast (pc := 67) C (p := pos9 S (xN x) - 1) (M := 6) ((hs.2.1.2 17 (by decide) (by decide)).2.1) rfl ((hs.2.1.2 17 (by decide) (by decide)).2.2) (by omega) (by decide) dX10_raise_67 ?_
            have hs := hs.wI 704 27 (pos9 S (xN x) - 1) (xN x) (by decide) (by decide)
            have hme := hme.sI (f := 704) (i := 27) (j := (pos9 S (xN x) - 1)) (v := (nI (xN x))) rfl
            generalize sI σ3 704 27 (pos9 S (xN x) - 1) (nI (xN x)) = σ4 at hs hme ⊢
            refine j_iload_n (pc := 68) C dX10_raise_68 rfl 0 rfl ?_
            exact j_ireturn (pc := 69) C Q dX10_raise_69 (Nat.le_of_ble_eq_true rfl) (Nat.le_of_ble_eq_true rfl) (by unfold s_raise; rw [if_neg (by rw [c1]; decide), if_neg (by omega)]; exact ⟨rfl, hs, hme⟩)
        · have q1 : k ≠ pos9 S (xN x) := fun z => c2 (by rw [z]; exact p2)
          refine j_iinc (pc := 34) C (nI (k + 1)) [(2, .int (nI (k + 1))), (0, .ref (x9 0)), (1, .int (nI (xN x)))] dX10_raise_34 0 rfl (nI_add k 1) (by decide) rfl ?_
          refine j_goto (pc := 37) C 24 dX10_raise_37 (by decide) ?_
          exact J.to [0, 1, 2] rfl (ih (k + 1) (by omega) (by omega))
    exact J.to [0, 1, 2] rfl (loop (nR S + 1) 0 (Nat.zero_le _) (by omega))
set_option maxHeartbeats 4000000 in
set_option maxRecDepth 100000 in
theorem c_X10_correct (L9 : Launch) (w9 : Wd) {σ : HS} {S : SP} {x9 : Nat → Nat} {k9 : Int32} (hs : RS S x9 k9 σ) (hw : WF S) (x : Int32) : MJ L9 w9 yX10_correct cX10_correct 4 (some .boolean) ({ frames := 2, cells := 0, slots := 0, locals := 43 } : Room) [.ref (x9 0), .int x] σ (fun a9 σ' => a9 = some (.int (s_correct S x).2.1) ∧ RS (s_correct S x).2.2 x9 (nI (s_correct S x).1) σ' ∧ ME σ σ') := by
  refine MJ.of (by decide +kernel) (Nat.le_of_ble_eq_true rfl) (fun X hX1 hX2 C Q hinit => ?_)
  subst hX1; subst hX2
  show J X 0 0 σ [(0, .ref (x9 0)), (1, .int x)] [] 0
  have hme : ME σ σ := ME.rf
  have gW := hw.2.2.2.1.1
  refine j_aload_n (pc := 0) C dX10_correct_0 rfl 0 rfl ?_
  refine j_aload_n (pc := 1) C dX10_correct_1 rfl 0 rfl ?_
  refine j_iload_n (pc := 2) C dX10_correct_2 rfl 1 rfl ?_
  refine j_callV (pc := 3) C [.int x] [.ref (x9 0)] (rm0 := ({ frames := 2, cells := 0, slots := 0, locals := 43 } : Room)) (k' := 0) (n' := 0) Q.1 (c_X10_isWord (xl X) (xw X) hs hw x) mp_X10_isWord wm_1246 hs.2.1.1 rfl rfl (by decide) rfl rfl (Nat.le_of_ble_eq_true rfl) dX10_correct_3 ⟨by decide, by decide⟩ ⟨Nat.le_of_ble_eq_true rfl, Nat.le_of_ble_eq_true rfl⟩ rfl rfl (det1 ?_)
  refine jb_if_eq (pc := 6) C 13 (b := isWrd S x) dX10_correct_6 (by decide) (fun c1 => ?_) (fun c1 => ?_)
  · refine j_iconst (pc := 13) C (nI 1) dX10_correct_13 (by decide) ?_
    refine j_callV (pc := 14) C [.int (nI 1)] [] (rm0 := ({ frames := 2, cells := 0, slots := 0, locals := 43 } : Room)) (k' := 0) (n' := 0) Q.1 (c_X10_holds (xl X) (xw X) hs (nI 1)) mp_X10_holds wm_1156 hs.2.1.1 rfl rfl (by decide) rfl rfl (Nat.le_of_ble_eq_true rfl) dX10_correct_14 ⟨by decide, by decide⟩ ⟨Nat.le_of_ble_eq_true rfl, Nat.le_of_ble_eq_true rfl⟩ rfl rfl (fun v9 σ1 hp9 => ?_)
    obtain ⟨rfl, hs, hme9⟩ := hp9
    have hme := hme.tr hme9
    show J X 0 0 σ1 [(0, .ref (x9 0)), (1, .int x)] [.int (bI (decide (nI 1 = 0)))] 17
    refine j_topi (bI false) (by decide) ?_
    refine j_if_ne (pc := 17) C 22 dX10_correct_17 (by decide) (fun q => absurd q (by decide)) (fun _ => ?_)
    refine j_iconst (pc := 20) C (nI 0) dX10_correct_20 (by decide) ?_
    exact j_zreturn (pc := 21) C Q dX10_correct_21 (by decide) (Nat.le_of_ble_eq_true rfl) (Nat.le_of_ble_eq_true rfl) (by unfold s_correct; rw [if_pos c1]; exact ⟨rfl, hs, hme⟩)
  · have c1k := c1
    have hlx : inI x (nW S) = true ∧ hd9 S (xN x) = 1 := by
      unfold isWrd at c1
      rw [Bool.and_eq_true, decide_eq_true_iff] at c1
      exact c1
    obtain ⟨hx1, hx2⟩ := inI_t hlx.1
    rw [hx2]
    refine j_iconst (pc := 9) C (nI 0) dX10_correct_9 (by decide) ?_
    refine j_goto (pc := 10) C 14 dX10_correct_10 (by decide) ?_
    refine j_callV (pc := 14) C [.int (nI 0)] [] (rm0 := ({ frames := 2, cells := 0, slots := 0, locals := 43 } : Room)) (k' := 0) (n' := 0) Q.1 (c_X10_holds (xl X) (xw X) hs (nI 0)) mp_X10_holds wm_1156 hs.2.1.1 rfl rfl (by decide) rfl rfl (Nat.le_of_ble_eq_true rfl) dX10_correct_14 ⟨by decide, by decide⟩ ⟨Nat.le_of_ble_eq_true rfl, Nat.le_of_ble_eq_true rfl⟩ rfl rfl (fun v9 σ2 hp9 => ?_)
    obtain ⟨rfl, hs, hme9⟩ := hp9
    have hme := hme.tr hme9
    show J X 0 0 σ2 [(0, .ref (x9 0)), (1, .int (nI (xN x)))] [.int (bI (decide (nI 0 = 0)))] 17
    refine j_topi (bI true) (by decide) ?_
    refine j_if_ne (pc := 17) C 22 dX10_correct_17 (by decide) (fun _ => ?_) (fun q => absurd q (by decide))
    refine j_aload_n (pc := 22) C dX10_correct_22 rfl 0 rfl ?_
    refine j_getA (pc := 23) C fp_X10_60 hs.2.1.1 rfl (f := 664) rfl (12, 424) (x9 24) ((hs.2.1.2 24 (by decide) (by decide)).1) ((hs.2.1.2 24 (by decide) (by decide)).2.1) dX10_correct_23 ?_
    refine j_iload_n (pc := 26) C dX10_correct_26 rfl 1 rfl ?_
    refine j_lald (pc := 27) C (p := xN x) (M := 40) ((hs.2.1.2 24 (by decide) (by decide)).2.1) rfl ((hs.2.1.2 24 (by decide) (by decide)).2.2) (by omega) (by decide) dX10_correct_27 ?_
    refine j_topl (enc4 (hr S (xN x))) (hs.rdL 768 424 (xN x) (by decide) (by decide)) ?_
    refine j_lstore_n (pc := 28) C [(2, .long (enc4 (hr S (xN x)))), (0, .ref (x9 0)), (1, .int (nI (xN x)))] dX10_correct_28 rfl (by decide) rfl ?_
    refine j_aload_n (pc := 29) C dX10_correct_29 rfl 1 rfl ?_
    refine j_getA (pc := 30) C fp_X10_60 hs.2.1.1 rfl (f := 664) rfl (12, 424) (x9 24) ((hs.2.1.2 24 (by decide) (by decide)).1) ((hs.2.1.2 24 (by decide) (by decide)).2.1) dX10_correct_30 ?_
    refine j_iload_n (pc := 33) C dX10_correct_33 rfl 2 rfl ?_
    refine j_aload_n (pc := 34) C dX10_correct_34 rfl 1 rfl ?_
    refine j_callV (pc := 35) C [] [.int (nI (xN x)), .ref (x9 24)] (rm0 := ({ frames := 2, cells := 0, slots := 0, locals := 43 } : Room)) (k' := 0) (n' := 0) Q.1 (c_X10_takesDraft (xl X) (xw X) hs) mp_X10_takesDraft wm_1183 hs.2.1.1 rfl rfl (by decide) rfl rfl (Nat.le_of_ble_eq_true rfl) dX10_correct_35 ⟨by decide, by decide⟩ ⟨Nat.le_of_ble_eq_true rfl, Nat.le_of_ble_eq_true rfl⟩ rfl rfl (fun v9 σ3 hp9 => ?_)
    obtain ⟨rfl, hs, hme9⟩ := hp9
    have hme := hme.tr hme9
    show J X 0 0 σ3 [(2, .long (enc4 (hr S (xN x)))), (0, .ref (x9 0)), (1, .int (nI (xN x)))] [.long (enc4 (dr S)), .int (nI (xN x)), .ref (x9 24)] 38
    have i1 := enc4_inj (WF_drR hw) (okS.R hw.1 (WF_hr hw (xN x)))
    refine j_last (pc := 38) C (p := xN x) (M := 40) ((hs.2.1.2 24 (by decide) (by decide)).2.1) rfl ((hs.2.1.2 24 (by decide) (by decide)).2.2) (by omega) (by decide) dX10_correct_38 ?_
    have hs := hs.wL 768 424 (xN x) (some (dr S)) (enc4 (dr S)) (by decide) (by decide) rfl; have hme := hme.sL (f := 768) (i := 424) (j := (xN x)) (v := (enc4 (dr S))) rfl
    generalize sL σ3 768 424 (xN x) (enc4 (dr S)) = σ4 at hs hme ⊢
    refine j_aload_n (pc := 39) C dX10_correct_39 rfl 1 rfl ?_
    refine j_getA (pc := 40) C fp_X10_60 hs.2.1.1 rfl (f := 664) rfl (12, 424) (x9 24) ((hs.2.1.2 24 (by decide) (by decide)).1) ((hs.2.1.2 24 (by decide) (by decide)).2.1) dX10_correct_40 ?_
    refine j_iload_n (pc := 43) C dX10_correct_43 rfl 2 rfl ?_
    refine j_lald (pc := 44) C (p := xN x) (M := 40) ((hs.2.1.2 24 (by decide) (by decide)).2.1) rfl ((hs.2.1.2 24 (by decide) (by decide)).2.2) (by omega) (by decide) dX10_correct_44 ?_
    refine j_topl (enc4 (dr S)) ((hs.rdL 768 424 (xN x) (by decide) (by decide)).trans (congrArg (fun z => enc4 (Option.getD z [])) (a₂ := some (dr S)) zR_eq)) ?_
    refine j_lload_n (pc := 45) C dX10_correct_45 rfl 0 rfl ?_
    refine j_lcmp (pc := 46) C dX10_correct_46 ?_
    refine jl_if_eq (pc := 47) C 54 dX10_correct_47 (by decide) (fun c2 => ?_) (fun c2 => ?_)
    · refine j_iconst (pc := 54) C (nI 0) dX10_correct_54 (by decide) ?_
      refine j_topi (bI (decide (dr S ≠ hr S (xN x)))) (by rw [decide_eq_false (fun z => z (i1.mp c2))]; rfl) ?_
      exact j_zreturn (pc := 55) C Q dX10_correct_55 (bI_nar _) (Nat.le_of_ble_eq_true rfl) (Nat.le_of_ble_eq_true rfl) (by unfold s_correct; rw [if_neg (by rw [c1k]; decide)]; exact ⟨rfl, hs, hme⟩)
    · refine j_iconst (pc := 50) C (nI 1) dX10_correct_50 (by decide) ?_
      refine j_goto (pc := 51) C 55 dX10_correct_51 (by decide) ?_
      refine j_topi (bI (decide (dr S ≠ hr S (xN x)))) (by rw [decide_eq_true (show dr S ≠ hr S (xN x) from fun z => c2 (i1.mpr z))]; rfl) ?_
      exact j_zreturn (pc := 55) C Q dX10_correct_55 (bI_nar _) (Nat.le_of_ble_eq_true rfl) (Nat.le_of_ble_eq_true rfl) (by unfold s_correct; rw [if_neg (by rw [c1k]; decide)]; exact ⟨rfl, hs, hme⟩)
set_option maxHeartbeats 4000000 in
set_option maxRecDepth 100000 in
theorem c_X10_forget (L9 : Launch) (w9 : Wd) {σ : HS} {S : SP} {x9 : Nat → Nat} {k9 : Int32} (hs : RS S x9 k9 σ) (hw : WF S) (x : Int32) : MJ L9 w9 yX10_forget cX10_forget 4 (some .int) ({ frames := 2, cells := 0, slots := 0, locals := 43 } : Room) [.ref (x9 0), .int x] σ (fun a9 σ' => a9 = some (.int (s_forget S x).2.1) ∧ RS (s_forget S x).2.2 x9 (nI (s_forget S x).1) σ' ∧ ME σ σ') := by
  refine MJ.of (by decide +kernel) (Nat.le_of_ble_eq_true rfl) (fun X hX1 hX2 C Q hinit => ?_)
  subst hX1; subst hX2
  show J X 0 0 σ [(0, .ref (x9 0)), (1, .int x)] [] 0
  have hme : ME σ σ := ME.rf
  have gW := hw.2.2.2.1.1
  refine j_aload_n (pc := 0) C dX10_forget_0 rfl 0 rfl ?_
  refine j_aload_n (pc := 1) C dX10_forget_1 rfl 0 rfl ?_
  refine j_iload_n (pc := 2) C dX10_forget_2 rfl 1 rfl ?_
  refine j_callV (pc := 3) C [.int x] [.ref (x9 0)] (rm0 := ({ frames := 2, cells := 0, slots := 0, locals := 43 } : Room)) (k' := 0) (n' := 0) Q.1 (c_X10_isWord (xl X) (xw X) hs hw x) mp_X10_isWord wm_1246 hs.2.1.1 rfl rfl (by decide) rfl rfl (Nat.le_of_ble_eq_true rfl) dX10_forget_3 ⟨by decide, by decide⟩ ⟨Nat.le_of_ble_eq_true rfl, Nat.le_of_ble_eq_true rfl⟩ rfl rfl (det1 ?_)
  refine jb_if_eq (pc := 6) C 13 (b := isWrd S x) dX10_forget_6 (by decide) (fun c1 => ?_) (fun c1 => ?_)
  · refine j_iconst (pc := 13) C (nI 1) dX10_forget_13 (by decide) ?_
    refine j_callV (pc := 14) C [.int (nI 1)] [] (rm0 := ({ frames := 2, cells := 0, slots := 0, locals := 43 } : Room)) (k' := 0) (n' := 0) Q.1 (c_X10_holds (xl X) (xw X) hs (nI 1)) mp_X10_holds wm_1156 hs.2.1.1 rfl rfl (by decide) rfl rfl (Nat.le_of_ble_eq_true rfl) dX10_forget_14 ⟨by decide, by decide⟩ ⟨Nat.le_of_ble_eq_true rfl, Nat.le_of_ble_eq_true rfl⟩ rfl rfl (fun v9 σ1 hp9 => ?_)
    obtain ⟨rfl, hs, hme9⟩ := hp9
    have hme := hme.tr hme9
    show J X 0 0 σ1 [(0, .ref (x9 0)), (1, .int x)] [.int (bI (decide (nI 1 = 0)))] 17
    refine j_topi (bI false) (by decide) ?_
    refine j_if_ne (pc := 17) C 22 dX10_forget_17 (by decide) (fun q => absurd q (by decide)) (fun _ => ?_)
    refine j_iconst (pc := 20) C (nI 0) dX10_forget_20 (by decide) ?_
    exact j_ireturn (pc := 21) C Q dX10_forget_21 (Nat.le_of_ble_eq_true rfl) (Nat.le_of_ble_eq_true rfl) (by unfold s_forget; rw [if_pos c1]; exact ⟨rfl, hs, hme⟩)
  · have c1k := c1
    have hlx : inI x (nW S) = true ∧ hd9 S (xN x) = 1 := by
      unfold isWrd at c1
      rw [Bool.and_eq_true, decide_eq_true_iff] at c1
      exact c1
    obtain ⟨hx1, hx2⟩ := inI_t hlx.1
    rw [hx2]
    refine j_iconst (pc := 9) C (nI 0) dX10_forget_9 (by decide) ?_
    refine j_goto (pc := 10) C 14 dX10_forget_10 (by decide) ?_
    refine j_callV (pc := 14) C [.int (nI 0)] [] (rm0 := ({ frames := 2, cells := 0, slots := 0, locals := 43 } : Room)) (k' := 0) (n' := 0) Q.1 (c_X10_holds (xl X) (xw X) hs (nI 0)) mp_X10_holds wm_1156 hs.2.1.1 rfl rfl (by decide) rfl rfl (Nat.le_of_ble_eq_true rfl) dX10_forget_14 ⟨by decide, by decide⟩ ⟨Nat.le_of_ble_eq_true rfl, Nat.le_of_ble_eq_true rfl⟩ rfl rfl (fun v9 σ2 hp9 => ?_)
    obtain ⟨rfl, hs, hme9⟩ := hp9
    have hme := hme.tr hme9
    show J X 0 0 σ2 [(0, .ref (x9 0)), (1, .int (nI (xN x)))] [.int (bI (decide (nI 0 = 0)))] 17
    refine j_topi (bI true) (by decide) ?_
    refine j_if_ne (pc := 17) C 22 dX10_forget_17 (by decide) (fun _ => ?_) (fun q => absurd q (by decide))
    refine j_aload_n (pc := 22) C dX10_forget_22 rfl 0 rfl ?_
    refine j_getA (pc := 23) C fp_X10_63 hs.2.1.1 rfl (f := 665) rfl (13, 25) (x9 25) ((hs.2.1.2 25 (by decide) (by decide)).1) ((hs.2.1.2 25 (by decide) (by decide)).2.1) dX10_forget_23 ?_
    refine j_iload_n (pc := 26) C dX10_forget_26 rfl 1 rfl ?_
    refine j_iconst (pc := 27) C (nI 0) dX10_forget_27 (by decide) ?_
    refine j_zast (pc := 28) C (p := xN x) (M := 40) ((hs.2.1.2 25 (by decide) (by decide)).2.1) rfl ((hs.2.1.2 25 (by decide) (by decide)).2.2) (by omega) (by decide) (by decide) dX10_forget_28 ?_
    have hs := hs.wI 832 25 (xN x) 0 (by decide) (by decide)
    have hme := hme.sI (f := 832) (i := 25) (j := (xN x)) (v := (nI 0)) rfl
    generalize sI σ2 832 25 (xN x) (nI 0) = σ3 at hs hme ⊢
    refine j_iconst (pc := 29) C (nI 0) dX10_forget_29 (by decide) ?_
    refine j_istore_n (pc := 30) C [(2, .int (nI 0)), (0, .ref (x9 0)), (1, .int (nI (xN x)))] dX10_forget_30 rfl (by decide) rfl ?_
    refine j_iconst (pc := 31) C (nI 0) dX10_forget_31 (by decide) ?_
    refine j_istore_n (pc := 32) C [(3, .int (nI 0)), (2, .int (nI 0)), (0, .ref (x9 0)), (1, .int (nI (xN x)))] dX10_forget_32 rfl (by decide) rfl ?_
    have hT : ∀ w, w < nW S → hd9 (zN S 832 25 (xN x) 0) w ≤ 1 := fun w hw9 => by
      by_cases e : w = xN x
      · rw [e, show hd9 (zN S 832 25 (xN x) 0) (xN x) = 0 from zN_eq]; exact Nat.zero_le _
      · rw [show hd9 (zN S 832 25 (xN x) 0) w = hd9 S w from zN_ne (fun z => e z.2.2)]; exact (hw.2.2.2.1.2.2 w hw9).2.2.2.1
    have loop : ∀ (f : Nat) (k : Nat), (k ≤ nW S) → (nW S < k + f) → J X 0 0 σ3 [(3, .int (nI k)), (2, .int (nI (heards (zN S 832 25 (xN x) 0) k))), (0, .ref (x9 0)), (1, .int (nI (xN x)))] [] 33 := by
      intro f
      induction f with
      | zero => intro k h1 h2; exact absurd h2 (by omega)
      | succ f ih =>
        intro k h1 h2
        have hk : heards (zN S 832 25 (xN x) 0) k ≤ k := fb_ct_le _ k
        refine j_iload_n (pc := 33) C dX10_forget_33 rfl 0 rfl ?_
        refine j_aload_n (pc := 34) C dX10_forget_34 rfl 2 rfl ?_
        refine j_getI (pc := 35) C fp_X10_187 hs.2.1.1 rfl (f := 666) rfl dX10_forget_35 ?_
        refine j_topi (nI (nW S)) (hs.rdI 666 0 0 (by decide) (by decide)) ?_
        refine jn_icmp_ge (pc := 38) C 64 (a := k) (b := nW S) (by omega) (by omega) dX10_forget_38 (by decide) (fun c2 => ?_) (fun c2 => ?_)
        · have e : k = nW S := Nat.le_antisymm h1 c2
          rw [e]
          refine j_iload_n (pc := 64) C dX10_forget_64 rfl 1 rfl ?_
          exact j_ireturn (pc := 65) C Q dX10_forget_65 (Nat.le_of_ble_eq_true rfl) (Nat.le_of_ble_eq_true rfl) (by unfold s_forget; rw [if_neg (by rw [c1k]; decide)]; exact ⟨rfl, hs, hme⟩)
        · have hT := hT k c2
          refine j_iload_n (pc := 41) C dX10_forget_41 rfl 1 rfl ?_
          refine j_aload_n (pc := 42) C dX10_forget_42 rfl 2 rfl ?_
          refine j_getA (pc := 43) C fp_X10_63 hs.2.1.1 rfl (f := 665) rfl (13, 25) (x9 25) ((hs.2.1.2 25 (by decide) (by decide)).1) ((hs.2.1.2 25 (by decide) (by decide)).2.1) dX10_forget_43 ?_
          refine j_iload_n (pc := 46) C dX10_forget_46 rfl 0 rfl ?_
          refine j_zald (pc := 47) C (p := k) (M := 40) ((hs.2.1.2 25 (by decide) (by decide)).2.1) rfl ((hs.2.1.2 25 (by decide) (by decide)).2.2) (by omega) (by decide) dX10_forget_47 ?_
          refine j_topi (nI (hd9 (zN S 832 25 (xN x) 0) k)) (hs.rdI 832 25 k (by decide) (by decide)) ?_
          refine jn_if_eq (pc := 48) C 55 (a := hd9 (zN S 832 25 (xN x) 0) k) (by omega) dX10_forget_48 (by decide) (fun c3 => ?_) (fun c3 => ?_)
          · have e9 : heards (zN S 832 25 (xN x) 0) (k + 1) = heards (zN S 832 25 (xN x) 0) k + 0 := by
              unfold heards
              rw [fb_ct_succ, if_neg (fun z => absurd (of_decide_eq_true z) (by omega))]
            refine j_iconst (pc := 55) C (nI 0) dX10_forget_55 (by decide) ?_
            refine j_iadd (pc := 56) C dX10_forget_56 ?_
            refine j_topi (nI (heards (zN S 832 25 (xN x) 0) k + 0)) (nI_add (heards (zN S 832 25 (xN x) 0) k) 0) ?_
            refine j_topi (nI (heards (zN S 832 25 (xN x) 0) (k + 1))) (congrArg nI e9.symm) ?_
            refine j_istore_n (pc := 57) C [(2, .int (nI (heards (zN S 832 25 (xN x) 0) (k + 1)))), (3, .int (nI k)), (0, .ref (x9 0)), (1, .int (nI (xN x)))] dX10_forget_57 rfl (by decide) rfl ?_
            refine j_iinc (pc := 58) C (nI (k + 1)) [(3, .int (nI (k + 1))), (2, .int (nI (heards (zN S 832 25 (xN x) 0) (k + 1)))), (0, .ref (x9 0)), (1, .int (nI (xN x)))] dX10_forget_58 1 rfl (nI_add k 1) (by decide) rfl ?_
            refine j_goto (pc := 61) C 33 dX10_forget_61 (by decide) ?_
            exact J.to [0, 1, 2, 3] rfl (ih (k + 1) (by omega) (by omega))
          · have e9 : heards (zN S 832 25 (xN x) 0) (k + 1) = heards (zN S 832 25 (xN x) 0) k + 1 := by
              unfold heards
              rw [fb_ct_succ, if_pos (decide_eq_true (by omega))]
            refine j_iconst (pc := 51) C (nI 1) dX10_forget_51 (by decide) ?_
            refine j_goto (pc := 52) C 56 dX10_forget_52 (by decide) ?_
            refine j_iadd (pc := 56) C dX10_forget_56 ?_
            refine j_topi (nI (heards (zN S 832 25 (xN x) 0) k + 1)) (nI_add (heards (zN S 832 25 (xN x) 0) k) 1) ?_
            refine j_topi (nI (heards (zN S 832 25 (xN x) 0) (k + 1))) (congrArg nI e9.symm) ?_
            refine j_istore_n (pc := 57) C [(2, .int (nI (heards (zN S 832 25 (xN x) 0) (k + 1)))), (3, .int (nI k)), (0, .ref (x9 0)), (1, .int (nI (xN x)))] dX10_forget_57 rfl (by decide) rfl ?_
            refine j_iinc (pc := 58) C (nI (k + 1)) [(3, .int (nI (k + 1))), (2, .int (nI (heards (zN S 832 25 (xN x) 0) (k + 1)))), (0, .ref (x9 0)), (1, .int (nI (xN x)))] dX10_forget_58 1 rfl (nI_add k 1) (by decide) rfl ?_
            refine j_goto (pc := 61) C 33 dX10_forget_61 (by decide) ?_
            exact J.to [0, 1, 2, 3] rfl (ih (k + 1) (by omega) (by omega))
    exact J.to [0, 1, 2, 3] rfl (loop (nW S + 1) 0 (Nat.zero_le _) (by omega))
set_option maxHeartbeats 4000000 in
set_option maxRecDepth 100000 in
theorem c_X10_except (L9 : Launch) (w9 : Wd) {σ : HS} {S : SP} {x9 : Nat → Nat} {k9 : Int32} (hs : RS S x9 k9 σ) (hw : WF S) (x c : Int32) (b : Bool) : MJ L9 w9 yX10_except cX10_except 5 (some .boolean) ({ frames := 2, cells := 0, slots := 0, locals := 43 } : Room) [.ref (x9 0), .int x, .int c, .int (bI b)] σ (fun a9 σ' => a9 = some (.int (s_except S x c b).2.1) ∧ RS (s_except S x c b).2.2 x9 (nI (s_except S x c b).1) σ' ∧ ME σ σ') := by
  refine MJ.of (by decide +kernel) (Nat.le_of_ble_eq_true rfl) (fun X hX1 hX2 C Q hinit => ?_)
  subst hX1; subst hX2
  show J X 0 0 σ [(0, .ref (x9 0)), (1, .int x), (2, .int c), (3, .int (bI b))] [] 0
  have hme : ME σ σ := ME.rf
  have gL := hw.2.2.1.1
  refine j_aload_n (pc := 0) C dX10_except_0 rfl 0 rfl ?_
  refine j_aload_n (pc := 1) C dX10_except_1 rfl 0 rfl ?_
  refine j_iload_n (pc := 2) C dX10_except_2 rfl 1 rfl ?_
  refine j_callV (pc := 3) C [.int x] [.ref (x9 0)] (rm0 := ({ frames := 2, cells := 0, slots := 0, locals := 43 } : Room)) (k' := 0) (n' := 0) Q.1 (c_X10_isLexeme (xl X) (xw X) hs hw x) mp_X10_isLexeme wm_1203 hs.2.1.1 rfl rfl (by decide) rfl rfl (Nat.le_of_ble_eq_true rfl) dX10_except_3 ⟨by decide, by decide⟩ ⟨Nat.le_of_ble_eq_true rfl, Nat.le_of_ble_eq_true rfl⟩ rfl rfl (det1 ?_)
  refine jb_if_eq (pc := 6) C 20 (b := isLex S x) dX10_except_6 (by decide) (fun c1 => ?_) (fun c1 => ?_)
  · refine j_iconst (pc := 20) C (nI 1) dX10_except_20 (by decide) ?_
    refine j_callV (pc := 21) C [.int (nI 1)] [] (rm0 := ({ frames := 2, cells := 0, slots := 0, locals := 43 } : Room)) (k' := 0) (n' := 0) Q.1 (c_X10_holds (xl X) (xw X) hs (nI 1)) mp_X10_holds wm_1156 hs.2.1.1 rfl rfl (by decide) rfl rfl (Nat.le_of_ble_eq_true rfl) dX10_except_21 ⟨by decide, by decide⟩ ⟨Nat.le_of_ble_eq_true rfl, Nat.le_of_ble_eq_true rfl⟩ rfl rfl (fun v9 σ1 hp9 => ?_)
    obtain ⟨rfl, hs, hme9⟩ := hp9
    have hme := hme.tr hme9
    show J X 0 0 σ1 [(0, .ref (x9 0)), (1, .int x), (2, .int c), (3, .int (bI b))] [.int (bI (decide (nI 1 = 0)))] 24
    refine j_topi (bI false) (by decide) ?_
    refine j_if_ne (pc := 24) C 29 dX10_except_24 (by decide) (fun q => absurd q (by decide)) (fun _ => ?_)
    refine j_iconst (pc := 27) C (nI 0) dX10_except_27 (by decide) ?_
    exact j_zreturn (pc := 28) C Q dX10_except_28 (by decide) (Nat.le_of_ble_eq_true rfl) (Nat.le_of_ble_eq_true rfl) (by unfold s_except; rw [if_pos (by rw [c1]; rfl)]; exact ⟨rfl, hs, hme⟩)
  · have c1k := c1
    have hlx : inI x (nL S) = true ∧ th S (xN x) = 1 := by
      unfold isLex at c1
      rw [Bool.and_eq_true, decide_eq_true_iff] at c1
      exact c1
    obtain ⟨hx1, hx2⟩ := inI_t hlx.1
    rw [hx2]
    refine j_iload_n (pc := 9) C dX10_except_9 rfl 2 rfl ?_
    refine j_callS (pc := 10) C [.int c] [.ref (x9 0)] (rm0 := ({ frames := 2, cells := 0, slots := 0, locals := 43 } : Room)) (k' := 0) (n' := 0) Q.1 (c_X10_isCell (xl X) (xw X) c) mp_X10_isCell wm_1211 rfl rfl (Nat.le_of_ble_eq_true rfl) dX10_except_10 ⟨by decide, by decide⟩ ⟨Nat.le_of_ble_eq_true rfl, Nat.le_of_ble_eq_true rfl⟩ rfl rfl (det1 ?_)
    refine jb_if_eq (pc := 13) C 20 (b := inI c 8) dX10_except_13 (by decide) (fun c2 => ?_) (fun c2 => ?_)
    · refine j_iconst (pc := 20) C (nI 1) dX10_except_20 (by decide) ?_
      refine j_callV (pc := 21) C [.int (nI 1)] [] (rm0 := ({ frames := 2, cells := 0, slots := 0, locals := 43 } : Room)) (k' := 0) (n' := 0) Q.1 (c_X10_holds (xl X) (xw X) hs (nI 1)) mp_X10_holds wm_1156 hs.2.1.1 rfl rfl (by decide) rfl rfl (Nat.le_of_ble_eq_true rfl) dX10_except_21 ⟨by decide, by decide⟩ ⟨Nat.le_of_ble_eq_true rfl, Nat.le_of_ble_eq_true rfl⟩ rfl rfl (fun v9 σ2 hp9 => ?_)
      obtain ⟨rfl, hs, hme9⟩ := hp9
      have hme := hme.tr hme9
      show J X 0 0 σ2 [(0, .ref (x9 0)), (1, .int (nI (xN x))), (2, .int c), (3, .int (bI b))] [.int (bI (decide (nI 1 = 0)))] 24
      refine j_topi (bI false) (by decide) ?_
      refine j_if_ne (pc := 24) C 29 dX10_except_24 (by decide) (fun q => absurd q (by decide)) (fun _ => ?_)
      refine j_iconst (pc := 27) C (nI 0) dX10_except_27 (by decide) ?_
      exact j_zreturn (pc := 28) C Q dX10_except_28 (by decide) (Nat.le_of_ble_eq_true rfl) (Nat.le_of_ble_eq_true rfl) (by unfold s_except; rw [if_pos (by rw [c1k, c2]; rfl)]; exact ⟨rfl, hs, hme⟩)
    · obtain ⟨hc1, hc2⟩ := inI_t c2
      rw [hc2]
      refine j_iconst (pc := 16) C (nI 0) dX10_except_16 (by decide) ?_
      refine j_goto (pc := 17) C 21 dX10_except_17 (by decide) ?_
      refine j_callV (pc := 21) C [.int (nI 0)] [] (rm0 := ({ frames := 2, cells := 0, slots := 0, locals := 43 } : Room)) (k' := 0) (n' := 0) Q.1 (c_X10_holds (xl X) (xw X) hs (nI 0)) mp_X10_holds wm_1156 hs.2.1.1 rfl rfl (by decide) rfl rfl (Nat.le_of_ble_eq_true rfl) dX10_except_21 ⟨by decide, by decide⟩ ⟨Nat.le_of_ble_eq_true rfl, Nat.le_of_ble_eq_true rfl⟩ rfl rfl (fun v9 σ3 hp9 => ?_)
      obtain ⟨rfl, hs, hme9⟩ := hp9
      have hme := hme.tr hme9
      show J X 0 0 σ3 [(0, .ref (x9 0)), (1, .int (nI (xN x))), (2, .int (nI (xN c))), (3, .int (bI b))] [.int (bI (decide (nI 0 = 0)))] 24
      refine j_topi (bI true) (by decide) ?_
      refine j_if_ne (pc := 24) C 29 dX10_except_24 (by decide) (fun _ => ?_) (fun q => absurd q (by decide))
      refine j_aload_n (pc := 29) C dX10_except_29 rfl 0 rfl ?_
      refine j_iload_n (pc := 30) C dX10_except_30 rfl 1 rfl ?_
      refine j_iload_n (pc := 31) C dX10_except_31 rfl 2 rfl ?_
      refine j_callV (pc := 32) C [.int (nI (xN x)), .int (nI (xN c))] [] (rm0 := ({ frames := 2, cells := 0, slots := 0, locals := 43 } : Room)) (k' := 0) (n' := 0) Q.1 (c_X10_isException (xl X) (xw X) hs hw hx1 hc1) mp_X10_isException wm_1258 hs.2.1.1 rfl rfl (by decide) rfl rfl (Nat.le_of_ble_eq_true rfl) dX10_except_32 ⟨by decide, by decide⟩ ⟨Nat.le_of_ble_eq_true rfl, Nat.le_of_ble_eq_true rfl⟩ rfl rfl (det1 ?_)
      refine j_istore (pc := 35) C [(4, .int (bI ((xc9 S (xN x) (xN c)).isSome))), (0, .ref (x9 0)), (1, .int (nI (xN x))), (2, .int (nI (xN c))), (3, .int (bI b))] dX10_except_35 (by decide) rfl ?_
      refine j_aload_n (pc := 37) C dX10_except_37 rfl 1 rfl ?_
      refine j_getA (pc := 38) C fp_X10_33 hs.2.1.1 rfl (f := 652) rfl (12, 412) (x9 12) ((hs.2.1.2 12 (by decide) (by decide)).1) ((hs.2.1.2 12 (by decide) (by decide)).2.1) dX10_except_38 ?_
      refine j_bipush (pc := 41) C (nI 8) dX10_except_41 (by decide) ?_
      refine j_iload_n (pc := 43) C dX10_except_43 rfl 2 rfl ?_
      refine j_imul (pc := 44) C dX10_except_44 ?_
      refine j_topi (nI (8 * (xN x))) (pk_mul 8 (xN x)) ?_
      refine j_iload_n (pc := 45) C dX10_except_45 rfl 3 rfl ?_
      refine j_iadd (pc := 46) C dX10_except_46 ?_
      refine j_topi (nI (8 * (xN x) + xN c)) (nI_add (8 * (xN x)) (xN c)) ?_
      refine j_iload_n (pc := 47) C dX10_except_47 rfl 4 rfl ?_
      refine jb_if_eq (pc := 48) C 58 (b := b) dX10_except_48 (by decide) (fun c3 => ?_) (fun c3 => ?_)
      · subst c3
        refine j_ldc2 (pc := 58) C (v := -1) dX10_except_58 wm_1040 ?_
        refine j_last (pc := 61) C (p := 8 * (xN x) + xN c) (M := 128) ((hs.2.1.2 12 (by decide) (by decide)).2.1) rfl ((hs.2.1.2 12 (by decide) (by decide)).2.2) (by omega) (by decide) dX10_except_61 ?_
        have hs := hs.wL 768 412 (8 * (xN x) + xN c) none (-1) (by decide) (by decide) rfl; have hme := hme.sL (f := 768) (i := 412) (j := (8 * (xN x) + xN c)) (v := (-1)) rfl
        generalize sL σ3 768 412 (8 * (xN x) + xN c) (-1) = σ4 at hs hme ⊢
        refine j_iload (pc := 62) C dX10_except_62 0 rfl ?_
        exact j_zreturn (pc := 64) C Q dX10_except_64 (bI_nar _) (Nat.le_of_ble_eq_true rfl) (Nat.le_of_ble_eq_true rfl) (by unfold s_except; rw [if_neg (by rw [c1k, c2]; decide)]; exact ⟨rfl, hs, hme⟩)
      · subst c3
        refine j_aload_n (pc := 51) C dX10_except_51 rfl 1 rfl ?_
        refine j_callV (pc := 52) C [] [.int (nI (8 * (xN x) + xN c)), .ref (x9 12)] (rm0 := ({ frames := 2, cells := 0, slots := 0, locals := 43 } : Room)) (k' := 0) (n' := 0) Q.1 (c_X10_takesDraft (xl X) (xw X) hs) mp_X10_takesDraft wm_1183 hs.2.1.1 rfl rfl (by decide) rfl rfl (Nat.le_of_ble_eq_true rfl) dX10_except_52 ⟨by decide, by decide⟩ ⟨Nat.le_of_ble_eq_true rfl, Nat.le_of_ble_eq_true rfl⟩ rfl rfl (fun v9 σ5 hp9 => ?_)
        obtain ⟨rfl, hs, hme9⟩ := hp9
        have hme := hme.tr hme9
        show J X 0 0 σ5 [(4, .int (bI ((xc9 S (xN x) (xN c)).isSome))), (0, .ref (x9 0)), (1, .int (nI (xN x))), (2, .int (nI (xN c))), (3, .int (bI true))] [.long (enc4 (dr S)), .int (nI (8 * (xN x) + xN c)), .ref (x9 12)] 55
        refine j_goto (pc := 55) C 61 dX10_except_55 (by decide) ?_
        refine j_last (pc := 61) C (p := 8 * (xN x) + xN c) (M := 128) ((hs.2.1.2 12 (by decide) (by decide)).2.1) rfl ((hs.2.1.2 12 (by decide) (by decide)).2.2) (by omega) (by decide) dX10_except_61 ?_
        have hs := hs.wL 768 412 (8 * (xN x) + xN c) (some (dr S)) (enc4 (dr S)) (by decide) (by decide) rfl; have hme := hme.sL (f := 768) (i := 412) (j := (8 * (xN x) + xN c)) (v := (enc4 (dr S))) rfl
        generalize sL σ5 768 412 (8 * (xN x) + xN c) (enc4 (dr S)) = σ6 at hs hme ⊢
        refine j_iload (pc := 62) C dX10_except_62 0 rfl ?_
        exact j_zreturn (pc := 64) C Q dX10_except_64 (bI_nar _) (Nat.le_of_ble_eq_true rfl) (Nat.le_of_ble_eq_true rfl) (by unfold s_except; rw [if_neg (by rw [c1k, c2]; decide)]; exact ⟨rfl, hs, hme⟩)
