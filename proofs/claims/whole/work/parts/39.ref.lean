set_option maxHeartbeats 4000000 in
set_option maxRecDepth 100000 in
theorem c_X10_keeps (L9 : Launch) (w9 : Wd) {σ : HS} {S : SP} {x9 : Nat → Nat} {k9 : Int32} (hs : RS S x9 k9 σ) (hD : nD S ≤ 31) {m its into : Nat} (hm1 : m ≤ 1) (hi : its < 16) (hj : into < 16) : MJ L9 w9 yX10_keeps cX10_keeps 5 none ({ frames := 0, cells := 0, slots := 0, locals := 0 } : Room) [.ref (x9 0), .int (nI m), .int (nI its), .int (nI into)] σ (fun a9 σ' => a9 = none ∧ RS (keeps9 S m its into) x9 k9 σ' ∧ ME σ σ') := by
  refine MJ.of (by decide +kernel) (Nat.le_of_ble_eq_true rfl) (fun X hX1 hX2 C Q hinit => ?_)
  subst hX1; subst hX2
  show J X 0 0 σ [(0, .ref (x9 0)), (1, .int (nI m)), (2, .int (nI its)), (3, .int (nI into))] [] 0
  have hme : ME σ σ := ME.rf
  refine j_aload_n (pc := 0) C dX10_keeps_0 rfl 0 rfl ?_
  refine j_getA (pc := 1) C fp_X10_66 hs.2.1.1 rfl (f := 667) rfl (13, 27) (x9 27) ((hs.2.1.2 27 (by decide) (by decide)).1) ((hs.2.1.2 27 (by decide) (by decide)).2.1) dX10_keeps_1 ?_
  refine j_aload_n (pc := 4) C dX10_keeps_4 rfl 0 rfl ?_
  refine j_getI (pc := 5) C fp_X10_193 hs.2.1.1 rfl (f := 672) rfl dX10_keeps_5 ?_
  refine j_topi (nI (nD S)) (hs.rdI 672 0 0 (by decide) (by decide)) ?_
  refine j_iload_n (pc := 8) C dX10_keeps_8 rfl 1 rfl ?_
  refine j_zast (pc := 9) C (p := nD S) (M := 32) ((hs.2.1.2 27 (by decide) (by decide)).2.1) rfl ((hs.2.1.2 27 (by decide) (by decide)).2.2) (by omega) (by decide) (nI_nar (by omega)) dX10_keeps_9 ?_
  have hs := hs.wI 832 27 (nD S) m (by decide) (by decide)
  have hme := hme.sI (f := 832) (i := 27) (j := (nD S)) (v := (nI m)) rfl
  generalize sI σ 832 27 (nD S) (nI m) = σ1 at hs hme ⊢
  refine j_aload_n (pc := 10) C dX10_keeps_10 rfl 0 rfl ?_
  refine j_getA (pc := 11) C fp_X10_69 hs.2.1.1 rfl (f := 668) rfl (11, 38) (x9 28) ((hs.2.1.2 28 (by decide) (by decide)).1) ((hs.2.1.2 28 (by decide) (by decide)).2.1) dX10_keeps_11 ?_
  refine j_aload_n (pc := 14) C dX10_keeps_14 rfl 0 rfl ?_
  refine j_getI (pc := 15) C fp_X10_193 hs.2.1.1 rfl (f := 672) rfl dX10_keeps_15 ?_
  refine j_topi (nI (nD S)) (hs.rdI 672 0 0 (by decide) (by decide)) ?_
  refine j_iload_n (pc := 18) C dX10_keeps_18 rfl 2 rfl ?_
  refine j_iast (pc := 19) C (p := nD S) (M := 32) ((hs.2.1.2 28 (by decide) (by decide)).2.1) rfl ((hs.2.1.2 28 (by decide) (by decide)).2.2) (by omega) (by decide) dX10_keeps_19 ?_
  have hs := hs.wI 704 38 (nD S) its (by decide) (by decide)
  have hme := hme.sI (f := 704) (i := 38) (j := (nD S)) (v := (nI its)) rfl
  generalize sI σ1 704 38 (nD S) (nI its) = σ2 at hs hme ⊢
  refine j_aload_n (pc := 20) C dX10_keeps_20 rfl 0 rfl ?_
  refine j_getA (pc := 21) C fp_X10_72 hs.2.1.1 rfl (f := 669) rfl (11, 39) (x9 29) ((hs.2.1.2 29 (by decide) (by decide)).1) ((hs.2.1.2 29 (by decide) (by decide)).2.1) dX10_keeps_21 ?_
  refine j_aload_n (pc := 24) C dX10_keeps_24 rfl 0 rfl ?_
  refine j_getI (pc := 25) C fp_X10_193 hs.2.1.1 rfl (f := 672) rfl dX10_keeps_25 ?_
  refine j_topi (nI (nD S)) (hs.rdI 672 0 0 (by decide) (by decide)) ?_
  refine j_iload_n (pc := 28) C dX10_keeps_28 rfl 3 rfl ?_
  refine j_iast (pc := 29) C (p := nD S) (M := 32) ((hs.2.1.2 29 (by decide) (by decide)).2.1) rfl ((hs.2.1.2 29 (by decide) (by decide)).2.2) (by omega) (by decide) dX10_keeps_29 ?_
  have hs := hs.wI 704 39 (nD S) into (by decide) (by decide)
  have hme := hme.sI (f := 704) (i := 39) (j := (nD S)) (v := (nI into)) rfl
  generalize sI σ2 704 39 (nD S) (nI into) = σ3 at hs hme ⊢
  refine j_aload_n (pc := 30) C dX10_keeps_30 rfl 0 rfl ?_
  refine j_getA (pc := 31) C fp_X10_75 hs.2.1.1 rfl (f := 670) rfl (12, 430) (x9 30) ((hs.2.1.2 30 (by decide) (by decide)).1) ((hs.2.1.2 30 (by decide) (by decide)).2.1) dX10_keeps_31 ?_
  refine j_aload_n (pc := 34) C dX10_keeps_34 rfl 0 rfl ?_
  refine j_getI (pc := 35) C fp_X10_193 hs.2.1.1 rfl (f := 672) rfl dX10_keeps_35 ?_
  refine j_topi (nI (nD S)) (hs.rdI 672 0 0 (by decide) (by decide)) ?_
  refine j_lconst (pc := 38) C (lN 0) dX10_keeps_38 (by decide) ?_
  refine j_last (pc := 39) C (p := nD S) (M := 32) ((hs.2.1.2 30 (by decide) (by decide)).2.1) rfl ((hs.2.1.2 30 (by decide) (by decide)).2.2) (by omega) (by decide) dX10_keeps_39 ?_
  have hs := hs.wB (nD S) 0; have hme := hme.sL (f := 768) (i := 430) (j := (nD S)) (v := (lN 0)) rfl
  generalize sL σ3 768 430 (nD S) (lN 0) = σ4 at hs hme ⊢
  refine j_iconst (pc := 40) C (nI 0) dX10_keeps_40 (by decide) ?_
  refine j_istore (pc := 41) C [(4, .int (nI 0)), (0, .ref (x9 0)), (1, .int (nI m)), (2, .int (nI its)), (3, .int (nI into))] dX10_keeps_41 (by decide) rfl ?_
  have loop : ∀ (f : Nat) (c : Nat) (σ9 : HS), (c ≤ 8) → (8 < c + f) → RS (keepC (zN (zN (zN (zN S 832 27 (nD S) m) 704 38 (nD S) its) 704 39 (nD S) into) 768 430 (nD S) 0) its into c) x9 k9 σ9 → ME σ σ9 → J X 0 0 σ9 [(4, .int (nI c)), (0, .ref (x9 0)), (1, .int (nI m)), (2, .int (nI its)), (3, .int (nI into))] [] 43 := by
    clear hs hme
    intro f
    induction f with
    | zero => intro c σ9 h1 h2; exact absurd h2 (by omega)
    | succ f ih =>
      intro c σ9 h1 h2 hs hme
      refine j_iload (pc := 43) C dX10_keeps_43 0 rfl ?_
      refine j_bipush (pc := 45) C (nI 8) dX10_keeps_45 (by decide) ?_
      refine jn_icmp_ge (pc := 47) C 113 (a := c) (b := 8) (by omega) (by omega) dX10_keeps_47 (by decide) (fun c1 => ?_) (fun c1 => ?_)
      · have e : c = 8 := Nat.le_antisymm h1 c1
        subst e
        exact j_vreturn (pc := 113) C Q dX10_keeps_113 (Nat.le_of_ble_eq_true rfl) (Nat.le_of_ble_eq_true rfl) (⟨rfl, hs, hme⟩)
      · refine j_aload_n (pc := 50) C dX10_keeps_50 rfl 1 rfl ?_
        refine j_getA (pc := 51) C fp_X10_78 hs.2.1.1 rfl (f := 671) rfl (12, 431) (x9 31) ((hs.2.1.2 31 (by decide) (by decide)).1) ((hs.2.1.2 31 (by decide) (by decide)).2.1) dX10_keeps_51 ?_
        refine j_bipush (pc := 54) C (nI 16) dX10_keeps_54 (by decide) ?_
        refine j_aload_n (pc := 56) C dX10_keeps_56 rfl 1 rfl ?_
        refine j_getI (pc := 57) C fp_X10_193 hs.2.1.1 rfl (f := 672) rfl dX10_keeps_57 ?_
        refine j_topi (nI (nD S)) ((hs.rdI 672 0 0 (by decide) (by decide)).trans (congrArg (nI) (congrFun (congrFun (congrFun (keepC_N (zN (zN (zN (zN S 832 27 (nD S) m) 704 38 (nD S) its) 704 39 (nD S) into) 768 430 (nD S) 0) its into c) 672) 0) 0))) ?_
        refine j_imul (pc := 60) C dX10_keeps_60 ?_
        refine j_topi (nI (16 * (nD S))) (pk_mul 16 (nD S)) ?_
        refine j_iload (pc := 61) C dX10_keeps_61 0 rfl ?_
        refine j_iadd (pc := 63) C dX10_keeps_63 ?_
        refine j_topi (nI (16 * (nD S) + c)) (nI_add (16 * (nD S)) c) ?_
        refine j_aload_n (pc := 64) C dX10_keeps_64 rfl 1 rfl ?_
        refine j_getA (pc := 65) C fp_X10_33 hs.2.1.1 rfl (f := 652) rfl (12, 412) (x9 12) ((hs.2.1.2 12 (by decide) (by decide)).1) ((hs.2.1.2 12 (by decide) (by decide)).2.1) dX10_keeps_65 ?_
        refine j_bipush (pc := 68) C (nI 8) dX10_keeps_68 (by decide) ?_
        refine j_iload_n (pc := 70) C dX10_keeps_70 rfl 3 rfl ?_
        refine j_imul (pc := 71) C dX10_keeps_71 ?_
        refine j_topi (nI (8 * its)) (pk_mul 8 its) ?_
        refine j_iload (pc := 72) C dX10_keeps_72 0 rfl ?_
        refine j_iadd (pc := 74) C dX10_keeps_74 ?_
        refine j_topi (nI (8 * its + c)) (nI_add (8 * its) c) ?_
        refine j_lald (pc := 75) C (p := 8 * its + c) (M := 128) ((hs.2.1.2 12 (by decide) (by decide)).2.1) rfl ((hs.2.1.2 12 (by decide) (by decide)).2.2) (by omega) (by decide) dX10_keeps_75 ?_
        refine j_topl (encO (S.2 768 412 (8 * its + c))) ((hs.rdX 768 412 (8 * its + c) (by decide) (by decide)).trans (congrArg (encO) (keepC_R (zN (zN (zN (zN S 832 27 (nD S) m) 704 38 (nD S) its) 704 39 (nD S) into) 768 430 (nD S) 0) its into (by decide) (8 * its + c) c))) ?_
        refine j_last (pc := 76) C (p := 16 * (nD S) + c) (M := 512) ((hs.2.1.2 31 (by decide) (by decide)).2.1) rfl ((hs.2.1.2 31 (by decide) (by decide)).2.2) (by omega) (by decide) dX10_keeps_76 ?_
        have hs := hs.wL 768 431 (16 * (nD S) + c) (S.2 768 412 (8 * its + c)) (encO (S.2 768 412 (8 * its + c))) (by decide) (by decide) rfl; have hme := hme.sL (f := 768) (i := 431) (j := (16 * (nD S) + c)) (v := (encO (S.2 768 412 (8 * its + c)))) rfl
        generalize sL σ9 768 431 (16 * (nD S) + c) (encO (S.2 768 412 (8 * its + c))) = σ5 at hs hme ⊢
        refine j_aload_n (pc := 77) C dX10_keeps_77 rfl 1 rfl ?_
        refine j_getA (pc := 78) C fp_X10_78 hs.2.1.1 rfl (f := 671) rfl (12, 431) (x9 31) ((hs.2.1.2 31 (by decide) (by decide)).1) ((hs.2.1.2 31 (by decide) (by decide)).2.1) dX10_keeps_78 ?_
        refine j_bipush (pc := 81) C (nI 16) dX10_keeps_81 (by decide) ?_
        refine j_aload_n (pc := 83) C dX10_keeps_83 rfl 1 rfl ?_
        refine j_getI (pc := 84) C fp_X10_193 hs.2.1.1 rfl (f := 672) rfl dX10_keeps_84 ?_
        refine j_topi (nI (nD S)) (((hs.rdI 672 0 0 (by decide) (by decide)).trans (congrArg (nI) ((rfl : (zR (keepC (zN (zN (zN (zN S 832 27 (nD S) m) 704 38 (nD S) its) 704 39 (nD S) into) 768 430 (nD S) 0) its into c) 768 431 (16 * (nD S) + c) (S.2 768 412 (8 * its + c))).1 672 0 0 = (keepC (zN (zN (zN (zN S 832 27 (nD S) m) 704 38 (nD S) its) 704 39 (nD S) into) 768 430 (nD S) 0) its into c).1 672 0 0)))).trans (congrArg (nI) (congrFun (congrFun (congrFun (keepC_N (zN (zN (zN (zN S 832 27 (nD S) m) 704 38 (nD S) its) 704 39 (nD S) into) 768 430 (nD S) 0) its into c) 672) 0) 0))) ?_
        refine j_imul (pc := 87) C dX10_keeps_87 ?_
        refine j_topi (nI (16 * (nD S))) (pk_mul 16 (nD S)) ?_
        refine j_bipush (pc := 88) C (nI 8) dX10_keeps_88 (by decide) ?_
        refine j_iadd (pc := 90) C dX10_keeps_90 ?_
        refine j_topi (nI (16 * (nD S) + 8)) (nI_add (16 * (nD S)) 8) ?_
        refine j_iload (pc := 91) C dX10_keeps_91 0 rfl ?_
        refine j_iadd (pc := 93) C dX10_keeps_93 ?_
        refine j_topi (nI (16 * (nD S) + 8 + c)) (nI_add (16 * (nD S) + 8) c) ?_
        refine j_aload_n (pc := 94) C dX10_keeps_94 rfl 1 rfl ?_
        refine j_getA (pc := 95) C fp_X10_33 hs.2.1.1 rfl (f := 652) rfl (12, 412) (x9 12) ((hs.2.1.2 12 (by decide) (by decide)).1) ((hs.2.1.2 12 (by decide) (by decide)).2.1) dX10_keeps_95 ?_
        refine j_bipush (pc := 98) C (nI 8) dX10_keeps_98 (by decide) ?_
        refine j_iload_n (pc := 100) C dX10_keeps_100 rfl 4 rfl ?_
        refine j_imul (pc := 101) C dX10_keeps_101 ?_
        refine j_topi (nI (8 * into)) (pk_mul 8 into) ?_
        refine j_iload (pc := 102) C dX10_keeps_102 0 rfl ?_
        refine j_iadd (pc := 104) C dX10_keeps_104 ?_
        refine j_topi (nI (8 * into + c)) (nI_add (8 * into) c) ?_
        refine j_lald (pc := 105) C (p := 8 * into + c) (M := 128) ((hs.2.1.2 12 (by decide) (by decide)).2.1) rfl ((hs.2.1.2 12 (by decide) (by decide)).2.2) (by omega) (by decide) dX10_keeps_105 ?_
        refine j_topl (encO (S.2 768 412 (8 * into + c))) (((hs.rdX 768 412 (8 * into + c) (by decide) (by decide)).trans (congrArg (encO) (zR_ne (S := (keepC (zN (zN (zN (zN S 832 27 (nD S) m) 704 38 (nD S) its) 704 39 (nD S) into) 768 430 (nD S) 0) its into c)) (f := 768) (i := 431) (j := (16 * (nD S) + c)) (r := (S.2 768 412 (8 * its + c))) (f' := 768) (i' := 412) (j' := (8 * into + c)) (fun e => absurd e.2.1 (by decide))))).trans (congrArg (encO) (keepC_R (zN (zN (zN (zN S 832 27 (nD S) m) 704 38 (nD S) its) 704 39 (nD S) into) 768 430 (nD S) 0) its into (by decide) (8 * into + c) c))) ?_
        refine j_last (pc := 106) C (p := 16 * (nD S) + 8 + c) (M := 512) ((hs.2.1.2 31 (by decide) (by decide)).2.1) rfl ((hs.2.1.2 31 (by decide) (by decide)).2.2) (by omega) (by decide) dX10_keeps_106 ?_
        have hs := hs.wL 768 431 (16 * (nD S) + 8 + c) (S.2 768 412 (8 * into + c)) (encO (S.2 768 412 (8 * into + c))) (by decide) (by decide) rfl; have hme := hme.sL (f := 768) (i := 431) (j := (16 * (nD S) + 8 + c)) (v := (encO (S.2 768 412 (8 * into + c)))) rfl
        generalize sL σ5 768 431 (16 * (nD S) + 8 + c) (encO (S.2 768 412 (8 * into + c))) = σ6 at hs hme ⊢
        refine j_iinc (pc := 107) C (nI (c + 1)) [(4, .int (nI (c + 1))), (0, .ref (x9 0)), (1, .int (nI m)), (2, .int (nI its)), (3, .int (nI into))] dX10_keeps_107 0 rfl (nI_add c 1) (by decide) rfl ?_
        refine j_goto (pc := 110) C 43 dX10_keeps_110 (by decide) ?_
        exact J.to [0, 1, 2, 3, 4] rfl (ih (c + 1) σ6 (by omega) (by omega) hs hme)
  exact J.to [0, 1, 2, 3, 4] rfl (loop 9 0 _ (Nat.zero_le _) (by omega) hs hme)
set_option maxHeartbeats 4000000 in
set_option maxRecDepth 100000 in
theorem c_X10_moves (L9 : Launch) (w9 : Wd) {σ : HS} {S : SP} {x9 : Nat → Nat} {k9 : Int32} (hs : RS S x9 k9 σ) {l into cells n : Nat} (hn : nW S = n) (hW : n ≤ 40) (hD : nD S ≤ 31) (hq : ∀ w, w < n → ol S w < 16 ∧ cw S w < 8 ∧ hd9 S w ≤ 1) (hl : l < 16) (hi : into < 16) (hcl : cells < 256) : MJ L9 w9 yX10_moves cX10_moves 6 (some .int) ({ frames := 0, cells := 0, slots := 0, locals := 0 } : Room) [.ref (x9 0), .int (nI l), .int (nI into), .int (nI cells)] σ (fun a9 σ' => a9 = some (.int (nI (moveN S l cells n))) ∧ RS (moveW S l into cells n) x9 k9 σ' ∧ ME σ σ') := by
  refine MJ.of (by decide +kernel) (Nat.le_of_ble_eq_true rfl) (fun X hX1 hX2 C Q hinit => ?_)
  subst hX1; subst hX2
  show J X 0 0 σ [(0, .ref (x9 0)), (1, .int (nI l)), (2, .int (nI into)), (3, .int (nI cells))] [] 0
  have hme : ME σ σ := ME.rf
  subst hn
  refine j_iconst (pc := 0) C (nI 0) dX10_moves_0 (by decide) ?_
  refine j_istore (pc := 1) C [(4, .int (nI 0)), (0, .ref (x9 0)), (1, .int (nI l)), (2, .int (nI into)), (3, .int (nI cells))] dX10_moves_1 (by decide) rfl ?_
  refine j_iconst (pc := 3) C (nI 0) dX10_moves_3 (by decide) ?_
  refine j_istore (pc := 4) C [(5, .int (nI 0)), (4, .int (nI 0)), (0, .ref (x9 0)), (1, .int (nI l)), (2, .int (nI into)), (3, .int (nI cells))] dX10_moves_4 (by decide) rfl ?_
  have loop : ∀ (f : Nat) (w : Nat) (σ9 : HS), (w ≤ nW S) → (nW S < w + f) → RS (moveW S l into cells w) x9 k9 σ9 → ME σ σ9 → J X 0 0 σ9 [(5, .int (nI w)), (4, .int (nI (moveN S l cells w))), (0, .ref (x9 0)), (1, .int (nI l)), (2, .int (nI into)), (3, .int (nI cells))] [] 6 := by
    clear hs hme
    intro f
    induction f with
    | zero => intro w σ9 h1 h2; exact absurd h2 (by omega)
    | succ f ih =>
      intro w σ9 h1 h2 hs hme
      have hle : moveN S l cells w ≤ w := fb_ct_le _ w
      refine j_iload (pc := 6) C dX10_moves_6 0 rfl ?_
      refine j_aload_n (pc := 8) C dX10_moves_8 rfl 2 rfl ?_
      refine j_getI (pc := 9) C fp_X10_187 hs.2.1.1 rfl (f := 666) rfl dX10_moves_9 ?_
      refine j_topi (nI (nW S)) ((hs.rdI 666 0 0 (by decide) (by decide)).trans (congrArg (nI) (moveW_N S l into cells (by decide) (by decide) 0 w))) ?_
      refine jn_icmp_ge (pc := 12) C 84 (a := w) (b := nW S) (by omega) (by omega) dX10_moves_12 (by decide) (fun c1 => ?_) (fun c1 => ?_)
      · have e : w = nW S := Nat.le_antisymm h1 c1
        subst e
        refine j_iload (pc := 84) C dX10_moves_84 1 rfl ?_
        exact j_ireturn (pc := 86) C Q dX10_moves_86 (Nat.le_of_ble_eq_true rfl) (Nat.le_of_ble_eq_true rfl) (⟨rfl, hs, hme⟩)
      · obtain ⟨q1, q2, q3⟩ := hq w c1
        refine j_aload_n (pc := 15) C dX10_moves_15 rfl 2 rfl ?_
        refine j_getA (pc := 16) C fp_X10_63 hs.2.1.1 rfl (f := 665) rfl (13, 25) (x9 25) ((hs.2.1.2 25 (by decide) (by decide)).1) ((hs.2.1.2 25 (by decide) (by decide)).2.1) dX10_moves_16 ?_
        refine j_iload (pc := 19) C dX10_moves_19 0 rfl ?_
        refine j_zald (pc := 21) C (p := w) (M := 40) ((hs.2.1.2 25 (by decide) (by decide)).2.1) rfl ((hs.2.1.2 25 (by decide) (by decide)).2.2) (by omega) (by decide) dX10_moves_21 ?_
        refine j_topi (nI (hd9 S w)) ((hs.rdI 832 25 w (by decide) (by decide)).trans (congrArg (nI) (moveW_N S l into cells (by decide) (by decide) w w))) ?_
        refine jn_if_eq (pc := 22) C 78 (a := hd9 S w) (by omega) dX10_moves_22 (by decide) (fun c2 => ?_) (fun c2 => ?_)
        · have hno : ¬ (hd9 S w = 1 ∧ ol S w = l ∧ cells.testBit (cw S w) = true) := fun z => absurd z.1 (by omega)
          have e9 : moveW S l into cells (w + 1) = moveW S l into cells w := if_neg hno
          have n9 : moveN S l cells (w + 1) = moveN S l cells w := by
            show fb_ct _ w + (if _ then 1 else 0) = _; rw [if_neg (fun z => hno (of_decide_eq_true z))]; rfl
          refine j_iinc (pc := 78) C (nI (w + 1)) [(5, .int (nI (w + 1))), (4, .int (nI (moveN S l cells w))), (0, .ref (x9 0)), (1, .int (nI l)), (2, .int (nI into)), (3, .int (nI cells))] dX10_moves_78 0 rfl (nI_add w 1) (by decide) rfl ?_
          refine j_goto (pc := 81) C 6 dX10_moves_81 (by decide) ?_
          have l0 := ih (w + 1) σ9 (by omega) (by omega) (by rw [e9]; exact hs) hme
          rw [n9] at l0
          exact J.to [0, 1, 2, 3, 4, 5] rfl l0
        · refine j_aload_n (pc := 25) C dX10_moves_25 rfl 2 rfl ?_
          refine j_getA (pc := 26) C fp_X10_51 hs.2.1.1 rfl (f := 661) rfl (11, 31) (x9 21) ((hs.2.1.2 21 (by decide) (by decide)).1) ((hs.2.1.2 21 (by decide) (by decide)).2.1) dX10_moves_26 ?_
          refine j_iload (pc := 29) C dX10_moves_29 0 rfl ?_
          refine j_iald (pc := 31) C (p := w) (M := 40) ((hs.2.1.2 21 (by decide) (by decide)).2.1) rfl ((hs.2.1.2 21 (by decide) (by decide)).2.2) (by omega) (by decide) dX10_moves_31 ?_
          refine j_topi (nI (ol S w)) ((hs.rdI 704 31 w (by decide) (by decide)).trans (congrArg (nI) (moveW_ol S l into cells w (Nat.le_refl _)))) ?_
          refine j_iload_n (pc := 32) C dX10_moves_32 rfl 3 rfl ?_
          refine jn_icmp_ne (pc := 33) C 78 (a := ol S w) (b := l) (by omega) (by omega) dX10_moves_33 (by decide) (fun c3 => ?_) (fun c3 => ?_)
          · have hno : ¬ (hd9 S w = 1 ∧ ol S w = l ∧ cells.testBit (cw S w) = true) := fun z => c3 z.2.1
            have e9 : moveW S l into cells (w + 1) = moveW S l into cells w := if_neg hno
            have n9 : moveN S l cells (w + 1) = moveN S l cells w := by
              show fb_ct _ w + (if _ then 1 else 0) = _; rw [if_neg (fun z => hno (of_decide_eq_true z))]; rfl
            refine j_iinc (pc := 78) C (nI (w + 1)) [(5, .int (nI (w + 1))), (4, .int (nI (moveN S l cells w))), (0, .ref (x9 0)), (1, .int (nI l)), (2, .int (nI into)), (3, .int (nI cells))] dX10_moves_78 0 rfl (nI_add w 1) (by decide) rfl ?_
            refine j_goto (pc := 81) C 6 dX10_moves_81 (by decide) ?_
            have l0 := ih (w + 1) σ9 (by omega) (by omega) (by rw [e9]; exact hs) hme
            rw [n9] at l0
            exact J.to [0, 1, 2, 3, 4, 5] rfl l0
          · refine j_iload_n (pc := 36) C dX10_moves_36 rfl 5 rfl ?_
            refine j_aload_n (pc := 37) C dX10_moves_37 rfl 2 rfl ?_
            refine j_getA (pc := 38) C fp_X10_54 hs.2.1.1 rfl (f := 662) rfl (11, 32) (x9 22) ((hs.2.1.2 22 (by decide) (by decide)).1) ((hs.2.1.2 22 (by decide) (by decide)).2.1) dX10_moves_38 ?_
            refine j_iload (pc := 41) C dX10_moves_41 0 rfl ?_
            refine j_iald (pc := 43) C (p := w) (M := 40) ((hs.2.1.2 22 (by decide) (by decide)).2.1) rfl ((hs.2.1.2 22 (by decide) (by decide)).2.2) (by omega) (by decide) dX10_moves_43 ?_
            refine j_topi (nI (cw S w)) ((hs.rdI 704 32 w (by decide) (by decide)).trans (congrArg (nI) (moveW_N S l into cells (by decide) (by decide) w w))) ?_
            refine j_ishr (pc := 44) C dX10_moves_44 ?_
            refine j_iconst (pc := 45) C (nI 1) dX10_moves_45 (by decide) ?_
            refine j_iand (pc := 46) C dX10_moves_46 ?_
            refine j_topi (nI ((cells.testBit (cw S w)).toNat)) (bitI (by omega) (by omega)) ?_
            refine j_iconst (pc := 47) C (nI 1) dX10_moves_47 (by decide) ?_
            refine jn_icmp_ne (pc := 48) C 78 (a := (cells.testBit (cw S w)).toNat) (b := 1) (by first | exact bool_lt _ | omega) (by first | exact bool_lt _ | omega) dX10_moves_48 (by decide) (fun c4 => ?_) (fun c4 => ?_)
            · have hno : ¬ (hd9 S w = 1 ∧ ol S w = l ∧ cells.testBit (cw S w) = true) := fun z => c4 (bool1.mpr z.2.2)
              have e9 : moveW S l into cells (w + 1) = moveW S l into cells w := if_neg hno
              have n9 : moveN S l cells (w + 1) = moveN S l cells w := by
                show fb_ct _ w + (if _ then 1 else 0) = _; rw [if_neg (fun z => hno (of_decide_eq_true z))]; rfl
              refine j_iinc (pc := 78) C (nI (w + 1)) [(5, .int (nI (w + 1))), (4, .int (nI (moveN S l cells w))), (0, .ref (x9 0)), (1, .int (nI l)), (2, .int (nI into)), (3, .int (nI cells))] dX10_moves_78 0 rfl (nI_add w 1) (by decide) rfl ?_
              refine j_goto (pc := 81) C 6 dX10_moves_81 (by decide) ?_
              have l0 := ih (w + 1) σ9 (by omega) (by omega) (by rw [e9]; exact hs) hme
              rw [n9] at l0
              exact J.to [0, 1, 2, 3, 4, 5] rfl l0
            · refine j_aload_n (pc := 51) C dX10_moves_51 rfl 2 rfl ?_
              refine j_getA (pc := 52) C fp_X10_51 hs.2.1.1 rfl (f := 661) rfl (11, 31) (x9 21) ((hs.2.1.2 21 (by decide) (by decide)).1) ((hs.2.1.2 21 (by decide) (by decide)).2.1) dX10_moves_52 ?_
              refine j_iload (pc := 55) C dX10_moves_55 0 rfl ?_
              refine j_iload_n (pc := 57) C dX10_moves_57 rfl 4 rfl ?_
              refine j_iast (pc := 58) C (p := w) (M := 40) ((hs.2.1.2 21 (by decide) (by decide)).2.1) rfl ((hs.2.1.2 21 (by decide) (by decide)).2.2) (by omega) (by decide) dX10_moves_58 ?_
              have hs := hs.wI 704 31 w into (by decide) (by decide)
              have hme := hme.sI (f := 704) (i := 31) (j := w) (v := (nI into)) rfl
              generalize sI σ9 704 31 w (nI into) = σ1 at hs hme ⊢
              refine j_aload_n (pc := 59) C dX10_moves_59 rfl 2 rfl ?_
              refine j_getA (pc := 60) C fp_X10_75 hs.2.1.1 rfl (f := 670) rfl (12, 430) (x9 30) ((hs.2.1.2 30 (by decide) (by decide)).1) ((hs.2.1.2 30 (by decide) (by decide)).2.1) dX10_moves_60 ?_
              refine j_aload_n (pc := 63) C dX10_moves_63 rfl 2 rfl ?_
              refine j_getI (pc := 64) C fp_X10_193 hs.2.1.1 rfl (f := 672) rfl dX10_moves_64 ?_
              refine j_topi (nI (nD S)) (((hs.rdI 672 0 0 (by decide) (by decide)).trans (congrArg (nI) (zN_ne (S := (moveW S l into cells w)) (f := 704) (i := 31) (j := w) (v := into) (f' := 672) (i' := 0) (j' := 0) (fun e => absurd e.1 (by decide))))).trans (congrArg (nI) (moveW_N S l into cells (by decide) (by decide) 0 w))) ?_
              refine j_dup2 (pc := 67) C dX10_moves_67 rfl rfl ?_
              refine j_lald (pc := 68) C (p := nD S) (M := 32) ((hs.2.1.2 30 (by decide) (by decide)).2.1) rfl ((hs.2.1.2 30 (by decide) (by decide)).2.2) (by omega) (by decide) dX10_moves_68 ?_
              refine j_topl (lN (mv (moveW S l into cells w) (nD S))) (hs.rdB (nD S)) ?_
              refine j_lconst (pc := 69) C (lN 1) dX10_moves_69 (by decide) ?_
              refine j_iload (pc := 70) C dX10_moves_70 0 rfl ?_
              refine j_lshl (pc := 72) C dX10_moves_72 ?_
              refine j_topl (lN (2 ^ w)) (shlL (by omega)) ?_
              refine j_lor (pc := 73) C dX10_moves_73 ?_
              refine j_topl (lN (mv (moveW S l into cells w) (nD S) ||| 2 ^ w)) (fb_orL _ _) ?_
              have hyes : hd9 S w = 1 ∧ ol S w = l ∧ cells.testBit (cw S w) = true := ⟨by omega, c3, bool1.mp c4⟩
              refine j_last (pc := 74) C (p := nD S) (M := 32) ((hs.2.1.2 30 (by decide) (by decide)).2.1) rfl ((hs.2.1.2 30 (by decide) (by decide)).2.2) (by omega) (by decide) dX10_moves_74 ?_
              have hs := hs.wB (nD S) (mv (moveW S l into cells w) (nD S) ||| 2 ^ w); have hme := hme.sL (f := 768) (i := 430) (j := (nD S)) (v := (lN (mv (moveW S l into cells w) (nD S) ||| 2 ^ w))) rfl
              generalize sL σ1 768 430 (nD S) (lN (mv (moveW S l into cells w) (nD S) ||| 2 ^ w)) = σ2 at hs hme ⊢
              refine j_iinc (pc := 75) C (nI (moveN S l cells w + 1)) [(4, .int (nI (moveN S l cells w + 1))), (5, .int (nI w)), (0, .ref (x9 0)), (1, .int (nI l)), (2, .int (nI into)), (3, .int (nI cells))] dX10_moves_75 1 rfl (nI_add (moveN S l cells w) 1) (by decide) rfl ?_
              refine j_iinc (pc := 78) C (nI (w + 1)) [(5, .int (nI (w + 1))), (4, .int (nI (moveN S l cells w + 1))), (0, .ref (x9 0)), (1, .int (nI l)), (2, .int (nI into)), (3, .int (nI cells))] dX10_moves_78 1 rfl (nI_add w 1) (by decide) rfl ?_
              refine j_goto (pc := 81) C 6 dX10_moves_81 (by decide) ?_
              have e9 : moveW S l into cells (w + 1) = zN (zN (moveW S l into cells w) 704 31 w into) 768 430 (nD S) (mv (moveW S l into cells w) (nD S) ||| 2 ^ w) := if_pos hyes
              have n9 : moveN S l cells (w + 1) = moveN S l cells w + 1 := by
                show fb_ct _ w + (if _ then 1 else 0) = _; rw [if_pos (decide_eq_true hyes)]; rfl
              have l0 := ih (w + 1) σ2 (by omega) (by omega) (by rw [e9]; exact hs) hme
              rw [n9] at l0
              exact J.to [0, 1, 2, 3, 4, 5] rfl l0
  exact J.to [0, 1, 2, 3, 4, 5] rfl (loop (nW S + 1) 0 _ (Nat.zero_le _) (by omega) hs hme)
set_option maxHeartbeats 4000000 in
set_option maxRecDepth 100000 in
theorem c_X10_merge (L9 : Launch) (w9 : Wd) {σ : HS} {S : SP} {x9 : Nat → Nat} {k9 : Int32} (hs : RS S x9 k9 σ) (hw : WF S) (x y : Int32) : MJ L9 w9 yX10_merge cX10_merge 7 (some .int) ({ frames := 2, cells := 0, slots := 0, locals := 43 } : Room) [.ref (x9 0), .int x, .int y] σ (fun a9 σ' => a9 = some (.int (s_merge S x y).2.1) ∧ RS (s_merge S x y).2.2 x9 (nI (s_merge S x y).1) σ' ∧ ME σ σ') := by
  refine MJ.of (by decide +kernel) (Nat.le_of_ble_eq_true rfl) (fun X hX1 hX2 C Q hinit => ?_)
  subst hX1; subst hX2
  show J X 0 0 σ [(0, .ref (x9 0)), (1, .int x), (2, .int y)] [] 0
  have hme : ME σ σ := ME.rf
  have gL := hw.2.2.1.1
  have gW := hw.2.2.2.1.1
  have gD := hw.2.2.2.2.1
  refine j_aload_n (pc := 0) C dX10_merge_0 rfl 0 rfl ?_
  refine j_iload_n (pc := 1) C dX10_merge_1 rfl 1 rfl ?_
  refine j_callV (pc := 2) C [.int x] [] (rm0 := ({ frames := 2, cells := 0, slots := 0, locals := 43 } : Room)) (k' := 0) (n' := 0) Q.1 (c_X10_isLexeme (xl X) (xw X) hs hw x) mp_X10_isLexeme wm_1203 hs.2.1.1 rfl rfl (by decide) rfl rfl (Nat.le_of_ble_eq_true rfl) dX10_merge_2 ⟨by decide, by decide⟩ ⟨Nat.le_of_ble_eq_true rfl, Nat.le_of_ble_eq_true rfl⟩ rfl rfl (det1 ?_)
  refine jb_if_eq (pc := 5) C 20 (b := isLex S x) dX10_merge_5 (by decide) (fun c1 => ?_) (fun c1 => ?_)
  · refine j_iconst (pc := 20) C (nI 0) dX10_merge_20 (by decide) ?_
    refine j_istore_n (pc := 21) C [(3, .int (nI 0)), (0, .ref (x9 0)), (1, .int x), (2, .int y)] dX10_merge_21 rfl (by decide) rfl ?_
    refine j_aload_n (pc := 22) C dX10_merge_22 rfl 1 rfl ?_
    refine j_iload_n (pc := 23) C dX10_merge_23 rfl 0 rfl ?_
    refine j_if_ne (pc := 24) C 31 dX10_merge_24 (by decide) (fun q => absurd q (by decide)) (fun _ => ?_)
    refine j_iconst (pc := 27) C (nI 1) dX10_merge_27 (by decide) ?_
    refine j_goto (pc := 28) C 41 dX10_merge_28 (by decide) ?_
    refine j_callV (pc := 41) C [.int (nI 1)] [] (rm0 := ({ frames := 2, cells := 0, slots := 0, locals := 43 } : Room)) (k' := 0) (n' := 0) Q.1 (c_X10_holds (xl X) (xw X) hs (nI 1)) mp_X10_holds wm_1156 hs.2.1.1 rfl rfl (by decide) rfl rfl (Nat.le_of_ble_eq_true rfl) dX10_merge_41 ⟨by decide, by decide⟩ ⟨Nat.le_of_ble_eq_true rfl, Nat.le_of_ble_eq_true rfl⟩ rfl rfl (fun v9 σ1 hp9 => ?_)
    obtain ⟨rfl, hs, hme9⟩ := hp9
    have hme := hme.tr hme9
    show J X 0 0 σ1 [(3, .int (nI 0)), (0, .ref (x9 0)), (1, .int x), (2, .int y)] [.int (bI (decide (nI 1 = 0)))] 44
    refine j_topi (bI false) (by decide) ?_
    refine j_if_ne (pc := 44) C 49 dX10_merge_44 (by decide) (fun q => absurd q (by decide)) (fun _ => ?_)
    refine j_iconst (pc := 47) C (nI 0) dX10_merge_47 (by decide) ?_
    exact j_ireturn (pc := 48) C Q dX10_merge_48 (Nat.le_of_ble_eq_true rfl) (Nat.le_of_ble_eq_true rfl) (by unfold s_merge; rw [if_pos (by rw [c1]; rfl)]; exact ⟨rfl, hs, hme⟩)
  · have c1k := c1
    have hlx : inI x (nL S) = true ∧ th S (xN x) = 1 := by
      unfold isLex at c1
      rw [Bool.and_eq_true, decide_eq_true_iff] at c1
      exact c1
    obtain ⟨hx1, hx2⟩ := inI_t hlx.1
    rw [hx2]
    refine j_aload_n (pc := 8) C dX10_merge_8 rfl 0 rfl ?_
    refine j_iload_n (pc := 9) C dX10_merge_9 rfl 2 rfl ?_
    refine j_callV (pc := 10) C [.int y] [] (rm0 := ({ frames := 2, cells := 0, slots := 0, locals := 43 } : Room)) (k' := 0) (n' := 0) Q.1 (c_X10_isLexeme (xl X) (xw X) hs hw y) mp_X10_isLexeme wm_1203 hs.2.1.1 rfl rfl (by decide) rfl rfl (Nat.le_of_ble_eq_true rfl) dX10_merge_10 ⟨by decide, by decide⟩ ⟨Nat.le_of_ble_eq_true rfl, Nat.le_of_ble_eq_true rfl⟩ rfl rfl (det1 ?_)
    refine jb_if_eq (pc := 13) C 20 (b := isLex S y) dX10_merge_13 (by decide) (fun c2 => ?_) (fun c2 => ?_)
    · refine j_iconst (pc := 20) C (nI 0) dX10_merge_20 (by decide) ?_
      refine j_istore_n (pc := 21) C [(3, .int (nI 0)), (0, .ref (x9 0)), (1, .int (nI (xN x))), (2, .int y)] dX10_merge_21 rfl (by decide) rfl ?_
      refine j_aload_n (pc := 22) C dX10_merge_22 rfl 1 rfl ?_
      refine j_iload_n (pc := 23) C dX10_merge_23 rfl 0 rfl ?_
      refine j_if_ne (pc := 24) C 31 dX10_merge_24 (by decide) (fun q => absurd q (by decide)) (fun _ => ?_)
      refine j_iconst (pc := 27) C (nI 1) dX10_merge_27 (by decide) ?_
      refine j_goto (pc := 28) C 41 dX10_merge_28 (by decide) ?_
      refine j_callV (pc := 41) C [.int (nI 1)] [] (rm0 := ({ frames := 2, cells := 0, slots := 0, locals := 43 } : Room)) (k' := 0) (n' := 0) Q.1 (c_X10_holds (xl X) (xw X) hs (nI 1)) mp_X10_holds wm_1156 hs.2.1.1 rfl rfl (by decide) rfl rfl (Nat.le_of_ble_eq_true rfl) dX10_merge_41 ⟨by decide, by decide⟩ ⟨Nat.le_of_ble_eq_true rfl, Nat.le_of_ble_eq_true rfl⟩ rfl rfl (fun v9 σ2 hp9 => ?_)
      obtain ⟨rfl, hs, hme9⟩ := hp9
      have hme := hme.tr hme9
      show J X 0 0 σ2 [(3, .int (nI 0)), (0, .ref (x9 0)), (1, .int (nI (xN x))), (2, .int y)] [.int (bI (decide (nI 1 = 0)))] 44
      refine j_topi (bI false) (by decide) ?_
      refine j_if_ne (pc := 44) C 49 dX10_merge_44 (by decide) (fun q => absurd q (by decide)) (fun _ => ?_)
      refine j_iconst (pc := 47) C (nI 0) dX10_merge_47 (by decide) ?_
      exact j_ireturn (pc := 48) C Q dX10_merge_48 (Nat.le_of_ble_eq_true rfl) (Nat.le_of_ble_eq_true rfl) (by unfold s_merge; rw [if_pos (by rw [c1k, c2]; rfl)]; exact ⟨rfl, hs, hme⟩)
    · have c2k := c2
      have hly : inI y (nL S) = true ∧ th S (xN y) = 1 := by
        unfold isLex at c2
        rw [Bool.and_eq_true, decide_eq_true_iff] at c2
        exact c2
      obtain ⟨hy1, hy2⟩ := inI_t hly.1
      rw [hy2]
      refine j_iconst (pc := 16) C (nI 1) dX10_merge_16 (by decide) ?_
      refine j_goto (pc := 17) C 21 dX10_merge_17 (by decide) ?_
      refine j_istore_n (pc := 21) C [(3, .int (nI 1)), (0, .ref (x9 0)), (1, .int (nI (xN x))), (2, .int (nI (xN y)))] dX10_merge_21 rfl (by decide) rfl ?_
      refine j_aload_n (pc := 22) C dX10_merge_22 rfl 1 rfl ?_
      refine j_iload_n (pc := 23) C dX10_merge_23 rfl 0 rfl ?_
      refine j_if_ne (pc := 24) C 31 dX10_merge_24 (by decide) (fun _ => ?_) (fun q => absurd q (by decide))
      refine j_iload_n (pc := 31) C dX10_merge_31 rfl 2 rfl ?_
      refine j_iload_n (pc := 32) C dX10_merge_32 rfl 3 rfl ?_
      refine jn_icmp_ne (pc := 33) C 40 (a := xN x) (b := xN y) (by omega) (by omega) dX10_merge_33 (by decide) (fun c3 => ?_) (fun c3 => ?_)
      · refine j_iconst (pc := 40) C (nI 0) dX10_merge_40 (by decide) ?_
        refine j_callV (pc := 41) C [.int (nI 0)] [] (rm0 := ({ frames := 2, cells := 0, slots := 0, locals := 43 } : Room)) (k' := 0) (n' := 0) Q.1 (c_X10_holds (xl X) (xw X) hs (nI 0)) mp_X10_holds wm_1156 hs.2.1.1 rfl rfl (by decide) rfl rfl (Nat.le_of_ble_eq_true rfl) dX10_merge_41 ⟨by decide, by decide⟩ ⟨Nat.le_of_ble_eq_true rfl, Nat.le_of_ble_eq_true rfl⟩ rfl rfl (fun v9 σ3 hp9 => ?_)
        obtain ⟨rfl, hs, hme9⟩ := hp9
        have hme := hme.tr hme9
        show J X 0 0 σ3 [(3, .int (nI 1)), (0, .ref (x9 0)), (1, .int (nI (xN x))), (2, .int (nI (xN y)))] [.int (bI (decide (nI 0 = 0)))] 44
        refine j_topi (bI true) (by decide) ?_
        refine j_if_ne (pc := 44) C 49 dX10_merge_44 (by decide) (fun _ => ?_) (fun q => absurd q (by decide))
        refine j_aload_n (pc := 49) C dX10_merge_49 rfl 1 rfl ?_
        refine j_iconst (pc := 50) C (nI 1) dX10_merge_50 (by decide) ?_
        refine j_iload_n (pc := 51) C dX10_merge_51 rfl 2 rfl ?_
        refine j_iload_n (pc := 52) C dX10_merge_52 rfl 3 rfl ?_
        refine j_callV (pc := 53) C [.int (nI 1), .int (nI (xN x)), .int (nI (xN y))] [] (rm0 := ({ frames := 2, cells := 0, slots := 0, locals := 43 } : Room)) (k' := 0) (n' := 0) Q.1 (c_X10_keeps (xl X) (xw X) hs gD (m := 1) (its := xN x) (into := xN y) (by decide) (by omega) (by omega)) mp_X10_keeps wm_1266 hs.2.1.1 rfl rfl (by decide) rfl rfl (Nat.le_of_ble_eq_true rfl) dX10_merge_53 ⟨by decide, by decide⟩ ⟨Nat.le_of_ble_eq_true rfl, Nat.le_of_ble_eq_true rfl⟩ rfl rfl (fun v9 σ4 hp9 => ?_)
        obtain ⟨rfl, hs, hme9⟩ := hp9
        have hme := hme.tr hme9
        show J X 0 0 σ4 [(3, .int (nI 1)), (0, .ref (x9 0)), (1, .int (nI (xN x))), (2, .int (nI (xN y)))] [] 56
        refine j_aload_n (pc := 56) C dX10_merge_56 rfl 1 rfl ?_
        refine j_iload_n (pc := 57) C dX10_merge_57 rfl 2 rfl ?_
        refine j_iload_n (pc := 58) C dX10_merge_58 rfl 3 rfl ?_
        refine j_sipush (pc := 59) C (nI 255) dX10_merge_59 (by decide) ?_
        have hK : ∀ f i j, ¬ (f = 832 ∧ i = 27) → ¬ (f = 704 ∧ i = 38) → ¬ (f = 704 ∧ i = 39) → ¬ (f = 768 ∧ i = 430) → (keeps9 S 1 (xN x) (xN y)).1 f i j = S.1 f i j := fun f i j h1 h2 h3 h4 => keeps9_N S 1 (xN x) (xN y) h1 h2 h3 h4 j
        have hq : ∀ w, w < nW S → ol (keeps9 S 1 (xN x) (xN y)) w < 16 ∧ cw (keeps9 S 1 (xN x) (xN y)) w < 8 ∧ hd9 (keeps9 S 1 (xN x) (xN y)) w ≤ 1 := fun w h9 => by
          obtain ⟨q1, q2, -, q4, -⟩ := hw.2.2.2.1.2.2 w h9
          exact ⟨by show (keeps9 S 1 (xN x) (xN y)).1 704 31 w < 16; rw [hK 704 31 w (by decide) (by decide) (by decide) (by decide)]; exact Nat.lt_of_lt_of_le q1 gL, by show (keeps9 S 1 (xN x) (xN y)).1 704 32 w < 8; rw [hK 704 32 w (by decide) (by decide) (by decide) (by decide)]; exact q2, by show (keeps9 S 1 (xN x) (xN y)).1 832 25 w ≤ 1; rw [hK 832 25 w (by decide) (by decide) (by decide) (by decide)]; exact q4⟩
        refine j_callV (pc := 62) C [.int (nI (xN x)), .int (nI (xN y)), .int (nI 255)] [] (rm0 := ({ frames := 2, cells := 0, slots := 0, locals := 43 } : Room)) (k' := 0) (n' := 0) Q.1 (c_X10_moves (xl X) (xw X) hs (l := xN x) (into := xN y) (cells := 255) (n := nW S) (hK 666 0 _ (by decide) (by decide) (by decide) (by decide)) gW (by show (keeps9 S 1 (xN x) (xN y)).1 672 0 0 ≤ 31; rw [hK 672 0 0 (by decide) (by decide) (by decide) (by decide)]; exact gD) hq (by omega) (by omega) (by decide)) mp_X10_moves wm_1270 hs.2.1.1 rfl rfl (by decide) rfl rfl (Nat.le_of_ble_eq_true rfl) dX10_merge_62 ⟨by decide, by decide⟩ ⟨Nat.le_of_ble_eq_true rfl, Nat.le_of_ble_eq_true rfl⟩ rfl rfl (fun v9 σ5 hp9 => ?_)
        obtain ⟨rfl, hs, hme9⟩ := hp9
        have hme := hme.tr hme9
        show J X 0 0 σ5 [(3, .int (nI 1)), (0, .ref (x9 0)), (1, .int (nI (xN x))), (2, .int (nI (xN y)))] [.int (nI (moveN (keeps9 S 1 (xN x) (xN y)) (xN x) 255 (nW S)))] 65
        refine j_topi (nI (moveN S (xN x) 255 (nW S))) (congrArg nI (moveN_eq (S := S) _ _ _ (fun w => (hK 832 25 _ (by decide) (by decide) (by decide) (by decide))) (fun w => (hK 704 31 _ (by decide) (by decide) (by decide) (by decide))) (fun w => (hK 704 32 _ (by decide) (by decide) (by decide) (by decide))))) ?_
        refine j_istore (pc := 65) C [(4, .int (nI (moveN S (xN x) 255 (nW S)))), (3, .int (nI 1)), (0, .ref (x9 0)), (1, .int (nI (xN x))), (2, .int (nI (xN y)))] dX10_merge_65 (by decide) rfl ?_
        refine j_iconst (pc := 67) C (nI 0) dX10_merge_67 (by decide) ?_
        refine j_istore (pc := 68) C [(5, .int (nI 0)), (4, .int (nI (moveN S (xN x) 255 (nW S)))), (3, .int (nI 1)), (0, .ref (x9 0)), (1, .int (nI (xN x))), (2, .int (nI (xN y)))] dX10_merge_68 (by decide) rfl ?_
        have hX : ∀ j r, (moveW (keeps9 S 1 (xN x) (xN y)) (xN x) (xN y) 255 (nW S)).2 768 412 j = some r → okR r := fun j r hr => okS.R hw.1 (hw.2.2.1.2.2.2.2.1 j r (by rw [← hr, moveW_R]; exact (keeps9_X S 1 (xN x) (xN y) (by decide) j).symm))
        have loop : ∀ (f : Nat) (c : Nat) (σ9 : HS), (c ≤ 8) → (8 < c + f) → RS (mergeX (moveW (keeps9 S 1 (xN x) (xN y)) (xN x) (xN y) 255 (nW S)) (xN x) (xN y) c) x9 (nI 0) σ9 → ME σ σ9 → J X 0 0 σ9 [(5, .int (nI c)), (4, .int (nI (moveN S (xN x) 255 (nW S)))), (0, .ref (x9 0)), (1, .int (nI (xN x))), (2, .int (nI (xN y)))] [] 70 := by
          clear hs hme
          intro f
          induction f with
          | zero => intro c σ9 h1 h2; exact absurd h2 (by omega)
          | succ f ih =>
            intro c σ9 h1 h2 hs hme
            refine j_iload (pc := 70) C dX10_merge_70 0 rfl ?_
            refine j_bipush (pc := 72) C (nI 8) dX10_merge_72 (by decide) ?_
            refine jn_icmp_ge (pc := 74) C 150 (a := c) (b := 8) (by omega) (by omega) dX10_merge_74 (by decide) (fun d1 => ?_) (fun d1 => ?_)
            · have e : c = 8 := Nat.le_antisymm h1 d1
              subst e
              refine j_aload_n (pc := 150) C dX10_merge_150 rfl 2 rfl ?_
              refine j_getA (pc := 151) C fp_X10_26 hs.2.1.1 rfl (f := 649) rfl (13, 9) (x9 9) ((hs.2.1.2 9 (by decide) (by decide)).1) ((hs.2.1.2 9 (by decide) (by decide)).2.1) dX10_merge_151 ?_
              refine j_iload_n (pc := 154) C dX10_merge_154 rfl 3 rfl ?_
              refine j_iconst (pc := 155) C (nI 0) dX10_merge_155 (by decide) ?_
              refine j_zast (pc := 156) C (p := xN x) (M := 16) ((hs.2.1.2 9 (by decide) (by decide)).2.1) rfl ((hs.2.1.2 9 (by decide) (by decide)).2.2) (by omega) (by decide) (nI_nar (by omega)) dX10_merge_156 ?_
              have hs := hs.wI 832 9 (xN x) 0 (by decide) (by decide)
              have hme := hme.sI (f := 832) (i := 9) (j := (xN x)) (v := (nI 0)) rfl
              generalize sI σ9 832 9 (xN x) (nI 0) = σ6 at hs hme ⊢
              refine j_aload_n (pc := 157) C dX10_merge_157 rfl 2 rfl ?_
              refine j_dup (pc := 158) C dX10_merge_158 rfl ?_
              refine j_getI (pc := 159) C fp_X10_193 hs.2.1.1 rfl (f := 672) rfl dX10_merge_159 ?_
              refine j_topi (nI (nD S)) (((((hs.rdI 672 0 0 (by decide) (by decide)).trans (congrArg (nI) (zN_ne (S := (mergeX (moveW (keeps9 S 1 (xN x) (xN y)) (xN x) (xN y) 255 (nW S)) (xN x) (xN y) 8)) (f := 832) (i := 9) (j := (xN x)) (v := 0) (f' := 672) (i' := 0) (j' := 0) (fun e => absurd e.1 (by decide))))).trans (congrArg (nI) (congrFun (congrFun (congrFun (mergeX_N (moveW (keeps9 S 1 (xN x) (xN y)) (xN x) (xN y) 255 (nW S)) (xN x) (xN y) 8) 672) 0) 0))).trans (congrArg (nI) (moveW_N (keeps9 S 1 (xN x) (xN y)) (xN x) (xN y) 255 (by decide) (by decide) 0 (nW S)))).trans (congrArg (nI) (keeps9_N S 1 (xN x) (xN y) (by decide) (by decide) (by decide) (by decide) 0))) ?_
              refine j_iconst (pc := 162) C (nI 1) dX10_merge_162 (by decide) ?_
              refine j_iadd (pc := 163) C dX10_merge_163 ?_
              refine j_topi (nI (nD S + 1)) (nI_add (nD S) 1) ?_
              refine j_putI (pc := 164) C fp_X10_193 hs.2.1.1 rfl rfl (Or.inl rfl) rfl (by decide) (f := 672) rfl dX10_merge_164 ?_
              have hs := hs.wI 672 0 0 (nD S + 1) (by decide) (by decide)
              have hme := hme.sI (f := 672) (i := 0) (j := 0) (v := (nI (nD S + 1))) rfl
              generalize sI σ6 672 0 0 (nI (nD S + 1)) = σ7 at hs hme ⊢
              refine j_iload (pc := 167) C dX10_merge_167 1 rfl ?_
              exact j_ireturn (pc := 169) C Q dX10_merge_169 (Nat.le_of_ble_eq_true rfl) (Nat.le_of_ble_eq_true rfl) (by unfold s_merge; rw [if_neg (by rw [c1k, c2k]; decide), if_neg c3]; exact ⟨rfl, hs, hme⟩)
            · have hn := encO_none (o := (moveW (keeps9 S 1 (xN x) (xN y)) (xN x) (xN y) 255 (nW S)).2 768 412 (8 * xN y + c)) (hX _)
              refine j_bipush (pc := 77) C (nI 8) dX10_merge_77 (by decide) ?_
              refine j_iload_n (pc := 79) C dX10_merge_79 rfl 4 rfl ?_
              refine j_imul (pc := 80) C dX10_merge_80 ?_
              refine j_topi (nI (8 * (xN y))) (pk_mul 8 (xN y)) ?_
              refine j_iload (pc := 81) C dX10_merge_81 0 rfl ?_
              refine j_iadd (pc := 83) C dX10_merge_83 ?_
              refine j_topi (nI (8 * (xN y) + c)) (nI_add (8 * (xN y)) c) ?_
              refine j_istore (pc := 84) C [(6, .int (nI (8 * (xN y) + c))), (5, .int (nI c)), (4, .int (nI (moveN S (xN x) 255 (nW S)))), (0, .ref (x9 0)), (1, .int (nI (xN x))), (2, .int (nI (xN y)))] dX10_merge_84 (by decide) rfl ?_
              refine j_aload_n (pc := 86) C dX10_merge_86 rfl 3 rfl ?_
              refine j_getA (pc := 87) C fp_X10_33 hs.2.1.1 rfl (f := 652) rfl (12, 412) (x9 12) ((hs.2.1.2 12 (by decide) (by decide)).1) ((hs.2.1.2 12 (by decide) (by decide)).2.1) dX10_merge_87 ?_
              refine j_iload (pc := 90) C dX10_merge_90 0 rfl ?_
              refine j_aload_n (pc := 92) C dX10_merge_92 rfl 3 rfl ?_
              refine j_getA (pc := 93) C fp_X10_33 hs.2.1.1 rfl (f := 652) rfl (12, 412) (x9 12) ((hs.2.1.2 12 (by decide) (by decide)).1) ((hs.2.1.2 12 (by decide) (by decide)).2.1) dX10_merge_93 ?_
              refine j_iload (pc := 96) C dX10_merge_96 0 rfl ?_
              refine j_lald (pc := 98) C (p := 8 * (xN y) + c) (M := 128) ((hs.2.1.2 12 (by decide) (by decide)).2.1) rfl ((hs.2.1.2 12 (by decide) (by decide)).2.2) (by omega) (by decide) dX10_merge_98 ?_
              refine j_topl (encO ((moveW (keeps9 S 1 (xN x) (xN y)) (xN x) (xN y) 255 (nW S)).2 768 412 (8 * (xN y) + c))) ((hs.rdX 768 412 (8 * (xN y) + c) (by decide) (by decide)).trans (congrArg (encO) (mergeX_X (moveW (keeps9 S 1 (xN x) (xN y)) (xN x) (xN y) 255 (nW S)) (xN x) (xN y) c (fun d hd => by omega)))) ?_
              refine j_ldc2 (pc := 99) C (v := -1) dX10_merge_99 wm_1040 ?_
              refine j_lcmp (pc := 102) C dX10_merge_102 ?_
              refine jl_if_ne (pc := 103) C 121 dX10_merge_103 (by decide) (fun d2 => ?_) (fun d2 => ?_)
              · have d3 : ¬ ((moveW (keeps9 S 1 (xN x) (xN y)) (xN x) (xN y) 255 (nW S)).2 768 412 (8 * xN y + c)).isNone = true := fun z => d2 (hn.mpr (Option.isNone_iff_eq_none.mp z))
                refine j_aload_n (pc := 121) C dX10_merge_121 rfl 3 rfl ?_
                refine j_getA (pc := 122) C fp_X10_33 hs.2.1.1 rfl (f := 652) rfl (12, 412) (x9 12) ((hs.2.1.2 12 (by decide) (by decide)).1) ((hs.2.1.2 12 (by decide) (by decide)).2.1) dX10_merge_122 ?_
                refine j_iload (pc := 125) C dX10_merge_125 0 rfl ?_
                refine j_lald (pc := 127) C (p := 8 * (xN y) + c) (M := 128) ((hs.2.1.2 12 (by decide) (by decide)).2.1) rfl ((hs.2.1.2 12 (by decide) (by decide)).2.2) (by omega) (by decide) dX10_merge_127 ?_
                refine j_topl (encO ((moveW (keeps9 S 1 (xN x) (xN y)) (xN x) (xN y) 255 (nW S)).2 768 412 (8 * (xN y) + c))) ((hs.rdX 768 412 (8 * (xN y) + c) (by decide) (by decide)).trans (congrArg (encO) (mergeX_X (moveW (keeps9 S 1 (xN x) (xN y)) (xN x) (xN y) 255 (nW S)) (xN x) (xN y) c (fun d hd => by omega)))) ?_
                refine j_last (pc := 128) C (p := 8 * (xN y) + c) (M := 128) ((hs.2.1.2 12 (by decide) (by decide)).2.1) rfl ((hs.2.1.2 12 (by decide) (by decide)).2.2) (by omega) (by decide) dX10_merge_128 ?_
                have hs := hs.wL 768 412 (8 * (xN y) + c) ((moveW (keeps9 S 1 (xN x) (xN y)) (xN x) (xN y) 255 (nW S)).2 768 412 (8 * (xN y) + c)) (encO ((moveW (keeps9 S 1 (xN x) (xN y)) (xN x) (xN y) 255 (nW S)).2 768 412 (8 * (xN y) + c))) (by decide) (by decide) rfl; have hme := hme.sL (f := 768) (i := 412) (j := (8 * (xN y) + c)) (v := (encO ((moveW (keeps9 S 1 (xN x) (xN y)) (xN x) (xN y) 255 (nW S)).2 768 412 (8 * (xN y) + c)))) rfl
                generalize sL σ9 768 412 (8 * (xN y) + c) (encO ((moveW (keeps9 S 1 (xN x) (xN y)) (xN x) (xN y) 255 (nW S)).2 768 412 (8 * (xN y) + c))) = σ8 at hs hme ⊢
                refine j_aload_n (pc := 129) C dX10_merge_129 rfl 3 rfl ?_
                refine j_getA (pc := 130) C fp_X10_33 hs.2.1.1 rfl (f := 652) rfl (12, 412) (x9 12) ((hs.2.1.2 12 (by decide) (by decide)).1) ((hs.2.1.2 12 (by decide) (by decide)).2.1) dX10_merge_130 ?_
                refine j_bipush (pc := 133) C (nI 8) dX10_merge_133 (by decide) ?_
                refine j_iload_n (pc := 135) C dX10_merge_135 rfl 4 rfl ?_
                refine j_imul (pc := 136) C dX10_merge_136 ?_
                refine j_topi (nI (8 * (xN x))) (pk_mul 8 (xN x)) ?_
                refine j_iload (pc := 137) C dX10_merge_137 1 rfl ?_
                refine j_iadd (pc := 139) C dX10_merge_139 ?_
                refine j_topi (nI (8 * (xN x) + c)) (nI_add (8 * (xN x)) c) ?_
                refine j_ldc2 (pc := 140) C (v := -1) dX10_merge_140 wm_1040 ?_
                refine j_last (pc := 143) C (p := 8 * (xN x) + c) (M := 128) ((hs.2.1.2 12 (by decide) (by decide)).2.1) rfl ((hs.2.1.2 12 (by decide) (by decide)).2.2) (by omega) (by decide) dX10_merge_143 ?_
                have hs := hs.wL 768 412 (8 * (xN x) + c) none (-1) (by decide) (by decide) rfl; have hme := hme.sL (f := 768) (i := 412) (j := (8 * (xN x) + c)) (v := (-1)) rfl
                generalize sL σ8 768 412 (8 * (xN x) + c) (-1) = σ9 at hs hme ⊢
                refine j_iinc (pc := 144) C (nI (c + 1)) [(5, .int (nI (c + 1))), (6, .int (nI (8 * (xN y) + c))), (4, .int (nI (moveN S (xN x) 255 (nW S)))), (0, .ref (x9 0)), (1, .int (nI (xN x))), (2, .int (nI (xN y)))] dX10_merge_144 1 rfl (nI_add c 1) (by decide) rfl ?_
                refine j_goto (pc := 147) C 70 dX10_merge_147 (by decide) ?_
                have e9 : mergeX (moveW (keeps9 S 1 (xN x) (xN y)) (xN x) (xN y) 255 (nW S)) (xN x) (xN y) (c + 1) = zR (zR (mergeX (moveW (keeps9 S 1 (xN x) (xN y)) (xN x) (xN y) 255 (nW S)) (xN x) (xN y) c) 768 412 (8 * xN y + c) (((moveW (keeps9 S 1 (xN x) (xN y)) (xN x) (xN y) 255 (nW S)).2 768 412 (8 * xN y + c)))) 768 412 (8 * xN x + c) none := by
                  show zR (zR _ 768 412 _ (if _ then _ else _)) 768 412 _ none = _
                  rw [if_neg d3]
                exact J.to [0, 2, 3, 4, 5] rfl (ih (c + 1) σ9 (by omega) (by omega) (by rw [e9]; exact hs) hme)
              · have d3 : ((moveW (keeps9 S 1 (xN x) (xN y)) (xN x) (xN y) 255 (nW S)).2 768 412 (8 * xN y + c)).isNone = true := by rw [hn.mp d2]; rfl
                refine j_aload_n (pc := 106) C dX10_merge_106 rfl 3 rfl ?_
                refine j_getA (pc := 107) C fp_X10_33 hs.2.1.1 rfl (f := 652) rfl (12, 412) (x9 12) ((hs.2.1.2 12 (by decide) (by decide)).1) ((hs.2.1.2 12 (by decide) (by decide)).2.1) dX10_merge_107 ?_
                refine j_bipush (pc := 110) C (nI 8) dX10_merge_110 (by decide) ?_
                refine j_iload_n (pc := 112) C dX10_merge_112 rfl 4 rfl ?_
                refine j_imul (pc := 113) C dX10_merge_113 ?_
                refine j_topi (nI (8 * (xN x))) (pk_mul 8 (xN x)) ?_
                refine j_iload (pc := 114) C dX10_merge_114 1 rfl ?_
                refine j_iadd (pc := 116) C dX10_merge_116 ?_
                refine j_topi (nI (8 * (xN x) + c)) (nI_add (8 * (xN x)) c) ?_
                refine j_lald (pc := 117) C (p := 8 * (xN x) + c) (M := 128) ((hs.2.1.2 12 (by decide) (by decide)).2.1) rfl ((hs.2.1.2 12 (by decide) (by decide)).2.2) (by omega) (by decide) dX10_merge_117 ?_
                refine j_topl (encO ((moveW (keeps9 S 1 (xN x) (xN y)) (xN x) (xN y) 255 (nW S)).2 768 412 (8 * (xN x) + c))) ((hs.rdX 768 412 (8 * (xN x) + c) (by decide) (by decide)).trans (congrArg (encO) (mergeX_X (moveW (keeps9 S 1 (xN x) (xN y)) (xN x) (xN y) 255 (nW S)) (xN x) (xN y) c (fun d hd => by omega)))) ?_
                refine j_goto (pc := 118) C 128 dX10_merge_118 (by decide) ?_
                refine j_last (pc := 128) C (p := 8 * (xN y) + c) (M := 128) ((hs.2.1.2 12 (by decide) (by decide)).2.1) rfl ((hs.2.1.2 12 (by decide) (by decide)).2.2) (by omega) (by decide) dX10_merge_128 ?_
                have hs := hs.wL 768 412 (8 * (xN y) + c) ((moveW (keeps9 S 1 (xN x) (xN y)) (xN x) (xN y) 255 (nW S)).2 768 412 (8 * (xN x) + c)) (encO ((moveW (keeps9 S 1 (xN x) (xN y)) (xN x) (xN y) 255 (nW S)).2 768 412 (8 * (xN x) + c))) (by decide) (by decide) rfl; have hme := hme.sL (f := 768) (i := 412) (j := (8 * (xN y) + c)) (v := (encO ((moveW (keeps9 S 1 (xN x) (xN y)) (xN x) (xN y) 255 (nW S)).2 768 412 (8 * (xN x) + c)))) rfl
                generalize sL σ9 768 412 (8 * (xN y) + c) (encO ((moveW (keeps9 S 1 (xN x) (xN y)) (xN x) (xN y) 255 (nW S)).2 768 412 (8 * (xN x) + c))) = σ10 at hs hme ⊢
                refine j_aload_n (pc := 129) C dX10_merge_129 rfl 3 rfl ?_
                refine j_getA (pc := 130) C fp_X10_33 hs.2.1.1 rfl (f := 652) rfl (12, 412) (x9 12) ((hs.2.1.2 12 (by decide) (by decide)).1) ((hs.2.1.2 12 (by decide) (by decide)).2.1) dX10_merge_130 ?_
                refine j_bipush (pc := 133) C (nI 8) dX10_merge_133 (by decide) ?_
                refine j_iload_n (pc := 135) C dX10_merge_135 rfl 4 rfl ?_
                refine j_imul (pc := 136) C dX10_merge_136 ?_
                refine j_topi (nI (8 * (xN x))) (pk_mul 8 (xN x)) ?_
                refine j_iload (pc := 137) C dX10_merge_137 1 rfl ?_
                refine j_iadd (pc := 139) C dX10_merge_139 ?_
                refine j_topi (nI (8 * (xN x) + c)) (nI_add (8 * (xN x)) c) ?_
                refine j_ldc2 (pc := 140) C (v := -1) dX10_merge_140 wm_1040 ?_
                refine j_last (pc := 143) C (p := 8 * (xN x) + c) (M := 128) ((hs.2.1.2 12 (by decide) (by decide)).2.1) rfl ((hs.2.1.2 12 (by decide) (by decide)).2.2) (by omega) (by decide) dX10_merge_143 ?_
                have hs := hs.wL 768 412 (8 * (xN x) + c) none (-1) (by decide) (by decide) rfl; have hme := hme.sL (f := 768) (i := 412) (j := (8 * (xN x) + c)) (v := (-1)) rfl
                generalize sL σ10 768 412 (8 * (xN x) + c) (-1) = σ11 at hs hme ⊢
                refine j_iinc (pc := 144) C (nI (c + 1)) [(5, .int (nI (c + 1))), (6, .int (nI (8 * (xN y) + c))), (4, .int (nI (moveN S (xN x) 255 (nW S)))), (0, .ref (x9 0)), (1, .int (nI (xN x))), (2, .int (nI (xN y)))] dX10_merge_144 1 rfl (nI_add c 1) (by decide) rfl ?_
                refine j_goto (pc := 147) C 70 dX10_merge_147 (by decide) ?_
                have e9 : mergeX (moveW (keeps9 S 1 (xN x) (xN y)) (xN x) (xN y) 255 (nW S)) (xN x) (xN y) (c + 1) = zR (zR (mergeX (moveW (keeps9 S 1 (xN x) (xN y)) (xN x) (xN y) 255 (nW S)) (xN x) (xN y) c) 768 412 (8 * xN y + c) ((moveW (keeps9 S 1 (xN x) (xN y)) (xN x) (xN y) 255 (nW S)).2 768 412 (8 * xN x + c))) 768 412 (8 * xN x + c) none := by
                  show zR (zR _ 768 412 _ (if _ then _ else _)) 768 412 _ none = _
                  rw [if_pos d3]
                exact J.to [0, 2, 3, 4, 5] rfl (ih (c + 1) σ11 (by omega) (by omega) (by rw [e9]; exact hs) hme)
        exact J.to [0, 1, 3, 4, 5] rfl (loop 9 0 _ (Nat.zero_le _) (by omega) hs hme)
      · refine j_iconst (pc := 36) C (nI 2) dX10_merge_36 (by decide) ?_
        refine j_goto (pc := 37) C 41 dX10_merge_37 (by decide) ?_
        refine j_callV (pc := 41) C [.int (nI 2)] [] (rm0 := ({ frames := 2, cells := 0, slots := 0, locals := 43 } : Room)) (k' := 0) (n' := 0) Q.1 (c_X10_holds (xl X) (xw X) hs (nI 2)) mp_X10_holds wm_1156 hs.2.1.1 rfl rfl (by decide) rfl rfl (Nat.le_of_ble_eq_true rfl) dX10_merge_41 ⟨by decide, by decide⟩ ⟨Nat.le_of_ble_eq_true rfl, Nat.le_of_ble_eq_true rfl⟩ rfl rfl (fun v9 σ12 hp9 => ?_)
        obtain ⟨rfl, hs, hme9⟩ := hp9
        have hme := hme.tr hme9
        show J X 0 0 σ12 [(3, .int (nI 1)), (0, .ref (x9 0)), (1, .int (nI (xN x))), (2, .int (nI (xN y)))] [.int (bI (decide (nI 2 = 0)))] 44
        refine j_topi (bI false) (by decide) ?_
        refine j_if_ne (pc := 44) C 49 dX10_merge_44 (by decide) (fun q => absurd q (by decide)) (fun _ => ?_)
        refine j_iconst (pc := 47) C (nI 0) dX10_merge_47 (by decide) ?_
        exact j_ireturn (pc := 48) C Q dX10_merge_48 (Nat.le_of_ble_eq_true rfl) (Nat.le_of_ble_eq_true rfl) (by unfold s_merge; rw [if_neg (by rw [c1k, c2k]; decide), if_pos c3]; exact ⟨rfl, hs, hme⟩)
set_option maxHeartbeats 4000000 in
set_option maxRecDepth 100000 in
theorem c_X10_split (L9 : Launch) (w9 : Wd) {σ : HS} {S : SP} {x9 : Nat → Nat} {k9 : Int32} (hs : RS S x9 k9 σ) (hw : WF S) (x y : Int32) : MJ L9 w9 yX10_split cX10_split 6 (some .int) ({ frames := 2, cells := 0, slots := 0, locals := 43 } : Room) [.ref (x9 0), .int x, .int y] σ (fun a9 σ' => a9 = some (.int (s_split S x y).2.1) ∧ RS (s_split S x y).2.2 x9 (nI (s_split S x y).1) σ' ∧ ME σ σ') := by
  refine MJ.of (by decide +kernel) (Nat.le_of_ble_eq_true rfl) (fun X hX1 hX2 C Q hinit => ?_)
  subst hX1; subst hX2
  show J X 0 0 σ [(0, .ref (x9 0)), (1, .int x), (2, .int y)] [] 0
  have hme : ME σ σ := ME.rf
  have gL := hw.2.2.1.1
  have gW := hw.2.2.2.1.1
  have gD := hw.2.2.2.2.1
  refine j_aload_n (pc := 0) C dX10_split_0 rfl 0 rfl ?_
  refine j_iload_n (pc := 1) C dX10_split_1 rfl 1 rfl ?_
  refine j_callV (pc := 2) C [.int x] [] (rm0 := ({ frames := 2, cells := 0, slots := 0, locals := 43 } : Room)) (k' := 0) (n' := 0) Q.1 (c_X10_isLexeme (xl X) (xw X) hs hw x) mp_X10_isLexeme wm_1203 hs.2.1.1 rfl rfl (by decide) rfl rfl (Nat.le_of_ble_eq_true rfl) dX10_split_2 ⟨by decide, by decide⟩ ⟨Nat.le_of_ble_eq_true rfl, Nat.le_of_ble_eq_true rfl⟩ rfl rfl (det1 ?_)
  refine j_istore_n (pc := 5) C [(3, .int (bI (isLex S x))), (0, .ref (x9 0)), (1, .int x), (2, .int y)] dX10_split_5 rfl (by decide) rfl ?_
  refine j_aload_n (pc := 6) C dX10_split_6 rfl 1 rfl ?_
  refine j_iload_n (pc := 7) C dX10_split_7 rfl 0 rfl ?_
  refine jb_if_ne (pc := 8) C 15 (b := isLex S x) dX10_split_8 (by decide) (fun c1 => ?_) (fun c1 => ?_)
  · have c1k := c1
    have hlx : inI x (nL S) = true ∧ th S (xN x) = 1 := by
      unfold isLex at c1
      rw [Bool.and_eq_true, decide_eq_true_iff] at c1
      exact c1
    obtain ⟨hx1, hx2⟩ := inI_t hlx.1
    rw [hx2]
    refine j_iload_n (pc := 15) C dX10_split_15 rfl 3 rfl ?_
    refine j_iconst (pc := 16) C (nI 1) dX10_split_16 (by decide) ?_
    refine j_sipush (pc := 17) C (nI 255) dX10_split_17 (by decide) ?_
    refine j_callS (pc := 20) C [.int y, .int (nI 1), .int (nI 255)] [.ref (x9 0)] (rm0 := ({ frames := 2, cells := 0, slots := 0, locals := 43 } : Room)) (k' := 0) (n' := 0) Q.1 (c_X10_isIn (xl X) (xw X) _ _ _ _ (in_255 (y := y))) mp_X10_isIn wm_1153 rfl rfl (Nat.le_of_ble_eq_true rfl) dX10_split_20 ⟨by decide, by decide⟩ ⟨Nat.le_of_ble_eq_true rfl, Nat.le_of_ble_eq_true rfl⟩ rfl rfl (det1 ?_)
    refine jb_if_ne (pc := 23) C 30 (b := (inI y 256 && decide (xN y ≠ 0))) dX10_split_23 (by decide) (fun c2 => ?_) (fun c2 => ?_)
    · have hy9 : inI y 256 = true := by
        rw [Bool.and_eq_true] at c2; exact c2.1
      have c2k := c2
      obtain ⟨hy1, hy2⟩ := inI_t hy9
      rw [hy2]
      refine j_aload_n (pc := 30) C dX10_split_30 rfl 1 rfl ?_
      refine j_getI (pc := 31) C fp_X10_130 hs.2.1.1 rfl (f := 650) rfl dX10_split_31 ?_
      refine j_topi (nI (nL S)) (hs.rdI 650 0 0 (by decide) (by decide)) ?_
      refine j_bipush (pc := 34) C (nI 16) dX10_split_34 (by decide) ?_
      refine jn_icmp_ne (pc := 36) C 43 (a := nL S) (b := 16) (by omega) (by omega) dX10_split_36 (by decide) (fun c3 => ?_) (fun c3 => ?_)
      · refine j_iconst (pc := 43) C (nI 0) dX10_split_43 (by decide) ?_
        refine j_callV (pc := 44) C [.int (nI 0)] [] (rm0 := ({ frames := 2, cells := 0, slots := 0, locals := 43 } : Room)) (k' := 0) (n' := 0) Q.1 (c_X10_holds (xl X) (xw X) hs (nI 0)) mp_X10_holds wm_1156 hs.2.1.1 rfl rfl (by decide) rfl rfl (Nat.le_of_ble_eq_true rfl) dX10_split_44 ⟨by decide, by decide⟩ ⟨Nat.le_of_ble_eq_true rfl, Nat.le_of_ble_eq_true rfl⟩ rfl rfl (fun v9 σ1 hp9 => ?_)
        obtain ⟨rfl, hs, hme9⟩ := hp9
        have hme := hme.tr hme9
        show J X 0 0 σ1 [(3, .int (bI (isLex S (nI (xN x))))), (0, .ref (x9 0)), (1, .int (nI (xN x))), (2, .int (nI (xN y)))] [.int (bI (decide (nI 0 = 0)))] 47
        refine j_topi (bI true) (by decide) ?_
        refine j_if_ne (pc := 47) C 52 dX10_split_47 (by decide) (fun _ => ?_) (fun q => absurd q (by decide))
        refine j_aload_n (pc := 52) C dX10_split_52 rfl 1 rfl ?_
        refine j_aload_n (pc := 53) C dX10_split_53 rfl 1 rfl ?_
        refine j_getA (pc := 54) C fp_X10_22 hs.2.1.1 rfl (f := 648) rfl (12, 408) (x9 8) ((hs.2.1.2 8 (by decide) (by decide)).1) ((hs.2.1.2 8 (by decide) (by decide)).2.1) dX10_split_54 ?_
        refine j_iload_n (pc := 57) C dX10_split_57 rfl 2 rfl ?_
        refine j_lald (pc := 58) C (p := xN x) (M := 16) ((hs.2.1.2 8 (by decide) (by decide)).2.1) rfl ((hs.2.1.2 8 (by decide) (by decide)).2.2) (by omega) (by decide) dX10_split_58 ?_
        refine j_topl (enc4 (fo S (xN x))) (hs.rdL 768 408 (xN x) (by decide) (by decide)) ?_
        refine j_callV (pc := 59) C [.long (enc4 (fo S (xN x)))] [] (rm0 := ({ frames := 2, cells := 0, slots := 0, locals := 43 } : Room)) (k' := 0) (n' := 0) Q.1 (c_X10_makes (xl X) (xw X) hs (fo S (xN x)) (show nL S < 16 by omega)) mp_X10_makes wm_1195 hs.2.1.1 rfl rfl (by decide) rfl rfl (Nat.le_of_ble_eq_true rfl) dX10_split_59 ⟨by decide, by decide⟩ ⟨Nat.le_of_ble_eq_true rfl, Nat.le_of_ble_eq_true rfl⟩ rfl rfl (fun v9 σ2 hp9 => ?_)
        obtain ⟨rfl, hs, hme9⟩ := hp9
        have hme := hme.tr hme9
        show J X 0 0 σ2 [(3, .int (bI (isLex S (nI (xN x))))), (0, .ref (x9 0)), (1, .int (nI (xN x))), (2, .int (nI (xN y)))] [.int (nI (nL S))] 62
        refine j_istore (pc := 62) C [(4, .int (nI (nL S))), (3, .int (bI (isLex S (nI (xN x))))), (0, .ref (x9 0)), (1, .int (nI (xN x))), (2, .int (nI (xN y)))] dX10_split_62 (by decide) rfl ?_
        refine j_aload_n (pc := 64) C dX10_split_64 rfl 2 rfl ?_
        refine j_iconst (pc := 65) C (nI 0) dX10_split_65 (by decide) ?_
        refine j_iload (pc := 66) C dX10_split_66 0 rfl ?_
        refine j_iload_n (pc := 68) C dX10_split_68 rfl 3 rfl ?_
        refine j_callV (pc := 69) C [.int (nI 0), .int (nI (nL S)), .int (nI (xN x))] [] (rm0 := ({ frames := 2, cells := 0, slots := 0, locals := 43 } : Room)) (k' := 0) (n' := 0) Q.1 (c_X10_keeps (xl X) (xw X) hs (show nD (makes9 S (fo S (xN x))) ≤ 31 from gD) (m := 0) (its := nL S) (into := xN x) (by decide) (by omega) (by omega)) mp_X10_keeps wm_1266 hs.2.1.1 rfl rfl (by decide) rfl rfl (Nat.le_of_ble_eq_true rfl) dX10_split_69 ⟨by decide, by decide⟩ ⟨Nat.le_of_ble_eq_true rfl, Nat.le_of_ble_eq_true rfl⟩ rfl rfl (fun v9 σ3 hp9 => ?_)
        obtain ⟨rfl, hs, hme9⟩ := hp9
        have hme := hme.tr hme9
        show J X 0 0 σ3 [(4, .int (nI (nL S))), (3, .int (bI (isLex S (nI (xN x))))), (0, .ref (x9 0)), (1, .int (nI (xN x))), (2, .int (nI (xN y)))] [] 72
        refine j_aload_n (pc := 72) C dX10_split_72 rfl 2 rfl ?_
        refine j_iload_n (pc := 73) C dX10_split_73 rfl 3 rfl ?_
        refine j_iload (pc := 74) C dX10_split_74 0 rfl ?_
        refine j_iload_n (pc := 76) C dX10_split_76 rfl 4 rfl ?_
        have hK : ∀ f i j, ¬ (f = 832 ∧ i = 27) → ¬ (f = 704 ∧ i = 38) → ¬ (f = 704 ∧ i = 39) → ¬ (f = 768 ∧ i = 430) → (keeps9 (makes9 S (fo S (xN x))) 0 (nL S) (xN x)).1 f i j = (makes9 S (fo S (xN x))).1 f i j := fun f i j h1 h2 h3 h4 => keeps9_N (makes9 S (fo S (xN x))) 0 (nL S) (xN x) h1 h2 h3 h4 j
        have hq : ∀ w, w < nW S → ol (keeps9 (makes9 S (fo S (xN x))) 0 (nL S) (xN x)) w < 16 ∧ cw (keeps9 (makes9 S (fo S (xN x))) 0 (nL S) (xN x)) w < 8 ∧ hd9 (keeps9 (makes9 S (fo S (xN x))) 0 (nL S) (xN x)) w ≤ 1 := fun w h9 => by
          obtain ⟨q1, q2, -, q4, -⟩ := hw.2.2.2.1.2.2 w h9
          exact ⟨by show (keeps9 (makes9 S (fo S (xN x))) 0 (nL S) (xN x)).1 704 31 w < 16; rw [hK 704 31 w (by decide) (by decide) (by decide) (by decide)]; exact Nat.lt_of_lt_of_le q1 gL, by show (keeps9 (makes9 S (fo S (xN x))) 0 (nL S) (xN x)).1 704 32 w < 8; rw [hK 704 32 w (by decide) (by decide) (by decide) (by decide)]; exact q2, by show (keeps9 (makes9 S (fo S (xN x))) 0 (nL S) (xN x)).1 832 25 w ≤ 1; rw [hK 832 25 w (by decide) (by decide) (by decide) (by decide)]; exact q4⟩
        refine j_callV (pc := 77) C [.int (nI (xN x)), .int (nI (nL S)), .int (nI (xN y))] [] (rm0 := ({ frames := 2, cells := 0, slots := 0, locals := 43 } : Room)) (k' := 0) (n' := 0) Q.1 (c_X10_moves (xl X) (xw X) hs (l := xN x) (into := nL S) (cells := xN y) (n := nW S) (hK 666 0 _ (by decide) (by decide) (by decide) (by decide)) gW (by show (keeps9 (makes9 S (fo S (xN x))) 0 (nL S) (xN x)).1 672 0 0 ≤ 31; rw [hK 672 0 0 (by decide) (by decide) (by decide) (by decide)]; exact gD) hq (by omega) (by omega) (by omega)) mp_X10_moves wm_1270 hs.2.1.1 rfl rfl (by decide) rfl rfl (Nat.le_of_ble_eq_true rfl) dX10_split_77 ⟨by decide, by decide⟩ ⟨Nat.le_of_ble_eq_true rfl, Nat.le_of_ble_eq_true rfl⟩ rfl rfl (fun v9 σ4 hp9 => ?_)
        obtain ⟨rfl, hs, hme9⟩ := hp9
        have hme := hme.tr hme9
        show J X 0 0 σ4 [(4, .int (nI (nL S))), (3, .int (bI (isLex S (nI (xN x))))), (0, .ref (x9 0)), (1, .int (nI (xN x))), (2, .int (nI (xN y)))] [.int (nI (moveN (keeps9 (makes9 S (fo S (xN x))) 0 (nL S) (xN x)) (xN x) (xN y) (nW S)))] 80
        refine j_pop (pc := 80) C dX10_split_80 rfl ?_
        refine j_iconst (pc := 81) C (nI 0) dX10_split_81 (by decide) ?_
        refine j_istore (pc := 82) C [(5, .int (nI 0)), (4, .int (nI (nL S))), (3, .int (bI (isLex S (nI (xN x))))), (0, .ref (x9 0)), (1, .int (nI (xN x))), (2, .int (nI (xN y)))] dX10_split_82 (by decide) rfl ?_
        have loop : ∀ (f : Nat) (c : Nat) (σ9 : HS), (c ≤ 8) → (8 < c + f) → RS (splitX (moveW (keeps9 (makes9 S (fo S (xN x))) 0 (nL S) (xN x)) (xN x) (nL S) (xN y) (nW S)) (xN x) (nL S) (xN y) c) x9 (nI 0) σ9 → ME σ σ9 → J X 0 0 σ9 [(5, .int (nI c)), (4, .int (nI (nL S))), (0, .ref (x9 0)), (1, .int (nI (xN x))), (2, .int (nI (xN y)))] [] 84 := by
          clear hs hme
          intro f
          induction f with
          | zero => intro c σ9 h1 h2; exact absurd h2 (by omega)
          | succ f ih =>
            intro c σ9 h1 h2 hs hme
            refine j_iload (pc := 84) C dX10_split_84 0 rfl ?_
            refine j_bipush (pc := 86) C (nI 8) dX10_split_86 (by decide) ?_
            refine jn_icmp_ge (pc := 88) C 147 (a := c) (b := 8) (by omega) (by omega) dX10_split_88 (by decide) (fun d1 => ?_) (fun d1 => ?_)
            · have e : c = 8 := Nat.le_antisymm h1 d1
              subst e
              refine j_aload_n (pc := 147) C dX10_split_147 rfl 2 rfl ?_
              refine j_dup (pc := 148) C dX10_split_148 rfl ?_
              refine j_getI (pc := 149) C fp_X10_193 hs.2.1.1 rfl (f := 672) rfl dX10_split_149 ?_
              refine j_topi (nI (nD S)) ((((hs.rdI 672 0 0 (by decide) (by decide)).trans (congrArg (nI) (congrFun (congrFun (congrFun (splitX_N (moveW (keeps9 (makes9 S (fo S (xN x))) 0 (nL S) (xN x)) (xN x) (nL S) (xN y) (nW S)) (xN x) (nL S) (xN y) 8) 672) 0) 0))).trans (congrArg (nI) (moveW_N (keeps9 (makes9 S (fo S (xN x))) 0 (nL S) (xN x)) (xN x) (nL S) (xN y) (by decide) (by decide) 0 (nW S)))).trans (congrArg (nI) (keeps9_N (makes9 S (fo S (xN x))) 0 (nL S) (xN x) (by decide) (by decide) (by decide) (by decide) 0))) ?_
              refine j_iconst (pc := 152) C (nI 1) dX10_split_152 (by decide) ?_
              refine j_iadd (pc := 153) C dX10_split_153 ?_
              refine j_topi (nI (nD S + 1)) (nI_add (nD S) 1) ?_
              refine j_putI (pc := 154) C fp_X10_193 hs.2.1.1 rfl rfl (Or.inl rfl) rfl (by decide) (f := 672) rfl dX10_split_154 ?_
              have hs := hs.wI 672 0 0 (nD S + 1) (by decide) (by decide)
              have hme := hme.sI (f := 672) (i := 0) (j := 0) (v := (nI (nD S + 1))) rfl
              generalize sI σ9 672 0 0 (nI (nD S + 1)) = σ5 at hs hme ⊢
              refine j_iload (pc := 157) C dX10_split_157 1 rfl ?_
              exact j_ireturn (pc := 159) C Q dX10_split_159 (Nat.le_of_ble_eq_true rfl) (Nat.le_of_ble_eq_true rfl) (by unfold s_split; rw [if_neg (by rw [c1k]; decide), if_neg (by rw [c2k]; decide), if_neg c3]; exact ⟨rfl, hs, hme⟩)
            · refine j_iload_n (pc := 91) C dX10_split_91 rfl 4 rfl ?_
              refine j_iload (pc := 92) C dX10_split_92 0 rfl ?_
              refine j_ishr (pc := 94) C dX10_split_94 ?_
              refine j_iconst (pc := 95) C (nI 1) dX10_split_95 (by decide) ?_
              refine j_iand (pc := 96) C dX10_split_96 ?_
              refine j_topi (nI (((xN y).testBit c).toNat)) (bitI (by omega) (by omega)) ?_
              refine j_iconst (pc := 97) C (nI 1) dX10_split_97 (by decide) ?_
              refine jn_icmp_ne (pc := 98) C 141 (a := ((xN y).testBit c).toNat) (b := 1) (by first | exact bool_lt _ | omega) (by first | exact bool_lt _ | omega) dX10_split_98 (by decide) (fun d2 => ?_) (fun d2 => ?_)
              · have e9 : splitX (moveW (keeps9 (makes9 S (fo S (xN x))) 0 (nL S) (xN x)) (xN x) (nL S) (xN y) (nW S)) (xN x) (nL S) (xN y) (c + 1) = splitX (moveW (keeps9 (makes9 S (fo S (xN x))) 0 (nL S) (xN x)) (xN x) (nL S) (xN y) (nW S)) (xN x) (nL S) (xN y) c := if_neg (fun z => d2 (bool1.mpr z))
                refine j_iinc (pc := 141) C (nI (c + 1)) [(5, .int (nI (c + 1))), (4, .int (nI (nL S))), (0, .ref (x9 0)), (1, .int (nI (xN x))), (2, .int (nI (xN y)))] dX10_split_141 0 rfl (nI_add c 1) (by decide) rfl ?_
                refine j_goto (pc := 144) C 84 dX10_split_144 (by decide) ?_
                exact J.to [0, 1, 2, 3, 4] rfl (ih (c + 1) σ9 (by omega) (by omega) (by rw [e9]; exact hs) hme)
              · refine j_aload_n (pc := 101) C dX10_split_101 rfl 2 rfl ?_
                refine j_getA (pc := 102) C fp_X10_33 hs.2.1.1 rfl (f := 652) rfl (12, 412) (x9 12) ((hs.2.1.2 12 (by decide) (by decide)).1) ((hs.2.1.2 12 (by decide) (by decide)).2.1) dX10_split_102 ?_
                refine j_bipush (pc := 105) C (nI 8) dX10_split_105 (by decide) ?_
                refine j_iload (pc := 107) C dX10_split_107 1 rfl ?_
                refine j_imul (pc := 109) C dX10_split_109 ?_
                refine j_topi (nI (8 * (nL S))) (pk_mul 8 (nL S)) ?_
                refine j_iload (pc := 110) C dX10_split_110 0 rfl ?_
                refine j_iadd (pc := 112) C dX10_split_112 ?_
                refine j_topi (nI (8 * (nL S) + c)) (nI_add (8 * (nL S)) c) ?_
                refine j_aload_n (pc := 113) C dX10_split_113 rfl 2 rfl ?_
                refine j_getA (pc := 114) C fp_X10_33 hs.2.1.1 rfl (f := 652) rfl (12, 412) (x9 12) ((hs.2.1.2 12 (by decide) (by decide)).1) ((hs.2.1.2 12 (by decide) (by decide)).2.1) dX10_split_114 ?_
                refine j_bipush (pc := 117) C (nI 8) dX10_split_117 (by decide) ?_
                refine j_iload_n (pc := 119) C dX10_split_119 rfl 3 rfl ?_
                refine j_imul (pc := 120) C dX10_split_120 ?_
                refine j_topi (nI (8 * (xN x))) (pk_mul 8 (xN x)) ?_
                refine j_iload (pc := 121) C dX10_split_121 0 rfl ?_
                refine j_iadd (pc := 123) C dX10_split_123 ?_
                refine j_topi (nI (8 * (xN x) + c)) (nI_add (8 * (xN x)) c) ?_
                refine j_lald (pc := 124) C (p := 8 * (xN x) + c) (M := 128) ((hs.2.1.2 12 (by decide) (by decide)).2.1) rfl ((hs.2.1.2 12 (by decide) (by decide)).2.2) (by omega) (by decide) dX10_split_124 ?_
                refine j_topl (encO ((moveW (keeps9 (makes9 S (fo S (xN x))) 0 (nL S) (xN x)) (xN x) (nL S) (xN y) (nW S)).2 768 412 (8 * (xN x) + c))) ((hs.rdX 768 412 (8 * (xN x) + c) (by decide) (by decide)).trans (congrArg (encO) (splitX_X (moveW (keeps9 (makes9 S (fo S (xN x))) 0 (nL S) (xN x)) (xN x) (nL S) (xN y) (nW S)) (xN x) (nL S) (xN y) c (fun d hd => by omega)))) ?_
                refine j_last (pc := 125) C (p := 8 * (nL S) + c) (M := 128) ((hs.2.1.2 12 (by decide) (by decide)).2.1) rfl ((hs.2.1.2 12 (by decide) (by decide)).2.2) (by omega) (by decide) dX10_split_125 ?_
                have hs := hs.wL 768 412 (8 * (nL S) + c) ((moveW (keeps9 (makes9 S (fo S (xN x))) 0 (nL S) (xN x)) (xN x) (nL S) (xN y) (nW S)).2 768 412 (8 * (xN x) + c)) (encO ((moveW (keeps9 (makes9 S (fo S (xN x))) 0 (nL S) (xN x)) (xN x) (nL S) (xN y) (nW S)).2 768 412 (8 * (xN x) + c))) (by decide) (by decide) rfl; have hme := hme.sL (f := 768) (i := 412) (j := (8 * (nL S) + c)) (v := (encO ((moveW (keeps9 (makes9 S (fo S (xN x))) 0 (nL S) (xN x)) (xN x) (nL S) (xN y) (nW S)).2 768 412 (8 * (xN x) + c)))) rfl
                generalize sL σ9 768 412 (8 * (nL S) + c) (encO ((moveW (keeps9 (makes9 S (fo S (xN x))) 0 (nL S) (xN x)) (xN x) (nL S) (xN y) (nW S)).2 768 412 (8 * (xN x) + c))) = σ6 at hs hme ⊢
                refine j_aload_n (pc := 126) C dX10_split_126 rfl 2 rfl ?_
                refine j_getA (pc := 127) C fp_X10_33 hs.2.1.1 rfl (f := 652) rfl (12, 412) (x9 12) ((hs.2.1.2 12 (by decide) (by decide)).1) ((hs.2.1.2 12 (by decide) (by decide)).2.1) dX10_split_127 ?_
                refine j_bipush (pc := 130) C (nI 8) dX10_split_130 (by decide) ?_
                refine j_iload_n (pc := 132) C dX10_split_132 rfl 3 rfl ?_
                refine j_imul (pc := 133) C dX10_split_133 ?_
                refine j_topi (nI (8 * (xN x))) (pk_mul 8 (xN x)) ?_
                refine j_iload (pc := 134) C dX10_split_134 0 rfl ?_
                refine j_iadd (pc := 136) C dX10_split_136 ?_
                refine j_topi (nI (8 * (xN x) + c)) (nI_add (8 * (xN x)) c) ?_
                refine j_ldc2 (pc := 137) C (v := -1) dX10_split_137 wm_1040 ?_
                refine j_last (pc := 140) C (p := 8 * (xN x) + c) (M := 128) ((hs.2.1.2 12 (by decide) (by decide)).2.1) rfl ((hs.2.1.2 12 (by decide) (by decide)).2.2) (by omega) (by decide) dX10_split_140 ?_
                have hs := hs.wL 768 412 (8 * (xN x) + c) none (-1) (by decide) (by decide) rfl; have hme := hme.sL (f := 768) (i := 412) (j := (8 * (xN x) + c)) (v := (-1)) rfl
                generalize sL σ6 768 412 (8 * (xN x) + c) (-1) = σ7 at hs hme ⊢
                refine j_iinc (pc := 141) C (nI (c + 1)) [(5, .int (nI (c + 1))), (4, .int (nI (nL S))), (0, .ref (x9 0)), (1, .int (nI (xN x))), (2, .int (nI (xN y)))] dX10_split_141 0 rfl (nI_add c 1) (by decide) rfl ?_
                refine j_goto (pc := 144) C 84 dX10_split_144 (by decide) ?_
                have e9 : splitX (moveW (keeps9 (makes9 S (fo S (xN x))) 0 (nL S) (xN x)) (xN x) (nL S) (xN y) (nW S)) (xN x) (nL S) (xN y) (c + 1) = zR (zR (splitX (moveW (keeps9 (makes9 S (fo S (xN x))) 0 (nL S) (xN x)) (xN x) (nL S) (xN y) (nW S)) (xN x) (nL S) (xN y) c) 768 412 (8 * nL S + c) ((moveW (keeps9 (makes9 S (fo S (xN x))) 0 (nL S) (xN x)) (xN x) (nL S) (xN y) (nW S)).2 768 412 (8 * xN x + c))) 768 412 (8 * xN x + c) none := if_pos (bool1.mp d2)
                exact J.to [0, 1, 2, 3, 4] rfl (ih (c + 1) σ7 (by omega) (by omega) (by rw [e9]; exact hs) hme)
        exact J.to [0, 1, 3, 4, 5] rfl (loop 9 0 _ (Nat.zero_le _) (by omega) hs hme)
      · refine j_iconst (pc := 39) C (nI 3) dX10_split_39 (by decide) ?_
        refine j_goto (pc := 40) C 44 dX10_split_40 (by decide) ?_
        refine j_callV (pc := 44) C [.int (nI 3)] [] (rm0 := ({ frames := 2, cells := 0, slots := 0, locals := 43 } : Room)) (k' := 0) (n' := 0) Q.1 (c_X10_holds (xl X) (xw X) hs (nI 3)) mp_X10_holds wm_1156 hs.2.1.1 rfl rfl (by decide) rfl rfl (Nat.le_of_ble_eq_true rfl) dX10_split_44 ⟨by decide, by decide⟩ ⟨Nat.le_of_ble_eq_true rfl, Nat.le_of_ble_eq_true rfl⟩ rfl rfl (fun v9 σ8 hp9 => ?_)
        obtain ⟨rfl, hs, hme9⟩ := hp9
        have hme := hme.tr hme9
        show J X 0 0 σ8 [(3, .int (bI (isLex S (nI (xN x))))), (0, .ref (x9 0)), (1, .int (nI (xN x))), (2, .int (nI (xN y)))] [.int (bI (decide (nI 3 = 0)))] 47
        refine j_topi (bI false) (by decide) ?_
        refine j_if_ne (pc := 47) C 52 dX10_split_47 (by decide) (fun q => absurd q (by decide)) (fun _ => ?_)
        refine j_iconst (pc := 50) C (nI 0) dX10_split_50 (by decide) ?_
        exact j_ireturn (pc := 51) C Q dX10_split_51 (Nat.le_of_ble_eq_true rfl) (Nat.le_of_ble_eq_true rfl) (by unfold s_split; rw [if_neg (by rw [c1k]; decide), if_neg (by rw [c2k]; decide), if_pos c3]; exact ⟨rfl, hs, hme⟩)
    · refine j_iconst (pc := 26) C (nI 2) dX10_split_26 (by decide) ?_
      refine j_goto (pc := 27) C 44 dX10_split_27 (by decide) ?_
      refine j_callV (pc := 44) C [.int (nI 2)] [] (rm0 := ({ frames := 2, cells := 0, slots := 0, locals := 43 } : Room)) (k' := 0) (n' := 0) Q.1 (c_X10_holds (xl X) (xw X) hs (nI 2)) mp_X10_holds wm_1156 hs.2.1.1 rfl rfl (by decide) rfl rfl (Nat.le_of_ble_eq_true rfl) dX10_split_44 ⟨by decide, by decide⟩ ⟨Nat.le_of_ble_eq_true rfl, Nat.le_of_ble_eq_true rfl⟩ rfl rfl (fun v9 σ9 hp9 => ?_)
      obtain ⟨rfl, hs, hme9⟩ := hp9
      have hme := hme.tr hme9
      show J X 0 0 σ9 [(3, .int (bI (isLex S (nI (xN x))))), (0, .ref (x9 0)), (1, .int (nI (xN x))), (2, .int y)] [.int (bI (decide (nI 2 = 0)))] 47
      refine j_topi (bI false) (by decide) ?_
      refine j_if_ne (pc := 47) C 52 dX10_split_47 (by decide) (fun q => absurd q (by decide)) (fun _ => ?_)
      refine j_iconst (pc := 50) C (nI 0) dX10_split_50 (by decide) ?_
      exact j_ireturn (pc := 51) C Q dX10_split_51 (Nat.le_of_ble_eq_true rfl) (Nat.le_of_ble_eq_true rfl) (by unfold s_split; rw [if_neg (by rw [c1k]; decide), if_pos c2]; exact ⟨rfl, hs, hme⟩)
  · refine j_iconst (pc := 11) C (nI 1) dX10_split_11 (by decide) ?_
    refine j_goto (pc := 12) C 44 dX10_split_12 (by decide) ?_
    refine j_callV (pc := 44) C [.int (nI 1)] [] (rm0 := ({ frames := 2, cells := 0, slots := 0, locals := 43 } : Room)) (k' := 0) (n' := 0) Q.1 (c_X10_holds (xl X) (xw X) hs (nI 1)) mp_X10_holds wm_1156 hs.2.1.1 rfl rfl (by decide) rfl rfl (Nat.le_of_ble_eq_true rfl) dX10_split_44 ⟨by decide, by decide⟩ ⟨Nat.le_of_ble_eq_true rfl, Nat.le_of_ble_eq_true rfl⟩ rfl rfl (fun v9 σ10 hp9 => ?_)
    obtain ⟨rfl, hs, hme9⟩ := hp9
    have hme := hme.tr hme9
    show J X 0 0 σ10 [(3, .int (bI (isLex S x))), (0, .ref (x9 0)), (1, .int x), (2, .int y)] [.int (bI (decide (nI 1 = 0)))] 47
    refine j_topi (bI false) (by decide) ?_
    refine j_if_ne (pc := 47) C 52 dX10_split_47 (by decide) (fun q => absurd q (by decide)) (fun _ => ?_)
    refine j_iconst (pc := 50) C (nI 0) dX10_split_50 (by decide) ?_
    exact j_ireturn (pc := 51) C Q dX10_split_51 (Nat.le_of_ble_eq_true rfl) (Nat.le_of_ble_eq_true rfl) (by unfold s_split; rw [if_pos c1]; exact ⟨rfl, hs, hme⟩)
