set_option maxHeartbeats 4000000 in
set_option maxRecDepth 100000 in
theorem c_X10_ofWord (L9 : Launch) (w9 : Wd) {σ : HS} {S : SP} {x9 : Nat → Nat} {k9 : Int32} (hs : RS S x9 k9 σ) (hw : WF S) (x y : Int32) : MJ L9 w9 yX10_ofWord cX10_ofWord 4 (some .int) ({ frames := 6, cells := 0, slots := 0, locals := 155 } : Room) [.ref (x9 0), .int x, .int y] σ (fun a9 σ' => a9 = some (.int (s_ofWord S x y).2.1) ∧ RS (s_ofWord S x y).2.2 x9 (nI (s_ofWord S x y).1) σ' ∧ ME σ σ') := by
  refine MJ.of (by decide +kernel) (Nat.le_of_ble_eq_true rfl) (fun X hX1 hX2 C Q hinit => ?_)
  subst hX1; subst hX2
  show J X 0 0 σ [(0, .ref (x9 0)), (1, .int x), (2, .int y)] [] 0
  have hme : ME σ σ := ME.rf
  have gW := hw.2.2.2.1.1
  have gL := hw.2.2.1.1
  refine j_aload_n (pc := 0) C dX10_ofWord_0 rfl 0 rfl ?_
  refine j_iload_n (pc := 1) C dX10_ofWord_1 rfl 1 rfl ?_
  refine j_callV (pc := 2) C [.int x] [] (rm0 := ({ frames := 6, cells := 0, slots := 0, locals := 155 } : Room)) (k' := 0) (n' := 0) Q.1 (c_X10_isWord (xl X) (xw X) hs hw x) mp_X10_isWord wm_1246 hs.2.1.1 rfl rfl (by decide) rfl rfl (Nat.le_of_ble_eq_true rfl) dX10_ofWord_2 ⟨by decide, by decide⟩ ⟨Nat.le_of_ble_eq_true rfl, Nat.le_of_ble_eq_true rfl⟩ rfl rfl (det1 ?_)
  refine j_istore_n (pc := 5) C [(3, .int (bI (isWrd S x))), (0, .ref (x9 0)), (1, .int x), (2, .int y)] dX10_ofWord_5 rfl (by decide) rfl ?_
  refine j_aload_n (pc := 6) C dX10_ofWord_6 rfl 1 rfl ?_
  refine j_iload_n (pc := 7) C dX10_ofWord_7 rfl 0 rfl ?_
  refine jb_if_ne (pc := 8) C 15 (b := isWrd S x) dX10_ofWord_8 (by decide) (fun c1 => ?_) (fun c1 => ?_)
  · have c1k := c1
    have hlx : inI x (nW S) = true ∧ hd9 S (xN x) = 1 := by
      unfold isWrd at c1
      rw [Bool.and_eq_true, decide_eq_true_iff] at c1
      exact c1
    obtain ⟨hx1, hx2⟩ := inI_t hlx.1
    rw [hx2]
    refine j_iload_n (pc := 15) C dX10_ofWord_15 rfl 3 rfl ?_
    refine j_iconst (pc := 16) C (nI 0) dX10_ofWord_16 (by decide) ?_
    refine j_iconst (pc := 17) C (nI 4) dX10_ofWord_17 (by decide) ?_
    refine j_callS (pc := 18) C [.int y, .int (nI 0), .int (nI 4)] [.ref (x9 0)] (rm0 := ({ frames := 6, cells := 0, slots := 0, locals := 155 } : Room)) (k' := 0) (n' := 0) Q.1 (c_X10_isIn (xl X) (xw X) _ _ _ _ (in_of y (by decide))) mp_X10_isIn wm_1153 rfl rfl (Nat.le_of_ble_eq_true rfl) dX10_ofWord_18 ⟨by decide, by decide⟩ ⟨Nat.le_of_ble_eq_true rfl, Nat.le_of_ble_eq_true rfl⟩ rfl rfl (det1 ?_)
    refine jb_if_ne (pc := 21) C 28 (b := inI y 5) dX10_ofWord_21 (by decide) (fun c2 => ?_) (fun c2 => ?_)
    · have c2k := c2
      obtain ⟨hy1, hy2⟩ := inI_t c2
      refine j_iconst (pc := 28) C (nI 0) dX10_ofWord_28 (by decide) ?_
      refine j_callV (pc := 29) C [.int (nI 0)] [] (rm0 := ({ frames := 6, cells := 0, slots := 0, locals := 155 } : Room)) (k' := 0) (n' := 0) Q.1 (c_X10_holds (xl X) (xw X) hs (nI 0)) mp_X10_holds wm_1156 hs.2.1.1 rfl rfl (by decide) rfl rfl (Nat.le_of_ble_eq_true rfl) dX10_ofWord_29 ⟨by decide, by decide⟩ ⟨Nat.le_of_ble_eq_true rfl, Nat.le_of_ble_eq_true rfl⟩ rfl rfl (fun v9 σ1 hp9 => ?_)
      obtain ⟨rfl, hs, hme9⟩ := hp9
      have hme := hme.tr hme9
      show J X 0 0 σ1 [(3, .int (bI (isWrd S (nI (xN x))))), (0, .ref (x9 0)), (1, .int (nI (xN x))), (2, .int y)] [.int (bI (decide (nI 0 = 0)))] 32
      refine j_topi (bI true) (by decide) ?_
      refine j_if_ne (pc := 32) C 37 dX10_ofWord_32 (by decide) (fun _ => ?_) (fun q => absurd q (by decide))
      refine j_iload_n (pc := 37) C dX10_ofWord_37 rfl 3 rfl ?_
      have hy3 : y.toInt = (xN y : Int) := by rw [hy2, nI_toInt (by omega)]; rw [← hy2]
      have h5 : xN y = 0 ∨ xN y = 1 ∨ xN y = 2 ∨ xN y = 3 ∨ xN y = 4 := by omega
      rcases h5 with h5 | h5 | h5 | h5 | h5
      · refine j_tableIn (pc := 38) C (off := 30) 68 dX10_ofWord_38 (by rw [hy3, h5]; decide) (by rw [hy3, h5]; decide) (by rw [hy3, h5]; decide) (by decide) ?_
        refine j_aload_n (pc := 68) C dX10_ofWord_68 rfl 1 rfl ?_
        refine j_getA (pc := 69) C fp_X10_51 hs.2.1.1 rfl (f := 661) rfl (11, 31) (x9 21) ((hs.2.1.2 21 (by decide) (by decide)).1) ((hs.2.1.2 21 (by decide) (by decide)).2.1) dX10_ofWord_69 ?_
        refine j_iload_n (pc := 72) C dX10_ofWord_72 rfl 2 rfl ?_
        refine j_iald (pc := 73) C (p := xN x) (M := 40) ((hs.2.1.2 21 (by decide) (by decide)).2.1) rfl ((hs.2.1.2 21 (by decide) (by decide)).2.2) (by omega) (by decide) dX10_ofWord_73 ?_
        refine j_topi (nI (ol S (xN x))) (hs.rdI 704 31 (xN x) (by decide) (by decide)) ?_
        exact j_ireturn (pc := 74) C Q dX10_ofWord_74 (Nat.le_of_ble_eq_true rfl) (Nat.le_of_ble_eq_true rfl) (by unfold s_ofWord; rw [if_neg (by rw [c1k]; decide), if_neg (by rw [c2k]; decide), h5]; exact ⟨rfl, hs, hme⟩)
      · refine j_tableIn (pc := 38) C (off := 37) 75 dX10_ofWord_38 (by rw [hy3, h5]; decide) (by rw [hy3, h5]; decide) (by rw [hy3, h5]; decide) (by decide) ?_
        refine j_aload_n (pc := 75) C dX10_ofWord_75 rfl 1 rfl ?_
        refine j_getA (pc := 76) C fp_X10_54 hs.2.1.1 rfl (f := 662) rfl (11, 32) (x9 22) ((hs.2.1.2 22 (by decide) (by decide)).1) ((hs.2.1.2 22 (by decide) (by decide)).2.1) dX10_ofWord_76 ?_
        refine j_iload_n (pc := 79) C dX10_ofWord_79 rfl 2 rfl ?_
        refine j_iald (pc := 80) C (p := xN x) (M := 40) ((hs.2.1.2 22 (by decide) (by decide)).2.1) rfl ((hs.2.1.2 22 (by decide) (by decide)).2.2) (by omega) (by decide) dX10_ofWord_80 ?_
        refine j_topi (nI (cw S (xN x))) (hs.rdI 704 32 (xN x) (by decide) (by decide)) ?_
        exact j_ireturn (pc := 81) C Q dX10_ofWord_81 (Nat.le_of_ble_eq_true rfl) (Nat.le_of_ble_eq_true rfl) (by unfold s_ofWord; rw [if_neg (by rw [c1k]; decide), if_neg (by rw [c2k]; decide), h5]; exact ⟨rfl, hs, hme⟩)
      · refine j_tableIn (pc := 38) C (off := 44) 82 dX10_ofWord_38 (by rw [hy3, h5]; decide) (by rw [hy3, h5]; decide) (by rw [hy3, h5]; decide) (by decide) ?_
        refine j_aload_n (pc := 82) C dX10_ofWord_82 rfl 1 rfl ?_
        refine j_getA (pc := 83) C fp_X10_57 hs.2.1.1 rfl (f := 663) rfl (11, 33) (x9 23) ((hs.2.1.2 23 (by decide) (by decide)).1) ((hs.2.1.2 23 (by decide) (by decide)).2.1) dX10_ofWord_83 ?_
        refine j_iload_n (pc := 86) C dX10_ofWord_86 rfl 2 rfl ?_
        refine j_iald (pc := 87) C (p := xN x) (M := 40) ((hs.2.1.2 23 (by decide) (by decide)).2.1) rfl ((hs.2.1.2 23 (by decide) (by decide)).2.2) (by omega) (by decide) dX10_ofWord_87 ?_
        refine j_topi (nI (sw S (xN x))) (hs.rdI 704 33 (xN x) (by decide) (by decide)) ?_
        exact j_ireturn (pc := 88) C Q dX10_ofWord_88 (Nat.le_of_ble_eq_true rfl) (Nat.le_of_ble_eq_true rfl) (by unfold s_ofWord; rw [if_neg (by rw [c1k]; decide), if_neg (by rw [c2k]; decide), h5]; exact ⟨rfl, hs, hme⟩)
      · refine j_tableIn (pc := 38) C (off := 51) 89 dX10_ofWord_38 (by rw [hy3, h5]; decide) (by rw [hy3, h5]; decide) (by rw [hy3, h5]; decide) (by decide) ?_
        refine j_aload_n (pc := 89) C dX10_ofWord_89 rfl 1 rfl ?_
        refine j_getA (pc := 90) C fp_X10_60 hs.2.1.1 rfl (f := 664) rfl (12, 424) (x9 24) ((hs.2.1.2 24 (by decide) (by decide)).1) ((hs.2.1.2 24 (by decide) (by decide)).2.1) dX10_ofWord_90 ?_
        refine j_iload_n (pc := 93) C dX10_ofWord_93 rfl 2 rfl ?_
        refine j_lald (pc := 94) C (p := xN x) (M := 40) ((hs.2.1.2 24 (by decide) (by decide)).2.1) rfl ((hs.2.1.2 24 (by decide) (by decide)).2.2) (by omega) (by decide) dX10_ofWord_94 ?_
        refine j_topl (enc4 (hr S (xN x))) (hs.rdL 768 424 (xN x) (by decide) (by decide)) ?_
        refine j_callS (pc := 95) C [.long (enc4 (hr S (xN x)))] [] (rm0 := ({ frames := 6, cells := 0, slots := 0, locals := 155 } : Room)) (k' := 0) (n' := 0) Q.1 (c_X10_size (xl X) (xw X) (okS.R hw.1 (WF_hr hw (xN x)))) mp_X10_size wm_1172 rfl rfl (Nat.le_of_ble_eq_true rfl) dX10_ofWord_95 ⟨by decide, by decide⟩ ⟨Nat.le_of_ble_eq_true rfl, Nat.le_of_ble_eq_true rfl⟩ rfl rfl (det1 ?_)
        exact j_ireturn (pc := 98) C Q dX10_ofWord_98 (Nat.le_of_ble_eq_true rfl) (Nat.le_of_ble_eq_true rfl) (by unfold s_ofWord; rw [if_neg (by rw [c1k]; decide), if_neg (by rw [c2k]; decide), h5]; exact ⟨rfl, hs, hme⟩)
      · refine j_tableOut (pc := 38) C 99 dX10_ofWord_38 (Or.inr (by rw [hy3, h5]; decide)) (by decide) ?_
        refine j_aload_n (pc := 99) C dX10_ofWord_99 rfl 1 rfl ?_
        refine j_iload_n (pc := 100) C dX10_ofWord_100 rfl 2 rfl ?_
        refine j_callV (pc := 101) C [.int (nI (xN x))] [] (rm0 := ({ frames := 6, cells := 0, slots := 0, locals := 155 } : Room)) (k' := 0) (n' := 0) Q.1 (c_X10_fits (xl X) (xw X) hs hw hx1) mp_X10_fits wm_1329 hs.2.1.1 rfl rfl (by decide) rfl rfl (Nat.le_of_ble_eq_true rfl) dX10_ofWord_101 ⟨by decide, by decide⟩ ⟨Nat.le_of_ble_eq_true rfl, Nat.le_of_ble_eq_true rfl⟩ rfl rfl (fun v9 σ2 hp9 => ?_)
        obtain ⟨rfl, hs, hme9⟩ := hp9
        have hme := hme.tr hme9.1
        show J X 0 0 σ2 [(3, .int (bI (isWrd S (nI (xN x))))), (0, .ref (x9 0)), (1, .int (nI (xN x))), (2, .int y)] [.int (bI (fits9 S (xN x)))] 104
        refine jb_if_eq (pc := 104) C 111 (b := fits9 S (xN x)) dX10_ofWord_104 (by decide) (fun c3 => ?_) (fun c3 => ?_)
        · refine j_iconst (pc := 111) C (nI 0) dX10_ofWord_111 (by decide) ?_
          refine j_topi (bI (fits9 S (xN x))) (by rw [c3]; rfl) ?_
          exact j_ireturn (pc := 112) C Q dX10_ofWord_112 (Nat.le_of_ble_eq_true rfl) (Nat.le_of_ble_eq_true rfl) (by unfold s_ofWord; rw [if_neg (by rw [c1k]; decide), if_neg (by rw [c2k]; decide), h5]; exact ⟨rfl, hs, hme⟩)
        · refine j_iconst (pc := 107) C (nI 1) dX10_ofWord_107 (by decide) ?_
          refine j_goto (pc := 108) C 112 dX10_ofWord_108 (by decide) ?_
          refine j_topi (bI (fits9 S (xN x))) (by rw [c3]; rfl) ?_
          exact j_ireturn (pc := 112) C Q dX10_ofWord_112 (Nat.le_of_ble_eq_true rfl) (Nat.le_of_ble_eq_true rfl) (by unfold s_ofWord; rw [if_neg (by rw [c1k]; decide), if_neg (by rw [c2k]; decide), h5]; exact ⟨rfl, hs, hme⟩)
    · refine j_iconst (pc := 24) C (nI 2) dX10_ofWord_24 (by decide) ?_
      refine j_goto (pc := 25) C 29 dX10_ofWord_25 (by decide) ?_
      refine j_callV (pc := 29) C [.int (nI 2)] [] (rm0 := ({ frames := 6, cells := 0, slots := 0, locals := 155 } : Room)) (k' := 0) (n' := 0) Q.1 (c_X10_holds (xl X) (xw X) hs (nI 2)) mp_X10_holds wm_1156 hs.2.1.1 rfl rfl (by decide) rfl rfl (Nat.le_of_ble_eq_true rfl) dX10_ofWord_29 ⟨by decide, by decide⟩ ⟨Nat.le_of_ble_eq_true rfl, Nat.le_of_ble_eq_true rfl⟩ rfl rfl (fun v9 σ3 hp9 => ?_)
      obtain ⟨rfl, hs, hme9⟩ := hp9
      have hme := hme.tr hme9
      show J X 0 0 σ3 [(3, .int (bI (isWrd S (nI (xN x))))), (0, .ref (x9 0)), (1, .int (nI (xN x))), (2, .int y)] [.int (bI (decide (nI 2 = 0)))] 32
      refine j_topi (bI false) (by decide) ?_
      refine j_if_ne (pc := 32) C 37 dX10_ofWord_32 (by decide) (fun q => absurd q (by decide)) (fun _ => ?_)
      refine j_iconst (pc := 35) C (nI 0) dX10_ofWord_35 (by decide) ?_
      exact j_ireturn (pc := 36) C Q dX10_ofWord_36 (Nat.le_of_ble_eq_true rfl) (Nat.le_of_ble_eq_true rfl) (by unfold s_ofWord; rw [if_neg (by rw [c1k]; decide), if_pos c2]; exact ⟨rfl, hs, hme⟩)
  · refine j_iconst (pc := 11) C (nI 1) dX10_ofWord_11 (by decide) ?_
    refine j_goto (pc := 12) C 29 dX10_ofWord_12 (by decide) ?_
    refine j_callV (pc := 29) C [.int (nI 1)] [] (rm0 := ({ frames := 6, cells := 0, slots := 0, locals := 155 } : Room)) (k' := 0) (n' := 0) Q.1 (c_X10_holds (xl X) (xw X) hs (nI 1)) mp_X10_holds wm_1156 hs.2.1.1 rfl rfl (by decide) rfl rfl (Nat.le_of_ble_eq_true rfl) dX10_ofWord_29 ⟨by decide, by decide⟩ ⟨Nat.le_of_ble_eq_true rfl, Nat.le_of_ble_eq_true rfl⟩ rfl rfl (fun v9 σ4 hp9 => ?_)
    obtain ⟨rfl, hs, hme9⟩ := hp9
    have hme := hme.tr hme9
    show J X 0 0 σ4 [(3, .int (bI (isWrd S x))), (0, .ref (x9 0)), (1, .int x), (2, .int y)] [.int (bI (decide (nI 1 = 0)))] 32
    refine j_topi (bI false) (by decide) ?_
    refine j_if_ne (pc := 32) C 37 dX10_ofWord_32 (by decide) (fun q => absurd q (by decide)) (fun _ => ?_)
    refine j_iconst (pc := 35) C (nI 0) dX10_ofWord_35 (by decide) ?_
    exact j_ireturn (pc := 36) C Q dX10_ofWord_36 (Nat.le_of_ble_eq_true rfl) (Nat.le_of_ble_eq_true rfl) (by unfold s_ofWord; rw [if_pos c1]; exact ⟨rfl, hs, hme⟩)
set_option maxHeartbeats 4000000 in
set_option maxRecDepth 100000 in
theorem c_X10_smallest (L9 : Launch) (w9 : Wd) {σ : HS} {S : SP} {x9 : Nat → Nat} {k9 : Int32} (hs : RS S x9 k9 σ) (hw : WF S) : MJ L9 w9 yX10_smallest cX10_smallest 3 (some .int) ({ frames := 6, cells := 0, slots := 0, locals := 157 } : Room) [.ref (x9 0)] σ (fun a9 σ' => a9 = some (.int (s_smallest S).2.1) ∧ RS (s_smallest S).2.2 x9 (nI (s_smallest S).1) σ' ∧ ME σ σ') := by
  refine MJ.of (by decide +kernel) (Nat.le_of_ble_eq_true rfl) (fun X hX1 hX2 C Q hinit => ?_)
  subst hX1; subst hX2
  show J X 0 0 σ [(0, .ref (x9 0))] [] 0
  have hme : ME σ σ := ME.rf
  have gR := hw.2.1.1
  have g6 : 2 ^ nR S ≤ 2 ^ 6 := Nat.pow_le_pow_right (by decide) gR
  refine j_aload_n (pc := 0) C dX10_smallest_0 rfl 0 rfl ?_
  refine j_iconst (pc := 1) C (nI 0) dX10_smallest_1 (by decide) ?_
  refine j_putI (pc := 2) C fp_X10_86 hs.2.1.1 rfl rfl (Or.inl rfl) rfl (by decide) (f := 640) rfl dX10_smallest_2 ?_
  have hs := hs.wT (nI 0); have hme := hme.sI (f := 640) (i := 0) (j := 0) (v := (nI 0)) rfl
  generalize sI σ 640 0 0 (nI 0) = σ1 at hs hme ⊢
  refine j_iconst (pc := 5) C (-1) dX10_smallest_5 (by decide) ?_
  refine j_istore_n (pc := 6) C [(1, .int (-1)), (0, .ref (x9 0))] dX10_smallest_6 rfl (by decide) rfl ?_
  refine j_iconst (pc := 7) C (nI 0) dX10_smallest_7 (by decide) ?_
  refine j_istore_n (pc := 8) C [(2, .int (nI 0)), (1, .int (-1)), (0, .ref (x9 0))] dX10_smallest_8 rfl (by decide) rfl ?_
  have loop : ∀ (f : Nat) (set : Nat) (v : Int32) (σ9 : HS), (set ≤ 2 ^ nR S) → (2 ^ nR S < set + f) → (v = noneI (smal S set)) → RS S x9 (nI 0) σ9 → ME σ σ9 → J X 0 0 σ9 [(2, .int (nI set)), (1, .int v), (0, .ref (x9 0))] [] 9 := by
    clear hs hme
    intro f
    induction f with
    | zero => intro set v σ9 h1 h2 h3; exact absurd h2 (by omega)
    | succ f ih =>
      intro set v σ9 h1 h2 h3 hs hme
      refine j_iload_n (pc := 9) C dX10_smallest_9 rfl 0 rfl ?_
      refine j_iconst (pc := 10) C (nI 1) dX10_smallest_10 (by decide) ?_
      refine j_aload_n (pc := 11) C dX10_smallest_11 rfl 2 rfl ?_
      refine j_getI (pc := 12) C fp_X10_133 hs.2.1.1 rfl (f := 659) rfl dX10_smallest_12 ?_
      refine j_topi (nI (nR S)) (hs.rdI 659 0 0 (by decide) (by decide)) ?_
      refine j_ishl (pc := 15) C dX10_smallest_15 ?_
      refine j_topi (nI (2 ^ nR S)) (shl1 (by omega)) ?_
      refine jn_icmp_ge (pc := 16) C 55 (a := set) (b := 2 ^ nR S) (by omega) (by omega) dX10_smallest_16 (by decide) (fun c1 => ?_) (fun c1 => ?_)
      · have e : set = 2 ^ nR S := Nat.le_antisymm h1 c1
        refine j_iload_n (pc := 55) C dX10_smallest_55 rfl 1 rfl ?_
        refine j_topi (noneI (smal S (2 ^ nR S))) (by rw [h3, e]) ?_
        exact j_ireturn (pc := 56) C Q dX10_smallest_56 (Nat.le_of_ble_eq_true rfl) (Nat.le_of_ble_eq_true rfl) (by unfold s_smallest; exact ⟨rfl, hs, hme⟩)
      · refine j_aload_n (pc := 19) C dX10_smallest_19 rfl 2 rfl ?_
        refine j_iload_n (pc := 20) C dX10_smallest_20 rfl 0 rfl ?_
        refine j_callV (pc := 21) C [.int (nI set)] [] (rm0 := ({ frames := 6, cells := 0, slots := 0, locals := 157 } : Room)) (k' := 0) (n' := 0) Q.1 (c_X10_isFitting (xl X) (xw X) hs hw (set := set) (by omega)) mp_X10_isFitting wm_1353 hs.2.1.1 rfl rfl (by decide) rfl rfl (Nat.le_of_ble_eq_true rfl) dX10_smallest_21 ⟨by decide, by decide⟩ ⟨Nat.le_of_ble_eq_true rfl, Nat.le_of_ble_eq_true rfl⟩ rfl rfl (fun v9 σ2 hp9 => ?_)
        obtain ⟨rfl, hs, hme9⟩ := hp9
        have hme := hme.tr hme9.1
        show J X 0 0 σ2 [(2, .int (nI set)), (1, .int v), (0, .ref (x9 0))] [.int (bI (fitset S set))] 24
        refine jb_if_eq (pc := 24) C 47 (b := fitset S set) dX10_smallest_24 (by decide) (fun c2 => ?_) (fun c2 => ?_)
        · have e9 : smal S (set + 1) = smal S set := if_neg (show ¬ (fitset S set = true ∧ (∀ b, smal S set = some b → ones set < ones b)) from fun z => by rw [c2] at z; cases z.1)
          refine j_iload_n (pc := 47) C dX10_smallest_47 rfl 1 rfl ?_
          refine j_istore_n (pc := 48) C [(1, .int v), (2, .int (nI set)), (0, .ref (x9 0))] dX10_smallest_48 rfl (by decide) rfl ?_
          refine j_iinc (pc := 49) C (nI (set + 1)) [(2, .int (nI (set + 1))), (1, .int v), (0, .ref (x9 0))] dX10_smallest_49 1 rfl (nI_add set 1) (by decide) rfl ?_
          refine j_goto (pc := 52) C 9 dX10_smallest_52 (by decide) ?_
          exact J.to [0, 1, 2] rfl (ih (set + 1) v σ2 (by omega) (by omega) (by rw [e9]; exact h3) hs hme)
        · cases hm : smal S set with
          | none =>
            have h4 : v = -1 := by rw [h3, hm]; rfl
            refine j_iload_n (pc := 27) C dX10_smallest_27 rfl 1 rfl ?_
            refine j_iconst (pc := 28) C (-1) dX10_smallest_28 (by decide) ?_
            refine j_icmp_eq (pc := 29) C 43 dX10_smallest_29 (by decide) (fun c0 => ?_) (fun c0 => (c0 h4 : False).elim)
            have e9 : smal S (set + 1) = some set := if_pos (show fitset S set = true ∧ (∀ b, smal S set = some b → ones set < ones b) from ⟨c2, fun b hb => by rw [hm] at hb; cases hb⟩)
            refine j_iload_n (pc := 43) C dX10_smallest_43 rfl 0 rfl ?_
            refine j_goto (pc := 44) C 48 dX10_smallest_44 (by decide) ?_
            refine j_istore_n (pc := 48) C [(1, .int (nI set)), (2, .int (nI set)), (0, .ref (x9 0))] dX10_smallest_48 rfl (by decide) rfl ?_
            refine j_iinc (pc := 49) C (nI (set + 1)) [(2, .int (nI (set + 1))), (1, .int (nI set)), (0, .ref (x9 0))] dX10_smallest_49 1 rfl (nI_add set 1) (by decide) rfl ?_
            refine j_goto (pc := 52) C 9 dX10_smallest_52 (by decide) ?_
            exact J.to [0, 1, 2] rfl (ih (set + 1) (nI set) σ2 (by omega) (by omega) (by rw [e9]; rfl) hs hme)
          | some b =>
            have hb := smal_lt hm
            have h4 : v = nI b := by rw [h3, hm]; rfl
            have ho1 := ones_le set
            have ho2 := ones_le b
            rw [h4]
            refine j_iload_n (pc := 27) C dX10_smallest_27 rfl 1 rfl ?_
            refine j_iconst (pc := 28) C (-1) dX10_smallest_28 (by decide) ?_
            refine j_icmp_eq (pc := 29) C 43 dX10_smallest_29 (by decide) (fun c0 => (nI_nm1 (by omega) c0 : False).elim) (fun c0 => ?_)
            refine j_iload_n (pc := 32) C dX10_smallest_32 rfl 0 rfl ?_
            refine j_callS (pc := 33) C [.int (nI set)] [] (rm0 := ({ frames := 6, cells := 0, slots := 0, locals := 157 } : Room)) (k' := 0) (n' := 0) Q.1 (c_X10_ones (xl X) (xw X) (s := set) (by omega)) mp_X10_ones wm_1361 rfl rfl (Nat.le_of_ble_eq_true rfl) dX10_smallest_33 ⟨by decide, by decide⟩ ⟨Nat.le_of_ble_eq_true rfl, Nat.le_of_ble_eq_true rfl⟩ rfl rfl (det1 ?_)
            refine j_iload_n (pc := 36) C dX10_smallest_36 rfl 1 rfl ?_
            refine j_callS (pc := 37) C [.int (nI b)] [.int (nI (ones set))] (rm0 := ({ frames := 6, cells := 0, slots := 0, locals := 157 } : Room)) (k' := 0) (n' := 0) Q.1 (c_X10_ones (xl X) (xw X) (s := b) (by omega)) mp_X10_ones wm_1361 rfl rfl (Nat.le_of_ble_eq_true rfl) dX10_smallest_37 ⟨by decide, by decide⟩ ⟨Nat.le_of_ble_eq_true rfl, Nat.le_of_ble_eq_true rfl⟩ rfl rfl (det1 ?_)
            refine jn_icmp_ge (pc := 40) C 47 (a := ones set) (b := ones b) (by omega) (by omega) dX10_smallest_40 (by decide) (fun c3 => ?_) (fun c3 => ?_)
            · have e9 : smal S (set + 1) = smal S set := if_neg (show ¬ (fitset S set = true ∧ (∀ b, smal S set = some b → ones set < ones b)) from fun z => absurd (z.2 b hm) (by omega))
              refine j_iload_n (pc := 47) C dX10_smallest_47 rfl 1 rfl ?_
              refine j_istore_n (pc := 48) C [(1, .int (nI b)), (2, .int (nI set)), (0, .ref (x9 0))] dX10_smallest_48 rfl (by decide) rfl ?_
              refine j_iinc (pc := 49) C (nI (set + 1)) [(2, .int (nI (set + 1))), (1, .int (nI b)), (0, .ref (x9 0))] dX10_smallest_49 1 rfl (nI_add set 1) (by decide) rfl ?_
              refine j_goto (pc := 52) C 9 dX10_smallest_52 (by decide) ?_
              exact J.to [0, 1, 2] rfl (ih (set + 1) (nI b) σ2 (by omega) (by omega) (by rw [e9, hm]; rfl) hs hme)
            · have e9 : smal S (set + 1) = some set := if_pos (show fitset S set = true ∧ (∀ b, smal S set = some b → ones set < ones b) from ⟨c2, fun b2 hb2 => by rw [hm] at hb2; cases hb2; exact c3⟩)
              refine j_iload_n (pc := 43) C dX10_smallest_43 rfl 0 rfl ?_
              refine j_goto (pc := 44) C 48 dX10_smallest_44 (by decide) ?_
              refine j_istore_n (pc := 48) C [(1, .int (nI set)), (2, .int (nI set)), (0, .ref (x9 0))] dX10_smallest_48 rfl (by decide) rfl ?_
              refine j_iinc (pc := 49) C (nI (set + 1)) [(2, .int (nI (set + 1))), (1, .int (nI set)), (0, .ref (x9 0))] dX10_smallest_49 1 rfl (nI_add set 1) (by decide) rfl ?_
              refine j_goto (pc := 52) C 9 dX10_smallest_52 (by decide) ?_
              exact J.to [0, 1, 2] rfl (ih (set + 1) (nI set) σ2 (by omega) (by omega) (by rw [e9]; rfl) hs hme)
  exact J.to [0, 1, 2] rfl (loop (2 ^ nR S + 1) 0 (-1) _ (Nat.zero_le _) (by omega) rfl hs hme)
set_option maxHeartbeats 4000000 in
set_option maxRecDepth 100000 in
theorem c_X10_claims (L9 : Launch) (w9 : Wd) {σ : HS} {S : SP} {x9 : Nat → Nat} {k9 : Int32} (hs : RS S x9 k9 σ) (hw : WF S) (x : Int32) (b : Bool) : MJ L9 w9 yX10_claims cX10_claims 7 (some .int) ({ frames := 5, cells := 0, slots := 0, locals := 135 } : Room) [.ref (x9 0), .int x, .int (bI b)] σ (fun a9 σ' => a9 = some (.int (s_claims S x b).2.1) ∧ RS (s_claims S x b).2.2 x9 (nI (s_claims S x b).1) σ' ∧ ME σ σ') := by
  refine MJ.of (by decide +kernel) (Nat.le_of_ble_eq_true rfl) (fun X hX1 hX2 C Q hinit => ?_)
  subst hX1; subst hX2
  show J X 0 0 σ [(0, .ref (x9 0)), (1, .int x), (2, .int (bI b))] [] 0
  have hme : ME σ σ := ME.rf
  have gR := hw.2.1.1
  have gW := hw.2.2.2.1.1
  have gL := hw.2.2.1.1
  have gO := hw.2.1.2.2.2.2
  have g6 : 2 ^ nR S ≤ 2 ^ 6 := Nat.pow_le_pow_right (by decide) gR
  refine j_aload_n (pc := 0) C dX10_claims_0 rfl 0 rfl ?_
  refine j_aload_n (pc := 1) C dX10_claims_1 rfl 0 rfl ?_
  refine j_iload_n (pc := 2) C dX10_claims_2 rfl 1 rfl ?_
  refine j_callV (pc := 3) C [.int x] [.ref (x9 0)] (rm0 := ({ frames := 5, cells := 0, slots := 0, locals := 135 } : Room)) (k' := 0) (n' := 0) Q.1 (c_X10_isRule (xl X) (xw X) hs hw x) mp_X10_isRule wm_1230 hs.2.1.1 rfl rfl (by decide) rfl rfl (Nat.le_of_ble_eq_true rfl) dX10_claims_3 ⟨by decide, by decide⟩ ⟨Nat.le_of_ble_eq_true rfl, Nat.le_of_ble_eq_true rfl⟩ rfl rfl (det1 ?_)
  refine jb_if_eq (pc := 6) C 13 (b := inI x (nR S)) dX10_claims_6 (by decide) (fun c1 => ?_) (fun c1 => ?_)
  · refine j_iconst (pc := 13) C (nI 1) dX10_claims_13 (by decide) ?_
    refine j_callV (pc := 14) C [.int (nI 1)] [] (rm0 := ({ frames := 5, cells := 0, slots := 0, locals := 135 } : Room)) (k' := 0) (n' := 0) Q.1 (c_X10_holds (xl X) (xw X) hs (nI 1)) mp_X10_holds wm_1156 hs.2.1.1 rfl rfl (by decide) rfl rfl (Nat.le_of_ble_eq_true rfl) dX10_claims_14 ⟨by decide, by decide⟩ ⟨Nat.le_of_ble_eq_true rfl, Nat.le_of_ble_eq_true rfl⟩ rfl rfl (fun v9 σ1 hp9 => ?_)
    obtain ⟨rfl, hs, hme9⟩ := hp9
    have hme := hme.tr hme9
    show J X 0 0 σ1 [(0, .ref (x9 0)), (1, .int x), (2, .int (bI b))] [.int (bI (decide (nI 1 = 0)))] 17
    refine j_topi (bI false) (by decide) ?_
    refine j_if_eq (pc := 17) C 31 dX10_claims_17 (by decide) (fun _ => ?_) (fun q => absurd q (by decide))
    refine j_iconst (pc := 31) C (nI 0) dX10_claims_31 (by decide) ?_
    exact j_ireturn (pc := 32) C Q dX10_claims_32 (Nat.le_of_ble_eq_true rfl) (Nat.le_of_ble_eq_true rfl) (by unfold s_claims; rw [if_pos c1]; exact ⟨rfl, hs, hme⟩)
  · obtain ⟨hx1, hx2⟩ := inI_t c1
    rw [hx2]
    refine j_iconst (pc := 9) C (nI 0) dX10_claims_9 (by decide) ?_
    refine j_goto (pc := 10) C 14 dX10_claims_10 (by decide) ?_
    refine j_callV (pc := 14) C [.int (nI 0)] [] (rm0 := ({ frames := 5, cells := 0, slots := 0, locals := 135 } : Room)) (k' := 0) (n' := 0) Q.1 (c_X10_holds (xl X) (xw X) hs (nI 0)) mp_X10_holds wm_1156 hs.2.1.1 rfl rfl (by decide) rfl rfl (Nat.le_of_ble_eq_true rfl) dX10_claims_14 ⟨by decide, by decide⟩ ⟨Nat.le_of_ble_eq_true rfl, Nat.le_of_ble_eq_true rfl⟩ rfl rfl (fun v9 σ2 hp9 => ?_)
    obtain ⟨rfl, hs, hme9⟩ := hp9
    have hme := hme.tr hme9
    show J X 0 0 σ2 [(0, .ref (x9 0)), (1, .int (nI (xN x))), (2, .int (bI b))] [.int (bI (decide (nI 0 = 0)))] 17
    refine j_topi (bI true) (by decide) ?_
    refine j_if_eq (pc := 17) C 31 dX10_claims_17 (by decide) (fun q => absurd q (by decide)) (fun _ => ?_)
    refine j_aload_n (pc := 20) C dX10_claims_20 rfl 0 rfl ?_
    refine j_getI (pc := 21) C fp_X10_155 hs.2.1.1 rfl (f := 658) rfl dX10_claims_21 ?_
    refine j_topi (nI (on9 S)) (hs.rdI 658 0 0 (by decide) (by decide)) ?_
    refine j_iload_n (pc := 24) C dX10_claims_24 rfl 1 rfl ?_
    refine j_ishr (pc := 25) C dX10_claims_25 ?_
    refine j_iconst (pc := 26) C (nI 1) dX10_claims_26 (by decide) ?_
    refine j_iand (pc := 27) C dX10_claims_27 ?_
    refine j_topi (nI (((on9 S).testBit (xN x)).toNat)) (bitI (by omega) (by omega)) ?_
    refine jn_if_ne (pc := 28) C 33 (a := ((on9 S).testBit (xN x)).toNat) (by first | exact bool_lt _ | omega) dX10_claims_28 (by decide) (fun c2 => ?_) (fun c2 => ?_)
    · have hon : (on9 S).testBit (xN x) = true := by cases e : (on9 S).testBit (xN x) with
        | false => rw [e] at c2; exact absurd rfl c2
        | true => rfl
      refine j_iconst (pc := 33) C (nI 0) dX10_claims_33 (by decide) ?_
      refine j_istore_n (pc := 34) C [(3, .int (nI 0)), (0, .ref (x9 0)), (1, .int (nI (xN x))), (2, .int (bI b))] dX10_claims_34 rfl (by decide) rfl ?_
      refine j_iconst (pc := 35) C (nI 0) dX10_claims_35 (by decide) ?_
      refine j_istore (pc := 36) C [(4, .int (nI 0)), (3, .int (nI 0)), (0, .ref (x9 0)), (1, .int (nI (xN x))), (2, .int (bI b))] dX10_claims_36 (by decide) rfl ?_
      have loop : ∀ (f : Nat) (w : Nat) (σ9 : HS), (w ≤ nW S) → (nW S < w + f) → RS S x9 (nI 0) σ9 → ME σ σ9 → J X 0 0 σ9 [(4, .int (nI w)), (3, .int (nI (fb_ct (isClaim S (xN x) b) w))), (0, .ref (x9 0)), (1, .int (nI (xN x))), (2, .int (bI b))] [] 38 := by
        clear hs hme
        intro f
        induction f with
        | zero => intro w σ9 h1 h2; exact absurd h2 (by omega)
        | succ f ih =>
          intro w σ9 h1 h2 hs hme
          have hle := fb_ct_le (isClaim S (xN x) b) w
          refine j_iload (pc := 38) C dX10_claims_38 0 rfl ?_
          refine j_aload_n (pc := 40) C dX10_claims_40 rfl 2 rfl ?_
          refine j_getI (pc := 41) C fp_X10_187 hs.2.1.1 rfl (f := 666) rfl dX10_claims_41 ?_
          refine j_topi (nI (nW S)) (hs.rdI 666 0 0 (by decide) (by decide)) ?_
          refine jn_icmp_ge (pc := 44) C 174 (a := w) (b := nW S) (by omega) (by omega) dX10_claims_44 (by decide) (fun d0 => ?_) (fun d0 => ?_)
          · have e : w = nW S := Nat.le_antisymm h1 d0
            rw [e]
            refine j_iload_n (pc := 174) C dX10_claims_174 rfl 1 rfl ?_
            exact j_ireturn (pc := 175) C Q dX10_claims_175 (Nat.le_of_ble_eq_true rfl) (Nat.le_of_ble_eq_true rfl) (by unfold s_claims; rw [if_neg (by rw [c1]; decide), if_pos hon]; exact ⟨rfl, hs, hme⟩)
          · obtain ⟨q1, q2, q3, q4, -⟩ := hw.2.2.2.1.2.2 w d0
            cases b with
            | false =>
              refine j_aload_n (pc := 47) C dX10_claims_47 rfl 2 rfl ?_
              refine j_iload (pc := 48) C dX10_claims_48 0 rfl ?_
              refine j_callV (pc := 50) C [.int (nI w)] [] (rm0 := ({ frames := 5, cells := 0, slots := 0, locals := 135 } : Room)) (k' := 0) (n' := 0) Q.1 (c_X10_isBare (xl X) (xw X) hs hw d0) mp_X10_isBare wm_1341 hs.2.1.1 rfl rfl (by decide) rfl rfl (Nat.le_of_ble_eq_true rfl) dX10_claims_50 ⟨by decide, by decide⟩ ⟨Nat.le_of_ble_eq_true rfl, Nat.le_of_ble_eq_true rfl⟩ rfl rfl (det1 ?_)
              refine jb_if_eq (pc := 53) C 73 (b := bare S w) dX10_claims_53 (by decide) (fun e1 => ?_) (fun e1 => ?_)
              · refine j_iconst (pc := 73) C (nI 0) dX10_claims_73 (by decide) ?_
                refine j_istore (pc := 74) C [(5, .int (nI 0)), (4, .int (nI w)), (3, .int (nI (fb_ct (isClaim S (xN x) false) w))), (0, .ref (x9 0)), (1, .int (nI (xN x))), (2, .int (bI false))] dX10_claims_74 (by decide) rfl ?_
                refine j_iload_n (pc := 76) C dX10_claims_76 rfl 5 rfl ?_
                refine j_if_eq (pc := 77) C 115 dX10_claims_77 (by decide) (fun _ => ?_) (fun q => absurd q (by decide))
                refine j_aload_n (pc := 115) C dX10_claims_115 rfl 3 rfl ?_
                refine j_iload (pc := 116) C dX10_claims_116 1 rfl ?_
                refine j_callV (pc := 118) C [.int (nI w)] [] (rm0 := ({ frames := 5, cells := 0, slots := 0, locals := 135 } : Room)) (k' := 0) (n' := 0) Q.1 (c_X10_isBare (xl X) (xw X) hs hw d0) mp_X10_isBare wm_1341 hs.2.1.1 rfl rfl (by decide) rfl rfl (Nat.le_of_ble_eq_true rfl) dX10_claims_118 ⟨by decide, by decide⟩ ⟨Nat.le_of_ble_eq_true rfl, Nat.le_of_ble_eq_true rfl⟩ rfl rfl (det1 ?_)
                refine jb_if_eq (pc := 121) C 152 (b := bare S w) dX10_claims_121 (by decide) (fun c0 => ?_) (fun c0 => (by rw [e1] at c0; exact absurd c0 (by decide) : False).elim)
                refine j_iconst (pc := 152) C (nI 0) dX10_claims_152 (by decide) ?_
                have e9 : isClaim S (xN x) false w = false := by unfold isClaim; rw [e1]; rfl
                have e8 : fb_ct (isClaim S (xN x) false) (w + 1) = fb_ct (isClaim S (xN x) false) w + 0 := by rw [fb_ct_succ, e9]; rfl
                refine j_istore (pc := 153) C [(6, .int (nI 0)), (5, .int (nI 0)), (4, .int (nI w)), (3, .int (nI (fb_ct (isClaim S (xN x) false) w))), (0, .ref (x9 0)), (1, .int (nI (xN x))), (2, .int (bI false))] dX10_claims_153 (by decide) rfl ?_
                refine j_iload_n (pc := 155) C dX10_claims_155 rfl 3 rfl ?_
                refine j_iload (pc := 156) C dX10_claims_156 0 rfl ?_
                refine j_if_eq (pc := 158) C 165 dX10_claims_158 (by decide) (fun _ => ?_) (fun q => absurd q (by decide))
                refine j_iconst (pc := 165) C (nI 0) dX10_claims_165 (by decide) ?_
                refine j_iadd (pc := 166) C dX10_claims_166 ?_
                refine j_topi (nI (fb_ct (isClaim S (xN x) false) w + 0)) (nI_add (fb_ct (isClaim S (xN x) false) w) 0) ?_
                refine j_topi (nI (fb_ct (isClaim S (xN x) false) (w + 1))) (congrArg nI e8.symm) ?_
                refine j_istore_n (pc := 167) C [(3, .int (nI (fb_ct (isClaim S (xN x) false) (w + 1)))), (6, .int (nI 0)), (5, .int (nI 0)), (4, .int (nI w)), (0, .ref (x9 0)), (1, .int (nI (xN x))), (2, .int (bI false))] dX10_claims_167 rfl (by decide) rfl ?_
                refine j_iinc (pc := 168) C (nI (w + 1)) [(4, .int (nI (w + 1))), (3, .int (nI (fb_ct (isClaim S (xN x) false) (w + 1)))), (6, .int (nI 0)), (5, .int (nI 0)), (0, .ref (x9 0)), (1, .int (nI (xN x))), (2, .int (bI false))] dX10_claims_168 3 rfl (nI_add w 1) (by decide) rfl ?_
                refine j_goto (pc := 171) C 38 dX10_claims_171 (by decide) ?_
                exact J.to [0, 1, 4, 5, 6] rfl (ih (w + 1) σ9 (by omega) (by omega) hs hme)
              · refine j_aload_n (pc := 56) C dX10_claims_56 rfl 2 rfl ?_
                refine j_iload (pc := 57) C dX10_claims_57 0 rfl ?_
                refine j_aload_n (pc := 59) C dX10_claims_59 rfl 2 rfl ?_
                refine j_getI (pc := 60) C fp_X10_155 hs.2.1.1 rfl (f := 658) rfl dX10_claims_60 ?_
                refine j_topi (nI (on9 S)) (hs.rdI 658 0 0 (by decide) (by decide)) ?_
                refine j_callV (pc := 63) C [.int (nI w), .int (nI (on9 S))] [] (rm0 := ({ frames := 5, cells := 0, slots := 0, locals := 135 } : Room)) (k' := 0) (n' := 0) Q.1 (c_X10_fitsBy (xl X) (xw X) hs hw d0 (set := on9 S) (by omega)) mp_X10_fitsBy wm_1345 hs.2.1.1 rfl rfl (by decide) rfl rfl (Nat.le_of_ble_eq_true rfl) dX10_claims_63 ⟨by decide, by decide⟩ ⟨Nat.le_of_ble_eq_true rfl, Nat.le_of_ble_eq_true rfl⟩ rfl rfl (fun v9 σ3 hp9 => ?_)
                obtain ⟨rfl, hs, hme9⟩ := hp9
                have hme := hme.tr hme9.1
                show J X 0 0 σ3 [(4, .int (nI w)), (3, .int (nI (fb_ct (isClaim S (xN x) false) w))), (0, .ref (x9 0)), (1, .int (nI (xN x))), (2, .int (bI false))] [.int (bI (fitsBy S w (on9 S)))] 66
                refine jb_if_eq (pc := 66) C 73 (b := fitsBy S w (on9 S)) dX10_claims_66 (by decide) (fun e2 => ?_) (fun e2 => ?_)
                · refine j_iconst (pc := 73) C (nI 0) dX10_claims_73 (by decide) ?_
                  refine j_istore (pc := 74) C [(5, .int (nI 0)), (4, .int (nI w)), (3, .int (nI (fb_ct (isClaim S (xN x) false) w))), (0, .ref (x9 0)), (1, .int (nI (xN x))), (2, .int (bI false))] dX10_claims_74 (by decide) rfl ?_
                  refine j_iload_n (pc := 76) C dX10_claims_76 rfl 5 rfl ?_
                  refine j_if_eq (pc := 77) C 115 dX10_claims_77 (by decide) (fun _ => ?_) (fun q => absurd q (by decide))
                  refine j_aload_n (pc := 115) C dX10_claims_115 rfl 3 rfl ?_
                  refine j_iload (pc := 116) C dX10_claims_116 1 rfl ?_
                  refine j_callV (pc := 118) C [.int (nI w)] [] (rm0 := ({ frames := 5, cells := 0, slots := 0, locals := 135 } : Room)) (k' := 0) (n' := 0) Q.1 (c_X10_isBare (xl X) (xw X) hs hw d0) mp_X10_isBare wm_1341 hs.2.1.1 rfl rfl (by decide) rfl rfl (Nat.le_of_ble_eq_true rfl) dX10_claims_118 ⟨by decide, by decide⟩ ⟨Nat.le_of_ble_eq_true rfl, Nat.le_of_ble_eq_true rfl⟩ rfl rfl (det1 ?_)
                  refine jb_if_eq (pc := 121) C 152 (b := bare S w) dX10_claims_121 (by decide) (fun c0 => (by rw [e1] at c0; exact absurd c0 (by decide) : False).elim) (fun c0 => ?_)
                  refine j_iload (pc := 124) C dX10_claims_124 0 rfl ?_
                  refine j_if_ne (pc := 126) C 152 dX10_claims_126 (by decide) (fun q => absurd q (by decide)) (fun _ => ?_)
                  refine j_aload_n (pc := 129) C dX10_claims_129 rfl 3 rfl ?_
                  refine j_iload (pc := 130) C dX10_claims_130 1 rfl ?_
                  refine j_aload_n (pc := 132) C dX10_claims_132 rfl 3 rfl ?_
                  refine j_getI (pc := 133) C fp_X10_155 hs.2.1.1 rfl (f := 658) rfl dX10_claims_133 ?_
                  refine j_topi (nI (on9 S)) (hs.rdI 658 0 0 (by decide) (by decide)) ?_
                  refine j_iconst (pc := 136) C (nI 1) dX10_claims_136 (by decide) ?_
                  refine j_iload_n (pc := 137) C dX10_claims_137 rfl 4 rfl ?_
                  refine j_ishl (pc := 138) C dX10_claims_138 ?_
                  refine j_topi (nI (2 ^ xN x)) (shl1 (by omega)) ?_
                  refine j_iconst (pc := 139) C (-1) dX10_claims_139 (by decide) ?_
                  refine j_ixor (pc := 140) C dX10_claims_140 ?_
                  refine j_iand (pc := 141) C dX10_claims_141 ?_
                  refine j_topi (nI (setOn (on9 S) (xN x) false)) (setOn_off (by omega)) ?_
                  have hso : setOn (on9 S) (xN x) false < 2 ^ nR S := setOn_lt gO hx1
                  refine j_callV (pc := 142) C [.int (nI w), .int (nI (setOn (on9 S) (xN x) false))] [] (rm0 := ({ frames := 5, cells := 0, slots := 0, locals := 135 } : Room)) (k' := 0) (n' := 0) Q.1 (c_X10_fitsBy (xl X) (xw X) hs hw d0 (set := setOn (on9 S) (xN x) false) (by omega)) mp_X10_fitsBy wm_1345 hs.2.1.1 rfl rfl (by decide) rfl rfl (Nat.le_of_ble_eq_true rfl) dX10_claims_142 ⟨by decide, by decide⟩ ⟨Nat.le_of_ble_eq_true rfl, Nat.le_of_ble_eq_true rfl⟩ rfl rfl (fun v9 σ4 hp9 => ?_)
                  obtain ⟨rfl, hs, hme9⟩ := hp9
                  have hme := hme.tr hme9.1
                  show J X 0 0 σ4 [(5, .int (nI 0)), (4, .int (nI w)), (3, .int (nI (fb_ct (isClaim S (xN x) false) w))), (0, .ref (x9 0)), (1, .int (nI (xN x))), (2, .int (bI false))] [.int (bI (fitsBy S w (setOn (on9 S) (xN x) false)))] 145
                  refine jb_if_eq (pc := 145) C 152 (b := fitsBy S w (setOn (on9 S) (xN x) false)) dX10_claims_145 (by decide) (fun e3 => ?_) (fun e3 => ?_)
                  · refine j_iconst (pc := 152) C (nI 0) dX10_claims_152 (by decide) ?_
                    have e9 : isClaim S (xN x) false w = false := by unfold isClaim; rw [e1, e2, e3]; rfl
                    have e8 : fb_ct (isClaim S (xN x) false) (w + 1) = fb_ct (isClaim S (xN x) false) w + 0 := by rw [fb_ct_succ, e9]; rfl
                    refine j_istore (pc := 153) C [(6, .int (nI 0)), (5, .int (nI 0)), (4, .int (nI w)), (3, .int (nI (fb_ct (isClaim S (xN x) false) w))), (0, .ref (x9 0)), (1, .int (nI (xN x))), (2, .int (bI false))] dX10_claims_153 (by decide) rfl ?_
                    refine j_iload_n (pc := 155) C dX10_claims_155 rfl 3 rfl ?_
                    refine j_iload (pc := 156) C dX10_claims_156 0 rfl ?_
                    refine j_if_eq (pc := 158) C 165 dX10_claims_158 (by decide) (fun _ => ?_) (fun q => absurd q (by decide))
                    refine j_iconst (pc := 165) C (nI 0) dX10_claims_165 (by decide) ?_
                    refine j_iadd (pc := 166) C dX10_claims_166 ?_
                    refine j_topi (nI (fb_ct (isClaim S (xN x) false) w + 0)) (nI_add (fb_ct (isClaim S (xN x) false) w) 0) ?_
                    refine j_topi (nI (fb_ct (isClaim S (xN x) false) (w + 1))) (congrArg nI e8.symm) ?_
                    refine j_istore_n (pc := 167) C [(3, .int (nI (fb_ct (isClaim S (xN x) false) (w + 1)))), (6, .int (nI 0)), (5, .int (nI 0)), (4, .int (nI w)), (0, .ref (x9 0)), (1, .int (nI (xN x))), (2, .int (bI false))] dX10_claims_167 rfl (by decide) rfl ?_
                    refine j_iinc (pc := 168) C (nI (w + 1)) [(4, .int (nI (w + 1))), (3, .int (nI (fb_ct (isClaim S (xN x) false) (w + 1)))), (6, .int (nI 0)), (5, .int (nI 0)), (0, .ref (x9 0)), (1, .int (nI (xN x))), (2, .int (bI false))] dX10_claims_168 3 rfl (nI_add w 1) (by decide) rfl ?_
                    refine j_goto (pc := 171) C 38 dX10_claims_171 (by decide) ?_
                    exact J.to [0, 1, 4, 5, 6] rfl (ih (w + 1) σ4 (by omega) (by omega) hs hme)
                  · refine j_iconst (pc := 148) C (nI 1) dX10_claims_148 (by decide) ?_
                    refine j_goto (pc := 149) C 153 dX10_claims_149 (by decide) ?_
                    have e9 : isClaim S (xN x) false w = true := by unfold isClaim; rw [e1, e2, e3]; rfl
                    have e8 : fb_ct (isClaim S (xN x) false) (w + 1) = fb_ct (isClaim S (xN x) false) w + 1 := by rw [fb_ct_succ, e9]; rfl
                    refine j_istore (pc := 153) C [(6, .int (nI 1)), (5, .int (nI 0)), (4, .int (nI w)), (3, .int (nI (fb_ct (isClaim S (xN x) false) w))), (0, .ref (x9 0)), (1, .int (nI (xN x))), (2, .int (bI false))] dX10_claims_153 (by decide) rfl ?_
                    refine j_iload_n (pc := 155) C dX10_claims_155 rfl 3 rfl ?_
                    refine j_iload (pc := 156) C dX10_claims_156 0 rfl ?_
                    refine j_if_eq (pc := 158) C 165 dX10_claims_158 (by decide) (fun q => absurd q (by decide)) (fun _ => ?_)
                    refine j_iconst (pc := 161) C (nI 1) dX10_claims_161 (by decide) ?_
                    refine j_goto (pc := 162) C 166 dX10_claims_162 (by decide) ?_
                    refine j_iadd (pc := 166) C dX10_claims_166 ?_
                    refine j_topi (nI (fb_ct (isClaim S (xN x) false) w + 1)) (nI_add (fb_ct (isClaim S (xN x) false) w) 1) ?_
                    refine j_topi (nI (fb_ct (isClaim S (xN x) false) (w + 1))) (congrArg nI e8.symm) ?_
                    refine j_istore_n (pc := 167) C [(3, .int (nI (fb_ct (isClaim S (xN x) false) (w + 1)))), (6, .int (nI 1)), (5, .int (nI 0)), (4, .int (nI w)), (0, .ref (x9 0)), (1, .int (nI (xN x))), (2, .int (bI false))] dX10_claims_167 rfl (by decide) rfl ?_
                    refine j_iinc (pc := 168) C (nI (w + 1)) [(4, .int (nI (w + 1))), (3, .int (nI (fb_ct (isClaim S (xN x) false) (w + 1)))), (6, .int (nI 1)), (5, .int (nI 0)), (0, .ref (x9 0)), (1, .int (nI (xN x))), (2, .int (bI false))] dX10_claims_168 3 rfl (nI_add w 1) (by decide) rfl ?_
                    refine j_goto (pc := 171) C 38 dX10_claims_171 (by decide) ?_
                    exact J.to [0, 1, 4, 5, 6] rfl (ih (w + 1) σ4 (by omega) (by omega) hs hme)
                · refine j_iconst (pc := 69) C (nI 1) dX10_claims_69 (by decide) ?_
                  refine j_goto (pc := 70) C 74 dX10_claims_70 (by decide) ?_
                  refine j_istore (pc := 74) C [(5, .int (nI 1)), (4, .int (nI w)), (3, .int (nI (fb_ct (isClaim S (xN x) false) w))), (0, .ref (x9 0)), (1, .int (nI (xN x))), (2, .int (bI false))] dX10_claims_74 (by decide) rfl ?_
                  refine j_iload_n (pc := 76) C dX10_claims_76 rfl 5 rfl ?_
                  refine j_if_eq (pc := 77) C 115 dX10_claims_77 (by decide) (fun _ => ?_) (fun q => absurd q (by decide))
                  refine j_aload_n (pc := 115) C dX10_claims_115 rfl 3 rfl ?_
                  refine j_iload (pc := 116) C dX10_claims_116 1 rfl ?_
                  refine j_callV (pc := 118) C [.int (nI w)] [] (rm0 := ({ frames := 5, cells := 0, slots := 0, locals := 135 } : Room)) (k' := 0) (n' := 0) Q.1 (c_X10_isBare (xl X) (xw X) hs hw d0) mp_X10_isBare wm_1341 hs.2.1.1 rfl rfl (by decide) rfl rfl (Nat.le_of_ble_eq_true rfl) dX10_claims_118 ⟨by decide, by decide⟩ ⟨Nat.le_of_ble_eq_true rfl, Nat.le_of_ble_eq_true rfl⟩ rfl rfl (det1 ?_)
                  refine jb_if_eq (pc := 121) C 152 (b := bare S w) dX10_claims_121 (by decide) (fun c0 => (by rw [e1] at c0; exact absurd c0 (by decide) : False).elim) (fun c0 => ?_)
                  refine j_iload (pc := 124) C dX10_claims_124 0 rfl ?_
                  refine j_if_ne (pc := 126) C 152 dX10_claims_126 (by decide) (fun _ => ?_) (fun q => absurd q (by decide))
                  refine j_iconst (pc := 152) C (nI 0) dX10_claims_152 (by decide) ?_
                  have e9 : isClaim S (xN x) false w = false := by unfold isClaim; rw [e1, e2]; rfl
                  have e8 : fb_ct (isClaim S (xN x) false) (w + 1) = fb_ct (isClaim S (xN x) false) w + 0 := by rw [fb_ct_succ, e9]; rfl
                  refine j_istore (pc := 153) C [(6, .int (nI 0)), (5, .int (nI 1)), (4, .int (nI w)), (3, .int (nI (fb_ct (isClaim S (xN x) false) w))), (0, .ref (x9 0)), (1, .int (nI (xN x))), (2, .int (bI false))] dX10_claims_153 (by decide) rfl ?_
                  refine j_iload_n (pc := 155) C dX10_claims_155 rfl 3 rfl ?_
                  refine j_iload (pc := 156) C dX10_claims_156 0 rfl ?_
                  refine j_if_eq (pc := 158) C 165 dX10_claims_158 (by decide) (fun _ => ?_) (fun q => absurd q (by decide))
                  refine j_iconst (pc := 165) C (nI 0) dX10_claims_165 (by decide) ?_
                  refine j_iadd (pc := 166) C dX10_claims_166 ?_
                  refine j_topi (nI (fb_ct (isClaim S (xN x) false) w + 0)) (nI_add (fb_ct (isClaim S (xN x) false) w) 0) ?_
                  refine j_topi (nI (fb_ct (isClaim S (xN x) false) (w + 1))) (congrArg nI e8.symm) ?_
                  refine j_istore_n (pc := 167) C [(3, .int (nI (fb_ct (isClaim S (xN x) false) (w + 1)))), (6, .int (nI 0)), (5, .int (nI 1)), (4, .int (nI w)), (0, .ref (x9 0)), (1, .int (nI (xN x))), (2, .int (bI false))] dX10_claims_167 rfl (by decide) rfl ?_
                  refine j_iinc (pc := 168) C (nI (w + 1)) [(4, .int (nI (w + 1))), (3, .int (nI (fb_ct (isClaim S (xN x) false) (w + 1)))), (6, .int (nI 0)), (5, .int (nI 1)), (0, .ref (x9 0)), (1, .int (nI (xN x))), (2, .int (bI false))] dX10_claims_168 3 rfl (nI_add w 1) (by decide) rfl ?_
                  refine j_goto (pc := 171) C 38 dX10_claims_171 (by decide) ?_
                  exact J.to [0, 1, 4, 5, 6] rfl (ih (w + 1) σ3 (by omega) (by omega) hs hme)
            | true =>
              refine j_aload_n (pc := 47) C dX10_claims_47 rfl 2 rfl ?_
              refine j_iload (pc := 48) C dX10_claims_48 0 rfl ?_
              refine j_callV (pc := 50) C [.int (nI w)] [] (rm0 := ({ frames := 5, cells := 0, slots := 0, locals := 135 } : Room)) (k' := 0) (n' := 0) Q.1 (c_X10_isBare (xl X) (xw X) hs hw d0) mp_X10_isBare wm_1341 hs.2.1.1 rfl rfl (by decide) rfl rfl (Nat.le_of_ble_eq_true rfl) dX10_claims_50 ⟨by decide, by decide⟩ ⟨Nat.le_of_ble_eq_true rfl, Nat.le_of_ble_eq_true rfl⟩ rfl rfl (det1 ?_)
              refine jb_if_eq (pc := 53) C 73 (b := bare S w) dX10_claims_53 (by decide) (fun e1 => ?_) (fun e1 => ?_)
              · refine j_iconst (pc := 73) C (nI 0) dX10_claims_73 (by decide) ?_
                refine j_istore (pc := 74) C [(5, .int (nI 0)), (4, .int (nI w)), (3, .int (nI (fb_ct (isClaim S (xN x) true) w))), (0, .ref (x9 0)), (1, .int (nI (xN x))), (2, .int (bI true))] dX10_claims_74 (by decide) rfl ?_
                refine j_iload_n (pc := 76) C dX10_claims_76 rfl 5 rfl ?_
                refine j_if_eq (pc := 77) C 115 dX10_claims_77 (by decide) (fun q => absurd q (by decide)) (fun _ => ?_)
                refine j_iload (pc := 80) C dX10_claims_80 0 rfl ?_
                refine j_if_eq (pc := 82) C 111 dX10_claims_82 (by decide) (fun _ => ?_) (fun q => absurd q (by decide))
                refine j_iconst (pc := 111) C (nI 0) dX10_claims_111 (by decide) ?_
                refine j_goto (pc := 112) C 153 dX10_claims_112 (by decide) ?_
                have e9 : isClaim S (xN x) true w = false := by unfold isClaim; rw [e1]; rfl
                have e8 : fb_ct (isClaim S (xN x) true) (w + 1) = fb_ct (isClaim S (xN x) true) w + 0 := by rw [fb_ct_succ, e9]; rfl
                refine j_istore (pc := 153) C [(6, .int (nI 0)), (5, .int (nI 0)), (4, .int (nI w)), (3, .int (nI (fb_ct (isClaim S (xN x) true) w))), (0, .ref (x9 0)), (1, .int (nI (xN x))), (2, .int (bI true))] dX10_claims_153 (by decide) rfl ?_
                refine j_iload_n (pc := 155) C dX10_claims_155 rfl 3 rfl ?_
                refine j_iload (pc := 156) C dX10_claims_156 0 rfl ?_
                refine j_if_eq (pc := 158) C 165 dX10_claims_158 (by decide) (fun _ => ?_) (fun q => absurd q (by decide))
                refine j_iconst (pc := 165) C (nI 0) dX10_claims_165 (by decide) ?_
                refine j_iadd (pc := 166) C dX10_claims_166 ?_
                refine j_topi (nI (fb_ct (isClaim S (xN x) true) w + 0)) (nI_add (fb_ct (isClaim S (xN x) true) w) 0) ?_
                refine j_topi (nI (fb_ct (isClaim S (xN x) true) (w + 1))) (congrArg nI e8.symm) ?_
                refine j_istore_n (pc := 167) C [(3, .int (nI (fb_ct (isClaim S (xN x) true) (w + 1)))), (6, .int (nI 0)), (5, .int (nI 0)), (4, .int (nI w)), (0, .ref (x9 0)), (1, .int (nI (xN x))), (2, .int (bI true))] dX10_claims_167 rfl (by decide) rfl ?_
                refine j_iinc (pc := 168) C (nI (w + 1)) [(4, .int (nI (w + 1))), (3, .int (nI (fb_ct (isClaim S (xN x) true) (w + 1)))), (6, .int (nI 0)), (5, .int (nI 0)), (0, .ref (x9 0)), (1, .int (nI (xN x))), (2, .int (bI true))] dX10_claims_168 3 rfl (nI_add w 1) (by decide) rfl ?_
                refine j_goto (pc := 171) C 38 dX10_claims_171 (by decide) ?_
                exact J.to [0, 1, 4, 5, 6] rfl (ih (w + 1) σ9 (by omega) (by omega) hs hme)
              · refine j_aload_n (pc := 56) C dX10_claims_56 rfl 2 rfl ?_
                refine j_iload (pc := 57) C dX10_claims_57 0 rfl ?_
                refine j_aload_n (pc := 59) C dX10_claims_59 rfl 2 rfl ?_
                refine j_getI (pc := 60) C fp_X10_155 hs.2.1.1 rfl (f := 658) rfl dX10_claims_60 ?_
                refine j_topi (nI (on9 S)) (hs.rdI 658 0 0 (by decide) (by decide)) ?_
                refine j_callV (pc := 63) C [.int (nI w), .int (nI (on9 S))] [] (rm0 := ({ frames := 5, cells := 0, slots := 0, locals := 135 } : Room)) (k' := 0) (n' := 0) Q.1 (c_X10_fitsBy (xl X) (xw X) hs hw d0 (set := on9 S) (by omega)) mp_X10_fitsBy wm_1345 hs.2.1.1 rfl rfl (by decide) rfl rfl (Nat.le_of_ble_eq_true rfl) dX10_claims_63 ⟨by decide, by decide⟩ ⟨Nat.le_of_ble_eq_true rfl, Nat.le_of_ble_eq_true rfl⟩ rfl rfl (fun v9 σ5 hp9 => ?_)
                obtain ⟨rfl, hs, hme9⟩ := hp9
                have hme := hme.tr hme9.1
                show J X 0 0 σ5 [(4, .int (nI w)), (3, .int (nI (fb_ct (isClaim S (xN x) true) w))), (0, .ref (x9 0)), (1, .int (nI (xN x))), (2, .int (bI true))] [.int (bI (fitsBy S w (on9 S)))] 66
                refine jb_if_eq (pc := 66) C 73 (b := fitsBy S w (on9 S)) dX10_claims_66 (by decide) (fun e2 => ?_) (fun e2 => ?_)
                · refine j_iconst (pc := 73) C (nI 0) dX10_claims_73 (by decide) ?_
                  refine j_istore (pc := 74) C [(5, .int (nI 0)), (4, .int (nI w)), (3, .int (nI (fb_ct (isClaim S (xN x) true) w))), (0, .ref (x9 0)), (1, .int (nI (xN x))), (2, .int (bI true))] dX10_claims_74 (by decide) rfl ?_
                  refine j_iload_n (pc := 76) C dX10_claims_76 rfl 5 rfl ?_
                  refine j_if_eq (pc := 77) C 115 dX10_claims_77 (by decide) (fun q => absurd q (by decide)) (fun _ => ?_)
                  refine j_iload (pc := 80) C dX10_claims_80 0 rfl ?_
                  refine j_if_eq (pc := 82) C 111 dX10_claims_82 (by decide) (fun _ => ?_) (fun q => absurd q (by decide))
                  refine j_iconst (pc := 111) C (nI 0) dX10_claims_111 (by decide) ?_
                  refine j_goto (pc := 112) C 153 dX10_claims_112 (by decide) ?_
                  have e9 : isClaim S (xN x) true w = false := by unfold isClaim; rw [e1, e2]; rfl
                  have e8 : fb_ct (isClaim S (xN x) true) (w + 1) = fb_ct (isClaim S (xN x) true) w + 0 := by rw [fb_ct_succ, e9]; rfl
                  refine j_istore (pc := 153) C [(6, .int (nI 0)), (5, .int (nI 0)), (4, .int (nI w)), (3, .int (nI (fb_ct (isClaim S (xN x) true) w))), (0, .ref (x9 0)), (1, .int (nI (xN x))), (2, .int (bI true))] dX10_claims_153 (by decide) rfl ?_
                  refine j_iload_n (pc := 155) C dX10_claims_155 rfl 3 rfl ?_
                  refine j_iload (pc := 156) C dX10_claims_156 0 rfl ?_
                  refine j_if_eq (pc := 158) C 165 dX10_claims_158 (by decide) (fun _ => ?_) (fun q => absurd q (by decide))
                  refine j_iconst (pc := 165) C (nI 0) dX10_claims_165 (by decide) ?_
                  refine j_iadd (pc := 166) C dX10_claims_166 ?_
                  refine j_topi (nI (fb_ct (isClaim S (xN x) true) w + 0)) (nI_add (fb_ct (isClaim S (xN x) true) w) 0) ?_
                  refine j_topi (nI (fb_ct (isClaim S (xN x) true) (w + 1))) (congrArg nI e8.symm) ?_
                  refine j_istore_n (pc := 167) C [(3, .int (nI (fb_ct (isClaim S (xN x) true) (w + 1)))), (6, .int (nI 0)), (5, .int (nI 0)), (4, .int (nI w)), (0, .ref (x9 0)), (1, .int (nI (xN x))), (2, .int (bI true))] dX10_claims_167 rfl (by decide) rfl ?_
                  refine j_iinc (pc := 168) C (nI (w + 1)) [(4, .int (nI (w + 1))), (3, .int (nI (fb_ct (isClaim S (xN x) true) (w + 1)))), (6, .int (nI 0)), (5, .int (nI 0)), (0, .ref (x9 0)), (1, .int (nI (xN x))), (2, .int (bI true))] dX10_claims_168 3 rfl (nI_add w 1) (by decide) rfl ?_
                  refine j_goto (pc := 171) C 38 dX10_claims_171 (by decide) ?_
                  exact J.to [0, 1, 4, 5, 6] rfl (ih (w + 1) σ5 (by omega) (by omega) hs hme)
                · refine j_iconst (pc := 69) C (nI 1) dX10_claims_69 (by decide) ?_
                  refine j_goto (pc := 70) C 74 dX10_claims_70 (by decide) ?_
                  refine j_istore (pc := 74) C [(5, .int (nI 1)), (4, .int (nI w)), (3, .int (nI (fb_ct (isClaim S (xN x) true) w))), (0, .ref (x9 0)), (1, .int (nI (xN x))), (2, .int (bI true))] dX10_claims_74 (by decide) rfl ?_
                  refine j_iload_n (pc := 76) C dX10_claims_76 rfl 5 rfl ?_
                  refine j_if_eq (pc := 77) C 115 dX10_claims_77 (by decide) (fun q => absurd q (by decide)) (fun _ => ?_)
                  refine j_iload (pc := 80) C dX10_claims_80 0 rfl ?_
                  refine j_if_eq (pc := 82) C 111 dX10_claims_82 (by decide) (fun q => absurd q (by decide)) (fun _ => ?_)
                  refine j_aload_n (pc := 85) C dX10_claims_85 rfl 3 rfl ?_
                  refine j_aload_n (pc := 86) C dX10_claims_86 rfl 3 rfl ?_
                  refine j_getA (pc := 87) C fp_X10_51 hs.2.1.1 rfl (f := 661) rfl (11, 31) (x9 21) ((hs.2.1.2 21 (by decide) (by decide)).1) ((hs.2.1.2 21 (by decide) (by decide)).2.1) dX10_claims_87 ?_
                  refine j_iload (pc := 90) C dX10_claims_90 1 rfl ?_
                  refine j_iald (pc := 92) C (p := w) (M := 40) ((hs.2.1.2 21 (by decide) (by decide)).2.1) rfl ((hs.2.1.2 21 (by decide) (by decide)).2.2) (by omega) (by decide) dX10_claims_92 ?_
                  refine j_topi (nI (ol S w)) (hs.rdI 704 31 w (by decide) (by decide)) ?_
                  refine j_aload_n (pc := 93) C dX10_claims_93 rfl 3 rfl ?_
                  refine j_getA (pc := 94) C fp_X10_54 hs.2.1.1 rfl (f := 662) rfl (11, 32) (x9 22) ((hs.2.1.2 22 (by decide) (by decide)).1) ((hs.2.1.2 22 (by decide) (by decide)).2.1) dX10_claims_94 ?_
                  refine j_iload (pc := 97) C dX10_claims_97 1 rfl ?_
                  refine j_iald (pc := 99) C (p := w) (M := 40) ((hs.2.1.2 22 (by decide) (by decide)).2.1) rfl ((hs.2.1.2 22 (by decide) (by decide)).2.2) (by omega) (by decide) dX10_claims_99 ?_
                  refine j_topi (nI (cw S w)) (hs.rdI 704 32 w (by decide) (by decide)) ?_
                  refine j_iload_n (pc := 100) C dX10_claims_100 rfl 4 rfl ?_
                  refine j_callV (pc := 101) C [.int (nI (ol S w)), .int (nI (cw S w)), .int (nI (xN x))] [] (rm0 := ({ frames := 5, cells := 0, slots := 0, locals := 135 } : Room)) (k' := 0) (n' := 0) Q.1 (c_X10_steps (xl X) (xw X) hs hw q1 q2 hx1) mp_X10_steps wm_1321 hs.2.1.1 rfl rfl (by decide) rfl rfl (Nat.le_of_ble_eq_true rfl) dX10_claims_101 ⟨by decide, by decide⟩ ⟨Nat.le_of_ble_eq_true rfl, Nat.le_of_ble_eq_true rfl⟩ rfl rfl (fun v9 σ6 hp9 => ?_)
                  obtain ⟨rfl, hs, hme9⟩ := hp9
                  have hme := hme.tr hme9.1
                  show J X 0 0 σ6 [(5, .int (nI 1)), (4, .int (nI w)), (3, .int (nI (fb_ct (isClaim S (xN x) true) w))), (0, .ref (x9 0)), (1, .int (nI (xN x))), (2, .int (bI true))] [.int (nI (steps9 S (ol S w) (cw S w) (xN x)))] 104
                  have hsl : steps9 S (ol S w) (cw S w) (xN x) < 2 ^ 31 := by
                    have hk := steps_le hw q1 q2 hx1 (c := cw S w)
                    omega
                  refine jn_if_le (pc := 104) C 111 (a := steps9 S (ol S w) (cw S w) (xN x)) (by omega) dX10_claims_104 (by decide) (fun e3 => ?_) (fun e3 => ?_)
                  · refine j_iconst (pc := 111) C (nI 0) dX10_claims_111 (by decide) ?_
                    refine j_goto (pc := 112) C 153 dX10_claims_112 (by decide) ?_
                    have e9 : isClaim S (xN x) true w = false := by unfold isClaim; rw [e1, e2, show steps9 S (ol S w) (cw S w) (xN x) = 0 by omega]; rfl
                    have e8 : fb_ct (isClaim S (xN x) true) (w + 1) = fb_ct (isClaim S (xN x) true) w + 0 := by rw [fb_ct_succ, e9]; rfl
                    refine j_istore (pc := 153) C [(6, .int (nI 0)), (5, .int (nI 1)), (4, .int (nI w)), (3, .int (nI (fb_ct (isClaim S (xN x) true) w))), (0, .ref (x9 0)), (1, .int (nI (xN x))), (2, .int (bI true))] dX10_claims_153 (by decide) rfl ?_
                    refine j_iload_n (pc := 155) C dX10_claims_155 rfl 3 rfl ?_
                    refine j_iload (pc := 156) C dX10_claims_156 0 rfl ?_
                    refine j_if_eq (pc := 158) C 165 dX10_claims_158 (by decide) (fun _ => ?_) (fun q => absurd q (by decide))
                    refine j_iconst (pc := 165) C (nI 0) dX10_claims_165 (by decide) ?_
                    refine j_iadd (pc := 166) C dX10_claims_166 ?_
                    refine j_topi (nI (fb_ct (isClaim S (xN x) true) w + 0)) (nI_add (fb_ct (isClaim S (xN x) true) w) 0) ?_
                    refine j_topi (nI (fb_ct (isClaim S (xN x) true) (w + 1))) (congrArg nI e8.symm) ?_
                    refine j_istore_n (pc := 167) C [(3, .int (nI (fb_ct (isClaim S (xN x) true) (w + 1)))), (6, .int (nI 0)), (5, .int (nI 1)), (4, .int (nI w)), (0, .ref (x9 0)), (1, .int (nI (xN x))), (2, .int (bI true))] dX10_claims_167 rfl (by decide) rfl ?_
                    refine j_iinc (pc := 168) C (nI (w + 1)) [(4, .int (nI (w + 1))), (3, .int (nI (fb_ct (isClaim S (xN x) true) (w + 1)))), (6, .int (nI 0)), (5, .int (nI 1)), (0, .ref (x9 0)), (1, .int (nI (xN x))), (2, .int (bI true))] dX10_claims_168 3 rfl (nI_add w 1) (by decide) rfl ?_
                    refine j_goto (pc := 171) C 38 dX10_claims_171 (by decide) ?_
                    exact J.to [0, 1, 4, 5, 6] rfl (ih (w + 1) σ6 (by omega) (by omega) hs hme)
                  · refine j_iconst (pc := 107) C (nI 1) dX10_claims_107 (by decide) ?_
                    refine j_goto (pc := 108) C 153 dX10_claims_108 (by decide) ?_
                    have e9 : isClaim S (xN x) true w = true := by unfold isClaim; rw [e1, e2]; exact decide_eq_true (by omega)
                    have e8 : fb_ct (isClaim S (xN x) true) (w + 1) = fb_ct (isClaim S (xN x) true) w + 1 := by rw [fb_ct_succ, e9]; rfl
                    refine j_istore (pc := 153) C [(6, .int (nI 1)), (5, .int (nI 1)), (4, .int (nI w)), (3, .int (nI (fb_ct (isClaim S (xN x) true) w))), (0, .ref (x9 0)), (1, .int (nI (xN x))), (2, .int (bI true))] dX10_claims_153 (by decide) rfl ?_
                    refine j_iload_n (pc := 155) C dX10_claims_155 rfl 3 rfl ?_
                    refine j_iload (pc := 156) C dX10_claims_156 0 rfl ?_
                    refine j_if_eq (pc := 158) C 165 dX10_claims_158 (by decide) (fun q => absurd q (by decide)) (fun _ => ?_)
                    refine j_iconst (pc := 161) C (nI 1) dX10_claims_161 (by decide) ?_
                    refine j_goto (pc := 162) C 166 dX10_claims_162 (by decide) ?_
                    refine j_iadd (pc := 166) C dX10_claims_166 ?_
                    refine j_topi (nI (fb_ct (isClaim S (xN x) true) w + 1)) (nI_add (fb_ct (isClaim S (xN x) true) w) 1) ?_
                    refine j_topi (nI (fb_ct (isClaim S (xN x) true) (w + 1))) (congrArg nI e8.symm) ?_
                    refine j_istore_n (pc := 167) C [(3, .int (nI (fb_ct (isClaim S (xN x) true) (w + 1)))), (6, .int (nI 1)), (5, .int (nI 1)), (4, .int (nI w)), (0, .ref (x9 0)), (1, .int (nI (xN x))), (2, .int (bI true))] dX10_claims_167 rfl (by decide) rfl ?_
                    refine j_iinc (pc := 168) C (nI (w + 1)) [(4, .int (nI (w + 1))), (3, .int (nI (fb_ct (isClaim S (xN x) true) (w + 1)))), (6, .int (nI 1)), (5, .int (nI 1)), (0, .ref (x9 0)), (1, .int (nI (xN x))), (2, .int (bI true))] dX10_claims_168 3 rfl (nI_add w 1) (by decide) rfl ?_
                    refine j_goto (pc := 171) C 38 dX10_claims_171 (by decide) ?_
                    exact J.to [0, 1, 4, 5, 6] rfl (ih (w + 1) σ6 (by omega) (by omega) hs hme)
      exact J.to [0, 1, 2, 3, 4] rfl (loop (nW S + 1) 0 _ (Nat.zero_le _) (by omega) hs hme)
    · have hof : ¬ (on9 S).testBit (xN x) = true := fun e => by rw [e] at c2; exact absurd c2 (by decide)
      refine j_iconst (pc := 31) C (nI 0) dX10_claims_31 (by decide) ?_
      exact j_ireturn (pc := 32) C Q dX10_claims_32 (Nat.le_of_ble_eq_true rfl) (Nat.le_of_ble_eq_true rfl) (by unfold s_claims; rw [if_neg (by rw [c1]; decide), if_neg hof]; exact ⟨rfl, hs, hme⟩)
set_option maxHeartbeats 4000000 in
set_option maxRecDepth 100000 in
theorem c_X10_question (L9 : Launch) (w9 : Wd) {σ : HS} {S : SP} {x9 : Nat → Nat} {k9 : Int32} (hs : RS S x9 k9 σ) (hw : WF S) : MJ L9 w9 yX10_question cX10_question 9 (some .int) ({ frames := 6, cells := 0, slots := 0, locals := 157 } : Room) [.ref (x9 0)] σ (fun a9 σ' => a9 = some (.int (s_question S).2.1) ∧ RS (s_question S).2.2 x9 (nI (s_question S).1) σ' ∧ ME σ σ') := by
  refine MJ.of (by decide +kernel) (Nat.le_of_ble_eq_true rfl) (fun X hX1 hX2 C Q hinit => ?_)
  subst hX1; subst hX2
  show J X 0 0 σ [(0, .ref (x9 0))] [] 0
  have hme : ME σ σ := ME.rf
  have gR := hw.2.1.1
  have gL := hw.2.2.1.1
  have g6 : 2 ^ nR S ≤ 2 ^ 6 := Nat.pow_le_pow_right (by decide) gR
  have gq := qs9_lt S (2 ^ nR S)
  have g64 : 2 ^ 2 ^ nR S ≤ 2 ^ 64 := Nat.pow_le_pow_right (by decide) (by omega)
  refine j_aload_n (pc := 0) C dX10_question_0 rfl 0 rfl ?_
  refine j_iconst (pc := 1) C (nI 0) dX10_question_1 (by decide) ?_
  refine j_putI (pc := 2) C fp_X10_86 hs.2.1.1 rfl rfl (Or.inl rfl) rfl (by decide) (f := 640) rfl dX10_question_2 ?_
  have hs := hs.wT (nI 0); have hme := hme.sI (f := 640) (i := 0) (j := 0) (v := (nI 0)) rfl
  generalize sI σ 640 0 0 (nI 0) = σ1 at hs hme ⊢
  refine j_lconst (pc := 5) C (lN 0) dX10_question_5 (by decide) ?_
  refine j_lstore_n (pc := 6) C [(1, .long (lN 0)), (0, .ref (x9 0))] dX10_question_6 rfl (by decide) rfl ?_
  refine j_iconst (pc := 7) C (nI 0) dX10_question_7 (by decide) ?_
  refine j_istore_n (pc := 8) C [(3, .int (nI 0)), (1, .long (lN 0)), (0, .ref (x9 0))] dX10_question_8 rfl (by decide) rfl ?_
  have loop : ∀ (f : Nat) (set : Nat) (σ9 : HS), (set ≤ 2 ^ nR S) → (2 ^ nR S < set + f) → RS S x9 (nI 0) σ9 → ME σ σ9 → J X 0 0 σ9 [(3, .int (nI set)), (1, .long (lN (qs9 S set))), (0, .ref (x9 0))] [] 9 := by
    clear hs hme
    intro f
    induction f with
    | zero => intro set σ9 h1 h2; exact absurd h2 (by omega)
    | succ f ih =>
      intro set σ9 h1 h2 hs hme
      refine j_iload_n (pc := 9) C dX10_question_9 rfl 0 rfl ?_
      refine j_iconst (pc := 10) C (nI 1) dX10_question_10 (by decide) ?_
      refine j_aload_n (pc := 11) C dX10_question_11 rfl 2 rfl ?_
      refine j_getI (pc := 12) C fp_X10_133 hs.2.1.1 rfl (f := 659) rfl dX10_question_12 ?_
      refine j_topi (nI (nR S)) (hs.rdI 659 0 0 (by decide) (by decide)) ?_
      refine j_ishl (pc := 15) C dX10_question_15 ?_
      refine j_topi (nI (2 ^ nR S)) (shl1 (by omega)) ?_
      refine jn_icmp_ge (pc := 16) C 43 (a := set) (b := 2 ^ nR S) (by omega) (by omega) dX10_question_16 (by decide) (fun c1 => ?_) (fun c1 => ?_)
      · have e : set = 2 ^ nR S := Nat.le_antisymm h1 c1
        rw [e]
        refine j_iconst (pc := 43) C (-1) dX10_question_43 (by decide) ?_
        refine j_istore_n (pc := 44) C [(3, .int (-1)), (1, .long (lN (qs9 S (2 ^ nR S)))), (0, .ref (x9 0))] dX10_question_44 rfl (by decide) rfl ?_
        refine j_iconst (pc := 45) C (nI 1) dX10_question_45 (by decide) ?_
        refine j_istore (pc := 46) C [(4, .int (nI 1)), (3, .int (-1)), (1, .long (lN (qs9 S (2 ^ nR S)))), (0, .ref (x9 0))] dX10_question_46 (by decide) rfl ?_
        refine j_iconst (pc := 48) C (nI 0) dX10_question_48 (by decide) ?_
        refine j_istore (pc := 49) C [(5, .int (nI 0)), (4, .int (nI 1)), (3, .int (-1)), (1, .long (lN (qs9 S (2 ^ nR S)))), (0, .ref (x9 0))] dX10_question_49 (by decide) rfl ?_
        have hbit : ∀ k, k < 2 ^ nR S → (qs9 S (2 ^ nR S)).testBit k = fitset S k := fun k hk => by rw [qs9_bit, decide_eq_true hk]; rfl
        have loop2 : ∀ (g : Nat) (l : Nat) (fd : Int32) (ms : Nat) (σ9 : HS), (l ≤ nL S) → (nL S < l + g) → (fd = noneI (ques S (8 * l)).2) → (ms = (ques S (8 * l)).1) → RS S x9 (nI 0) σ9 → ME σ σ9 → J X 0 0 σ9 [(5, .int (nI l)), (4, .int (nI ms)), (3, .int fd), (1, .long (lN (qs9 S (2 ^ nR S)))), (0, .ref (x9 0))] [] 51 := by
          clear hs hme
          intro g
          induction g with
          | zero => intro l fd ms σ9 k1 k2 k3 k4; exact absurd k2 (by omega)
          | succ g ih2 =>
            intro l fd ms σ9 k1 k2 k3 k4 hs hme
            refine j_iload (pc := 51) C dX10_question_51 0 rfl ?_
            refine j_aload_n (pc := 53) C dX10_question_53 rfl 4 rfl ?_
            refine j_getI (pc := 54) C fp_X10_130 hs.2.1.1 rfl (f := 650) rfl dX10_question_54 ?_
            refine j_topi (nI (nL S)) (hs.rdI 650 0 0 (by decide) (by decide)) ?_
            refine jn_icmp_ge (pc := 57) C 180 (a := l) (b := nL S) (by omega) (by omega) dX10_question_57 (by decide) (fun d1 => ?_) (fun d1 => ?_)
            · have e2 : l = nL S := Nat.le_antisymm k1 d1
              refine j_iload_n (pc := 180) C dX10_question_180 rfl 2 rfl ?_
              refine j_topi (noneI (ques S (8 * nL S)).2) (by rw [k3, e2]) ?_
              exact j_ireturn (pc := 181) C Q dX10_question_181 (Nat.le_of_ble_eq_true rfl) (Nat.le_of_ble_eq_true rfl) (by unfold s_question; exact ⟨rfl, hs, hme⟩)
            · refine j_iconst (pc := 60) C (nI 0) dX10_question_60 (by decide) ?_
              refine j_istore (pc := 61) C [(6, .int (nI 0)), (5, .int (nI l)), (4, .int (nI ms)), (3, .int fd), (1, .long (lN (qs9 S (2 ^ nR S)))), (0, .ref (x9 0))] dX10_question_61 (by decide) rfl ?_
              have loop3 : ∀ (g2 : Nat) (c : Nat) (fe9 : Int32) (mt : Nat) (σ9 : HS), (c ≤ 8) → (8 < c + g2) → (fe9 = noneI (ques S (8 * l + c)).2) → (mt = (ques S (8 * l + c)).1) → RS S x9 (nI 0) σ9 → ME σ σ9 → J X 0 0 σ9 [(6, .int (nI c)), (5, .int (nI l)), (4, .int (nI mt)), (3, .int fe9), (1, .long (lN (qs9 S (2 ^ nR S)))), (0, .ref (x9 0))] [] 63 := by
                clear hs hme
                intro g2
                induction g2 with
                | zero => intro c fe9 mt σ9 m1 m2 m3 m4; exact absurd m2 (by omega)
                | succ g2 ih3 =>
                  intro c fe9 mt σ9 m1 m2 m3 m4 hs hme
                  have hq := ques_le S (8 * l + c)
                  have hqn := qn_le S l c
                  have hT : th S l ≤ 1 := hw.2.2.1.2.2.2.2.2.2.1 l
                  refine j_iload (pc := 63) C dX10_question_63 0 rfl ?_
                  refine j_bipush (pc := 65) C (nI 8) dX10_question_65 (by decide) ?_
                  refine jn_icmp_ge (pc := 67) C 174 (a := c) (b := 8) (by omega) (by omega) dX10_question_67 (by decide) (fun e1 => ?_) (fun e1 => ?_)
                  · have e2 : c = 8 := Nat.le_antisymm m1 e1
                    refine j_iinc (pc := 174) C (nI (l + 1)) [(5, .int (nI (l + 1))), (6, .int (nI c)), (4, .int (nI mt)), (3, .int fe9), (1, .long (lN (qs9 S (2 ^ nR S)))), (0, .ref (x9 0))] dX10_question_174 1 rfl (nI_add l 1) (by decide) rfl ?_
                    refine j_goto (pc := 177) C 51 dX10_question_177 (by decide) ?_
                    have l0 := ih2 (l + 1) fe9 mt σ9 (by omega) (by omega) (by rw [m3, e2, show 8 * l + 8 = 8 * (l + 1) by omega]) (by rw [m4, e2, show 8 * l + 8 = 8 * (l + 1) by omega]) hs hme
                    exact J.to [0, 2, 3, 4, 5] rfl l0
                  · refine j_aload_n (pc := 70) C dX10_question_70 rfl 5 rfl ?_
                    refine j_getA (pc := 71) C fp_X10_26 hs.2.1.1 rfl (f := 649) rfl (13, 9) (x9 9) ((hs.2.1.2 9 (by decide) (by decide)).1) ((hs.2.1.2 9 (by decide) (by decide)).2.1) dX10_question_71 ?_
                    refine j_iload (pc := 74) C dX10_question_74 1 rfl ?_
                    refine j_zald (pc := 76) C (p := l) (M := 16) ((hs.2.1.2 9 (by decide) (by decide)).2.1) rfl ((hs.2.1.2 9 (by decide) (by decide)).2.2) (by omega) (by decide) dX10_question_76 ?_
                    refine j_topi (nI (th S l)) (hs.rdI 832 9 l (by decide) (by decide)) ?_
                    refine jn_if_eq (pc := 77) C 174 (a := th S l) (by omega) dX10_question_77 (by decide) (fun e2 => ?_) (fun e2 => ?_)
                    · have e3 := ques_out (S := S) (l := l) (fun z => by omega) c (8 - c) (by omega)
                      refine j_iinc (pc := 174) C (nI (l + 1)) [(5, .int (nI (l + 1))), (6, .int (nI c)), (4, .int (nI mt)), (3, .int fe9), (1, .long (lN (qs9 S (2 ^ nR S)))), (0, .ref (x9 0))] dX10_question_174 1 rfl (nI_add l 1) (by decide) rfl ?_
                      refine j_goto (pc := 177) C 51 dX10_question_177 (by decide) ?_
                      have l0 := ih2 (l + 1) fe9 mt σ9 (by omega) (by omega) (by rw [m3, show 8 * (l + 1) = 8 * l + (c + (8 - c)) by omega, e3]) (by rw [m4, show 8 * (l + 1) = 8 * l + (c + (8 - c)) by omega, e3]) hs hme
                      exact J.to [0, 2, 3, 4, 5] rfl l0
                    · have t1 : th S l = 1 := by omega
                      have qs := ques_succ S l e1
                      have J130 : ∀ σ8 : HS, RS S x9 (nI 0) σ8 → ME σ σ8 → J X 0 0 σ8 [(6, .int (nI c)), (5, .int (nI l)), (4, .int (nI mt)), (3, .int fe9), (1, .long (lN (qs9 S (2 ^ nR S)))), (0, .ref (x9 0))] [.int (nI (qn S l c))] 130 := by
                        intro σ8 hs hme
                        refine j_istore (pc := 130) C [(8, .int (nI (qn S l c))), (6, .int (nI c)), (5, .int (nI l)), (4, .int (nI mt)), (3, .int fe9), (1, .long (lN (qs9 S (2 ^ nR S)))), (0, .ref (x9 0))] dX10_question_130 (by decide) rfl ?_
                        refine j_iload (pc := 132) C dX10_question_132 0 rfl ?_
                        refine j_iload (pc := 134) C dX10_question_134 3 rfl ?_
                        refine jn_icmp_le (pc := 136) C 150 (a := qn S l c) (b := mt) (by omega) (by omega) dX10_question_136 (by decide) (fun f1 => ?_) (fun f1 => ?_)
                        · have e9 : ques S (8 * l + (c + 1)) = ques S (8 * l + c) := by rw [qs, if_neg (fun z => absurd z.2 (by omega))]
                          refine j_iload_n (pc := 150) C dX10_question_150 rfl 4 rfl ?_
                          refine j_istore_n (pc := 151) C [(3, .int fe9), (8, .int (nI (qn S l c))), (6, .int (nI c)), (5, .int (nI l)), (4, .int (nI mt)), (1, .long (lN (qs9 S (2 ^ nR S)))), (0, .ref (x9 0))] dX10_question_151 rfl (by decide) rfl ?_
                          refine j_iload (pc := 152) C dX10_question_152 1 rfl ?_
                          refine j_iload (pc := 154) C dX10_question_154 4 rfl ?_
                          refine jn_icmp_le (pc := 156) C 164 (a := qn S l c) (b := mt) (by omega) (by omega) dX10_question_156 (by decide) (fun c0 => ?_) (fun c0 => (absurd c0 (by omega) : False).elim)
                          refine j_iload (pc := 164) C dX10_question_164 4 rfl ?_
                          refine j_istore (pc := 166) C [(4, .int (nI mt)), (3, .int fe9), (8, .int (nI (qn S l c))), (6, .int (nI c)), (5, .int (nI l)), (1, .long (lN (qs9 S (2 ^ nR S)))), (0, .ref (x9 0))] dX10_question_166 (by decide) rfl ?_
                          refine j_iinc (pc := 168) C (nI (c + 1)) [(6, .int (nI (c + 1))), (4, .int (nI mt)), (3, .int fe9), (8, .int (nI (qn S l c))), (5, .int (nI l)), (1, .long (lN (qs9 S (2 ^ nR S)))), (0, .ref (x9 0))] dX10_question_168 3 rfl (nI_add c 1) (by decide) rfl ?_
                          refine j_goto (pc := 171) C 63 dX10_question_171 (by decide) ?_
                          exact J.to [0, 4, 1, 2, 5, 6] rfl (ih3 (c + 1) fe9 mt σ8 (by omega) (by omega) (by rw [m3, e9]) (by rw [m4, e9]) hs hme)
                        · have e9 : ques S (8 * l + (c + 1)) = (qn S l c, some (8 * l + c)) := by rw [qs, if_pos ⟨t1, by omega⟩]
                          refine j_bipush (pc := 139) C (nI 8) dX10_question_139 (by decide) ?_
                          refine j_iload (pc := 141) C dX10_question_141 2 rfl ?_
                          refine j_imul (pc := 143) C dX10_question_143 ?_
                          refine j_topi (nI (8 * l)) (pk_mul 8 l) ?_
                          refine j_iload (pc := 144) C dX10_question_144 1 rfl ?_
                          refine j_iadd (pc := 146) C dX10_question_146 ?_
                          refine j_topi (nI (8 * l + c)) (nI_add (8 * l) c) ?_
                          refine j_goto (pc := 147) C 151 dX10_question_147 (by decide) ?_
                          refine j_istore_n (pc := 151) C [(3, .int (nI (8 * l + c))), (8, .int (nI (qn S l c))), (6, .int (nI c)), (5, .int (nI l)), (4, .int (nI mt)), (1, .long (lN (qs9 S (2 ^ nR S)))), (0, .ref (x9 0))] dX10_question_151 rfl (by decide) rfl ?_
                          refine j_iload (pc := 152) C dX10_question_152 1 rfl ?_
                          refine j_iload (pc := 154) C dX10_question_154 4 rfl ?_
                          refine jn_icmp_le (pc := 156) C 164 (a := qn S l c) (b := mt) (by omega) (by omega) dX10_question_156 (by decide) (fun c0 => (absurd c0 (by omega) : False).elim) (fun c0 => ?_)
                          refine j_iload (pc := 159) C dX10_question_159 1 rfl ?_
                          refine j_goto (pc := 161) C 166 dX10_question_161 (by decide) ?_
                          refine j_istore (pc := 166) C [(4, .int (nI (qn S l c))), (3, .int (nI (8 * l + c))), (8, .int (nI (qn S l c))), (6, .int (nI c)), (5, .int (nI l)), (1, .long (lN (qs9 S (2 ^ nR S)))), (0, .ref (x9 0))] dX10_question_166 (by decide) rfl ?_
                          refine j_iinc (pc := 168) C (nI (c + 1)) [(6, .int (nI (c + 1))), (4, .int (nI (qn S l c))), (3, .int (nI (8 * l + c))), (8, .int (nI (qn S l c))), (5, .int (nI l)), (1, .long (lN (qs9 S (2 ^ nR S)))), (0, .ref (x9 0))] dX10_question_168 3 rfl (nI_add c 1) (by decide) rfl ?_
                          refine j_goto (pc := 171) C 63 dX10_question_171 (by decide) ?_
                          exact J.to [0, 4, 1, 2, 5, 6] rfl (ih3 (c + 1) (nI (8 * l + c)) (qn S l c) σ8 (by omega) (by omega) (by rw [e9]; rfl) (by rw [e9]) hs hme)
                      refine j_aload_n (pc := 80) C dX10_question_80 rfl 5 rfl ?_
                      refine j_iload (pc := 81) C dX10_question_81 1 rfl ?_
                      refine j_iload (pc := 83) C dX10_question_83 0 rfl ?_
                      refine j_callV (pc := 85) C [.int (nI l), .int (nI c)] [] (rm0 := ({ frames := 6, cells := 0, slots := 0, locals := 157 } : Room)) (k' := 0) (n' := 0) Q.1 (c_X10_isException (xl X) (xw X) hs hw d1 e1) mp_X10_isException wm_1258 hs.2.1.1 rfl rfl (by decide) rfl rfl (Nat.le_of_ble_eq_true rfl) dX10_question_85 ⟨by decide, by decide⟩ ⟨Nat.le_of_ble_eq_true rfl, Nat.le_of_ble_eq_true rfl⟩ rfl rfl (det1 ?_)
                      refine jb_if_ne (pc := 88) C 109 (b := (xc9 S l c).isSome) dX10_question_88 (by decide) (fun f2 => ?_) (fun f2 => ?_)
                      · refine j_iconst (pc := 109) C (nI 0) dX10_question_109 (by decide) ?_
                        refine j_istore (pc := 110) C [(7, .int (nI 0)), (6, .int (nI c)), (5, .int (nI l)), (4, .int (nI mt)), (3, .int fe9), (1, .long (lN (qs9 S (2 ^ nR S)))), (0, .ref (x9 0))] dX10_question_110 (by decide) rfl ?_
                        refine j_iload (pc := 112) C dX10_question_112 0 rfl ?_
                        refine j_if_eq (pc := 114) C 129 dX10_question_114 (by decide) (fun _ => ?_) (fun q => absurd q (by decide))
                        refine j_iconst (pc := 129) C (nI 0) dX10_question_129 (by decide) ?_
                        refine j_topi (nI (qn S l c)) (congrArg nI (show 0 = qn S l c by unfold qn; rw [if_neg (show ¬ ((xc9 S l c).isNone = true ∧ (heardIn S l (nW S)).testBit c = false) from fun z => by rw [Option.isNone_iff_eq_none] at z; rw [z.1] at f2; cases f2)])) ?_
                        exact J.to [1, 2, 3, 4, 5, 6] rfl (J130 σ9 hs hme)
                      · have hnn : (xc9 S l c).isNone = true := by cases e3 : xc9 S l c with
                          | none => rfl
                          | some r => rw [e3] at f2; cases f2
                        refine j_aload_n (pc := 91) C dX10_question_91 rfl 5 rfl ?_
                        refine j_iload (pc := 92) C dX10_question_92 1 rfl ?_
                        refine j_callV (pc := 94) C [.int (nI l)] [] (rm0 := ({ frames := 6, cells := 0, slots := 0, locals := 157 } : Room)) (k' := 0) (n' := 0) Q.1 (c_X10_heardIn (xl X) (xw X) hs hw d1) mp_X10_heardIn wm_1368 hs.2.1.1 rfl rfl (by decide) rfl rfl (Nat.le_of_ble_eq_true rfl) dX10_question_94 ⟨by decide, by decide⟩ ⟨Nat.le_of_ble_eq_true rfl, Nat.le_of_ble_eq_true rfl⟩ rfl rfl (det1 ?_)
                        have h256 := heardIn_lt hw l (nW S) (Nat.le_refl _)
                        refine j_iload (pc := 97) C dX10_question_97 0 rfl ?_
                        refine j_ishr (pc := 99) C dX10_question_99 ?_
                        refine j_iconst (pc := 100) C (nI 1) dX10_question_100 (by decide) ?_
                        refine j_iand (pc := 101) C dX10_question_101 ?_
                        refine j_topi (nI (((heardIn S l (nW S)).testBit c).toNat)) (bitI (by omega) (by omega)) ?_
                        refine jn_if_ne (pc := 102) C 109 (a := ((heardIn S l (nW S)).testBit c).toNat) (by first | exact bool_lt _ | omega) dX10_question_102 (by decide) (fun f3 => ?_) (fun f3 => ?_)
                        · refine j_iconst (pc := 109) C (nI 0) dX10_question_109 (by decide) ?_
                          refine j_istore (pc := 110) C [(7, .int (nI 0)), (6, .int (nI c)), (5, .int (nI l)), (4, .int (nI mt)), (3, .int fe9), (1, .long (lN (qs9 S (2 ^ nR S)))), (0, .ref (x9 0))] dX10_question_110 (by decide) rfl ?_
                          refine j_iload (pc := 112) C dX10_question_112 0 rfl ?_
                          refine j_if_eq (pc := 114) C 129 dX10_question_114 (by decide) (fun _ => ?_) (fun q => absurd q (by decide))
                          refine j_iconst (pc := 129) C (nI 0) dX10_question_129 (by decide) ?_
                          refine j_topi (nI (qn S l c)) (congrArg nI (show 0 = qn S l c by unfold qn; rw [if_neg (show ¬ ((xc9 S l c).isNone = true ∧ (heardIn S l (nW S)).testBit c = false) from fun z => f3 (bool0.mpr z.2))])) ?_
                          exact J.to [1, 2, 3, 4, 5, 6] rfl (J130 σ9 hs hme)
                        · refine j_iconst (pc := 105) C (nI 1) dX10_question_105 (by decide) ?_
                          refine j_goto (pc := 106) C 110 dX10_question_106 (by decide) ?_
                          refine j_istore (pc := 110) C [(7, .int (nI 1)), (6, .int (nI c)), (5, .int (nI l)), (4, .int (nI mt)), (3, .int fe9), (1, .long (lN (qs9 S (2 ^ nR S)))), (0, .ref (x9 0))] dX10_question_110 (by decide) rfl ?_
                          refine j_iload (pc := 112) C dX10_question_112 0 rfl ?_
                          refine j_if_eq (pc := 114) C 129 dX10_question_114 (by decide) (fun q => absurd q (by decide)) (fun _ => ?_)
                          refine j_aload_n (pc := 117) C dX10_question_117 rfl 6 rfl ?_
                          refine j_iload (pc := 118) C dX10_question_118 2 rfl ?_
                          refine j_iload (pc := 120) C dX10_question_120 1 rfl ?_
                          refine j_lload_n (pc := 122) C dX10_question_122 rfl 5 rfl ?_
                          refine j_callV (pc := 123) C [.int (nI l), .int (nI c), .long (lN (qs9 S (2 ^ nR S)))] [] (rm0 := ({ frames := 6, cells := 0, slots := 0, locals := 157 } : Room)) (k' := 0) (n' := 0) Q.1 (c_X10_unlikeWords (xl X) (xw X) hs hw d1 e1 (by omega) hbit) mp_X10_unlikeWords wm_1372 hs.2.1.1 rfl rfl (by decide) rfl rfl (Nat.le_of_ble_eq_true rfl) dX10_question_123 ⟨by decide, by decide⟩ ⟨Nat.le_of_ble_eq_true rfl, Nat.le_of_ble_eq_true rfl⟩ rfl rfl (fun v9 σ2 hp9 => ?_)
                          obtain ⟨rfl, hs, hme9⟩ := hp9
                          have hme := hme.tr hme9
                          show J X 0 0 σ2 [(7, .int (nI 1)), (6, .int (nI c)), (5, .int (nI l)), (4, .int (nI mt)), (3, .int fe9), (1, .long (lN (qs9 S (2 ^ nR S)))), (0, .ref (x9 0))] [.int (nI (unl S (base9 S l c) (2 ^ nR S)))] 126
                          refine j_goto (pc := 126) C 130 dX10_question_126 (by decide) ?_
                          refine j_topi (nI (qn S l c)) (congrArg nI (show unl S (base9 S l c) (2 ^ nR S) = qn S l c by unfold qn; rw [if_pos ⟨hnn, bool0.mp f3⟩])) ?_
                          exact J.to [1, 2, 3, 4, 5, 6] rfl (J130 σ2 hs hme)
              exact J.to [0, 1, 2, 3, 4, 5] rfl (loop3 9 0 fd ms σ9 (Nat.zero_le _) (by omega) k3 k4 hs hme)
        exact J.to [0, 1, 2, 3, 4] rfl (loop2 (nL S + 1) 0 (-1) 1 σ9 (Nat.zero_le _) (by omega) rfl rfl hs hme)
      · refine j_lload_n (pc := 19) C dX10_question_19 rfl 1 rfl ?_
        refine j_aload_n (pc := 20) C dX10_question_20 rfl 2 rfl ?_
        refine j_iload_n (pc := 21) C dX10_question_21 rfl 0 rfl ?_
        refine j_callV (pc := 22) C [.int (nI set)] [.long (lN (qs9 S set))] (rm0 := ({ frames := 6, cells := 0, slots := 0, locals := 157 } : Room)) (k' := 0) (n' := 0) Q.1 (c_X10_isFitting (xl X) (xw X) hs hw (set := set) (by omega)) mp_X10_isFitting wm_1353 hs.2.1.1 rfl rfl (by decide) rfl rfl (Nat.le_of_ble_eq_true rfl) dX10_question_22 ⟨by decide, by decide⟩ ⟨Nat.le_of_ble_eq_true rfl, Nat.le_of_ble_eq_true rfl⟩ rfl rfl (fun v9 σ3 hp9 => ?_)
        obtain ⟨rfl, hs, hme9⟩ := hp9
        have hme := hme.tr hme9.1
        show J X 0 0 σ3 [(3, .int (nI set)), (1, .long (lN (qs9 S set))), (0, .ref (x9 0))] [.int (bI (fitset S set)), .long (lN (qs9 S set))] 25
        refine jb_if_eq (pc := 25) C 34 (b := fitset S set) dX10_question_25 (by decide) (fun c2 => ?_) (fun c2 => ?_)
        · have e9 : qs9 S (set + 1) = qs9 S set := if_neg (by rw [c2]; decide)
          refine j_lconst (pc := 34) C (lN 0) dX10_question_34 (by decide) ?_
          refine j_lor (pc := 35) C dX10_question_35 ?_
          refine j_topl (lN (qs9 S (set + 1))) (by rw [fb_orL, e9, Nat.or_zero]) ?_
          refine j_lstore_n (pc := 36) C [(1, .long (lN (qs9 S (set + 1)))), (3, .int (nI set)), (0, .ref (x9 0))] dX10_question_36 rfl (by decide) rfl ?_
          refine j_iinc (pc := 37) C (nI (set + 1)) [(3, .int (nI (set + 1))), (1, .long (lN (qs9 S (set + 1)))), (0, .ref (x9 0))] dX10_question_37 1 rfl (nI_add set 1) (by decide) rfl ?_
          refine j_goto (pc := 40) C 9 dX10_question_40 (by decide) ?_
          exact J.to [0, 1, 2] rfl (ih (set + 1) σ3 (by omega) (by omega) hs hme)
        · have e9 : qs9 S (set + 1) = qs9 S set ||| 2 ^ set := if_pos c2
          refine j_lconst (pc := 28) C (lN 1) dX10_question_28 (by decide) ?_
          refine j_iload_n (pc := 29) C dX10_question_29 rfl 0 rfl ?_
          refine j_lshl (pc := 30) C dX10_question_30 ?_
          refine j_topl (lN (2 ^ set)) (shlL (by omega)) ?_
          refine j_goto (pc := 31) C 35 dX10_question_31 (by decide) ?_
          refine j_lor (pc := 35) C dX10_question_35 ?_
          refine j_topl (lN (qs9 S (set + 1))) (by rw [fb_orL, e9]) ?_
          refine j_lstore_n (pc := 36) C [(1, .long (lN (qs9 S (set + 1)))), (3, .int (nI set)), (0, .ref (x9 0))] dX10_question_36 rfl (by decide) rfl ?_
          refine j_iinc (pc := 37) C (nI (set + 1)) [(3, .int (nI (set + 1))), (1, .long (lN (qs9 S (set + 1)))), (0, .ref (x9 0))] dX10_question_37 1 rfl (nI_add set 1) (by decide) rfl ?_
          refine j_goto (pc := 40) C 9 dX10_question_40 (by decide) ?_
          exact J.to [0, 1, 2] rfl (ih (set + 1) σ3 (by omega) (by omega) hs hme)
  exact J.to [0, 1, 2] rfl (loop (2 ^ nR S + 1) 0 _ (Nat.zero_le _) (by omega) hs hme)
