set_option maxHeartbeats 4000000 in
set_option maxRecDepth 100000 in
theorem c_X10_gone (L9 : Launch) (w9 : Wd) {σ : HS} {S : SP} {x9 : Nat → Nat} {k9 : Int32} (hs : RS S x9 k9 σ) (hw : WF S) {r : Nat} (hr : r < nR S) {row : List Nat} (hrow : okS S row) : MJ L9 w9 yX10_gone cX10_gone 11 (some .long) ({ frames := 2, cells := 0, slots := 0, locals := 54 } : Room) [.ref (x9 0), .int (nI r), .long (enc4 row)] σ (fun a9 σ' => a9 = some (.long (enc4 (gone S r row).1)) ∧ RS S x9 k9 σ' ∧ MF σ σ' ∧ hI σ' 660 0 0 = nI ((gone S r row).2)) := by
  refine MJ.of (by decide +kernel) (Nat.le_of_ble_eq_true rfl) (fun X hX1 hX2 C Q hinit => ?_)
  subst hX1; subst hX2
  show J X 0 0 σ [(0, .ref (x9 0)), (1, .int (nI r)), (2, .long (enc4 row))] [] 0
  have hme : MF σ σ := MF.rf
  have hrR := okS.R hw.1 hrow
  have g8 := hrow.1
  have gS := hw.1.1
  have gr := hw.2.1.1
  obtain ⟨t1, t2, t3, t4⟩ := hw.2.1.2.1 r hr
  refine j_lconst (pc := 0) C (lN 0) dX10_gone_0 (by decide) ?_
  refine j_topl (enc4 []) rfl ?_
  refine j_lstore (pc := 1) C [(4, .long (enc4 [])), (0, .ref (x9 0)), (1, .int (nI r)), (2, .long (enc4 row))] dX10_gone_1 (by decide) rfl ?_
  refine j_aload_n (pc := 3) C dX10_gone_3 rfl 1 rfl ?_
  refine j_iconst (pc := 4) C (nI 0) dX10_gone_4 (by decide) ?_
  refine j_putI (pc := 5) C fp_X10_165 hs.2.1.1 rfl rfl (Or.inl rfl) rfl (by decide) (f := 660) rfl dX10_gone_5 ?_
  have hs := hs.wM (nI 0); have hme := hme.sI (f := 660) (i := 0) (j := 0) (v := (nI 0)) rfl
  have hm : hI (sI σ 660 0 0 (nI 0)) 660 0 0 = nI 0 := sI_eq
  generalize sI σ 660 0 0 (nI 0) = σ1 at hs hme hm ⊢
  refine j_iconst (pc := 8) C (nI 0) dX10_gone_8 (by decide) ?_
  refine j_istore (pc := 9) C [(6, .int (nI 0)), (4, .long (enc4 [])), (0, .ref (x9 0)), (1, .int (nI r)), (2, .long (enc4 row))] dX10_gone_9 (by decide) rfl ?_
  have loop : ∀ (f k : Nat) (σ9 : HS), k ≤ row.length → row.length < k + f → RS S x9 k9 σ9 → MF σ σ9 → hI σ9 660 0 0 = nI (gol S r row k).2 → J X 0 0 σ9 [(6, .int (nI k)), (4, .long (enc4 (gol S r row k).1)), (0, .ref (x9 0)), (1, .int (nI r)), (2, .long (enc4 row))] [] 11 := by
    intro f
    induction f with
    | zero => intro k σ9 h1 h2; exact absurd h2 (by omega)
    | succ f ih =>
      clear hs hme hm
      intro k σ9 h1 h2 hs hme hm
      have hg := gol_ok hw.1 t2 hrow k
      have hoS : okS S (gol S r row k).1 := ⟨by omega, hg.2.1⟩
      have hoR := okS.R hw.1 hoS
      refine j_iload (pc := 11) C dX10_gone_11 0 rfl ?_
      refine j_lload_n (pc := 13) C dX10_gone_13 rfl 4 rfl ?_
      refine j_callS (pc := 14) C [.long (enc4 row)] [.int (nI k)] (rm0 := ({ frames := 2, cells := 0, slots := 0, locals := 54 } : Room)) (k' := 0) (n' := 0) Q.1 (c_X10_size (xl X) (xw X) hrR) mp_X10_size wm_1172 rfl rfl (Nat.le_of_ble_eq_true rfl) dX10_gone_14 ⟨by decide, by decide⟩ ⟨Nat.le_of_ble_eq_true rfl, Nat.le_of_ble_eq_true rfl⟩ rfl rfl (det1 ?_)
      refine jn_icmp_ge (pc := 17) C 157 (a := k) (b := row.length) (by omega) (by omega) dX10_gone_17 (by decide) (fun c1 => ?_) (fun c1 => ?_)
      · have e : k = row.length := Nat.le_antisymm h1 c1
        subst e
        refine j_lload (pc := 157) C dX10_gone_157 1 rfl ?_
        exact j_lreturn (pc := 159) C Q dX10_gone_159 (Nat.le_of_ble_eq_true rfl) (Nat.le_of_ble_eq_true rfl) (⟨rfl, hs, hme, hm⟩)
      · obtain ⟨s, hsk⟩ : ∃ s, row[k]? = some s := ⟨_, List.getElem?_eq_getElem c1⟩
        have hsS : s < nS S := hrow.2 s (List.mem_of_getElem? hsk)
        have gsu := gol_succ (S := S) (r := r) hsk
        have gf := (hw.1.2.2.1 s hsS).1
        have gx := xor_64 gf t2
        have gw := (hw.1.2.1 _ gx).1
        refine j_lload_n (pc := 20) C dX10_gone_20 rfl 4 rfl ?_
        refine j_iload (pc := 21) C dX10_gone_21 0 rfl ?_
        refine j_callS (pc := 23) C [.long (enc4 row), .int (nI k)] [] (rm0 := ({ frames := 2, cells := 0, slots := 0, locals := 54 } : Room)) (k' := 0) (n' := 0) Q.1 (c_X10_soundAt (xl X) (xw X) hrR hsk) mp_X10_soundAt wm_1297 rfl rfl (Nat.le_of_ble_eq_true rfl) dX10_gone_23 ⟨by decide, by decide⟩ ⟨Nat.le_of_ble_eq_true rfl, Nat.le_of_ble_eq_true rfl⟩ rfl rfl (det1 ?_)
        refine j_istore (pc := 26) C [(7, .int (nI s)), (6, .int (nI k)), (4, .long (enc4 (gol S r row k).1)), (0, .ref (x9 0)), (1, .int (nI r)), (2, .long (enc4 row))] dX10_gone_26 (by decide) rfl ?_
        refine j_aload_n (pc := 28) C dX10_gone_28 rfl 3 rfl ?_
        refine j_iload_n (pc := 29) C dX10_gone_29 rfl 4 rfl ?_
        refine j_lload_n (pc := 30) C dX10_gone_30 rfl 5 rfl ?_
        refine j_iload (pc := 31) C dX10_gone_31 1 rfl ?_
        refine j_lload (pc := 33) C dX10_gone_33 2 rfl ?_
        refine j_callV (pc := 35) C [.int (nI r), .long (enc4 row), .int (nI k), .long (enc4 (gol S r row k).1)] [] (rm0 := ({ frames := 2, cells := 0, slots := 0, locals := 54 } : Room)) (k' := 0) (n' := 0) Q.1 (c_X10_isMet (xl X) (xw X) hs hw hr hrow hoS hsk) mp_X10_isMet wm_1305 hs.2.1.1 rfl rfl (by decide) rfl rfl (Nat.le_of_ble_eq_true rfl) dX10_gone_35 ⟨by decide, by decide⟩ ⟨Nat.le_of_ble_eq_true rfl, Nat.le_of_ble_eq_true rfl⟩ rfl rfl (det1 ?_)
        cases hM : met S r (gol S r row k).1.getLast? s row[k + 1]? with
        | false =>
          refine j_istore (pc := 38) C [(8, .int (bI false)), (7, .int (nI s)), (6, .int (nI k)), (4, .long (enc4 (gol S r row k).1)), (0, .ref (x9 0)), (1, .int (nI r)), (2, .long (enc4 row))] dX10_gone_38 (by decide) rfl ?_
          refine j_iload (pc := 40) C dX10_gone_40 0 rfl ?_
          refine j_if_eq (pc := 42) C 58 dX10_gone_42 (by decide) (fun _ => ?_) (fun q => absurd q (by decide))
          refine j_iconst (pc := 58) C (nI 0) dX10_gone_58 (by decide) ?_
          refine j_istore (pc := 59) C [(9, .int (nI 0)), (8, .int (bI false)), (7, .int (nI s)), (6, .int (nI k)), (4, .long (enc4 (gol S r row k).1)), (0, .ref (x9 0)), (1, .int (nI r)), (2, .long (enc4 row))] dX10_gone_59 (by decide) rfl ?_
          refine j_iload (pc := 61) C dX10_gone_61 1 rfl ?_
          refine j_if_eq (pc := 63) C 93 dX10_gone_63 (by decide) (fun _ => ?_) (fun q => absurd q (by decide))
          refine j_iconst (pc := 93) C (-1) dX10_gone_93 (by decide) ?_
          refine j_istore (pc := 94) C [(10, .int (-1)), (9, .int (nI 0)), (8, .int (bI false)), (7, .int (nI s)), (6, .int (nI k)), (4, .long (enc4 (gol S r row k).1)), (0, .ref (x9 0)), (1, .int (nI r)), (2, .long (enc4 row))] dX10_gone_94 (by decide) rfl ?_
          refine j_aload_n (pc := 96) C dX10_gone_96 rfl 6 rfl ?_
          refine j_dup (pc := 97) C dX10_gone_97 rfl ?_
          refine j_getI (pc := 98) C fp_X10_165 hs.2.1.1 rfl (f := 660) rfl dX10_gone_98 ?_
          refine j_topi (nI (gol S r row k).2) hm ?_
          refine j_iload (pc := 101) C dX10_gone_101 1 rfl ?_
          refine j_if_ne (pc := 103) C 112 dX10_gone_103 (by decide) (fun q => absurd q (by decide)) (fun _ => ?_)
          refine j_iload (pc := 106) C dX10_gone_106 0 rfl ?_
          refine j_iconst (pc := 108) C (-1) dX10_gone_108 (by decide) ?_
          refine j_icmp_eq (pc := 109) C 116 dX10_gone_109 (by decide) (fun _ => ?_) (fun q => absurd q (by decide))
          refine j_iconst (pc := 116) C (nI 0) dX10_gone_116 (by decide) ?_
          refine j_iadd (pc := 117) C dX10_gone_117 ?_
          refine j_topi (nI ((gol S r row k).2 + 0)) (nI_add ((gol S r row k).2) 0) ?_
          refine j_putI (pc := 118) C fp_X10_165 hs.2.1.1 rfl rfl (Or.inl rfl) rfl (by decide) (f := 660) rfl dX10_gone_118 ?_
          have hs := hs.wM (nI ((gol S r row k).2 + 0)); have hme := hme.sI (f := 660) (i := 0) (j := 0) (v := (nI ((gol S r row k).2 + 0))) rfl
          have hm : hI (sI σ9 660 0 0 (nI ((gol S r row k).2 + 0))) 660 0 0 = nI ((gol S r row k).2 + 0) := sI_eq
          generalize sI σ9 660 0 0 (nI ((gol S r row k).2 + 0)) = σ2 at hs hme hm ⊢
          refine j_iload (pc := 121) C dX10_gone_121 1 rfl ?_
          refine j_if_eq (pc := 123) C 131 dX10_gone_123 (by decide) (fun _ => ?_) (fun q => absurd q (by decide))
          refine j_lload (pc := 131) C dX10_gone_131 5 rfl ?_
          refine j_iload (pc := 133) C dX10_gone_133 0 rfl ?_
          refine j_iconst (pc := 135) C (-1) dX10_gone_135 (by decide) ?_
          refine j_icmp_eq (pc := 136) C 144 dX10_gone_136 (by decide) (fun _ => ?_) (fun q => absurd q (by decide))
          refine j_iload (pc := 144) C dX10_gone_144 3 rfl ?_
          refine j_callS (pc := 146) C [.long (enc4 (gol S r row k).1), .int (nI s)] [] (rm0 := ({ frames := 2, cells := 0, slots := 0, locals := 54 } : Room)) (k' := 0) (n' := 0) Q.1 (c_X10_with (xl X) (xw X) hoR (s := s) (by omega) (by omega)) mp_X10_with wm_1175 rfl rfl (Nat.le_of_ble_eq_true rfl) dX10_gone_146 ⟨by decide, by decide⟩ ⟨Nat.le_of_ble_eq_true rfl, Nat.le_of_ble_eq_true rfl⟩ rfl rfl (det1 ?_)
          have e9 : gol S r row (k + 1) = (((gol S r row k).1 ++ [s]), (gol S r row k).2 + 0) := by rw [gsu, if_neg (by rw [hM]; decide)] <;> rfl
          refine j_topl (enc4 (gol S r row (k + 1)).1) (by rw [e9]) ?_
          refine j_lstore (pc := 149) C [(4, .long (enc4 (gol S r row (k + 1)).1)), (10, .int (-1)), (9, .int (nI 0)), (8, .int (bI false)), (7, .int (nI s)), (6, .int (nI k)), (0, .ref (x9 0)), (1, .int (nI r)), (2, .long (enc4 row))] dX10_gone_149 (by decide) rfl ?_
          refine j_iinc (pc := 151) C (nI (k + 1)) [(6, .int (nI (k + 1))), (4, .long (enc4 (gol S r row (k + 1)).1)), (10, .int (-1)), (9, .int (nI 0)), (8, .int (bI false)), (7, .int (nI s)), (0, .ref (x9 0)), (1, .int (nI r)), (2, .long (enc4 row))] dX10_gone_151 5 rfl (nI_add k 1) (by decide) rfl ?_
          refine j_goto (pc := 154) C 11 dX10_gone_154 (by decide) ?_
          exact J.to [0, 1, 6, 7, 8] rfl (ih (k + 1) _ (by omega) (by omega) hs hme (by rw [hm, e9]))
        | true =>
          by_cases e2 : tu S r = 0
          · refine j_istore (pc := 38) C [(8, .int (bI true)), (7, .int (nI s)), (6, .int (nI k)), (4, .long (enc4 (gol S r row k).1)), (0, .ref (x9 0)), (1, .int (nI r)), (2, .long (enc4 row))] dX10_gone_38 (by decide) rfl ?_
            refine j_iload (pc := 40) C dX10_gone_40 0 rfl ?_
            refine j_if_eq (pc := 42) C 58 dX10_gone_42 (by decide) (fun q => absurd q (by decide)) (fun _ => ?_)
            refine j_aload_n (pc := 45) C dX10_gone_45 rfl 4 rfl ?_
            refine j_getA (pc := 46) C fp_X10_39 hs.2.1.1 rfl (f := 654) rfl (11, 24) (x9 14) ((hs.2.1.2 14 (by decide) (by decide)).1) ((hs.2.1.2 14 (by decide) (by decide)).2.1) dX10_gone_46 ?_
            refine j_iload_n (pc := 49) C dX10_gone_49 rfl 5 rfl ?_
            refine j_iald (pc := 50) C (p := r) (M := 6) ((hs.2.1.2 14 (by decide) (by decide)).2.1) rfl ((hs.2.1.2 14 (by decide) (by decide)).2.2) (by omega) (by decide) dX10_gone_50 ?_
            refine j_topi (nI (tu S r)) (hs.rdI 704 24 r (by decide) (by decide)) ?_
            refine jn_if_ne (pc := 51) C 58 (a := tu S r) (by omega) dX10_gone_51 (by decide) (fun c0 => (c0 e2 : False).elim) (fun c0 => ?_)
            refine j_iconst (pc := 54) C (nI 1) dX10_gone_54 (by decide) ?_
            refine j_goto (pc := 55) C 59 dX10_gone_55 (by decide) ?_
            refine j_istore (pc := 59) C [(9, .int (nI 1)), (8, .int (bI true)), (7, .int (nI s)), (6, .int (nI k)), (4, .long (enc4 (gol S r row k).1)), (0, .ref (x9 0)), (1, .int (nI r)), (2, .long (enc4 row))] dX10_gone_59 (by decide) rfl ?_
            refine j_iload (pc := 61) C dX10_gone_61 1 rfl ?_
            refine j_if_eq (pc := 63) C 93 dX10_gone_63 (by decide) (fun q => absurd q (by decide)) (fun _ => ?_)
            refine j_iload (pc := 66) C dX10_gone_66 0 rfl ?_
            refine j_if_ne (pc := 68) C 93 dX10_gone_68 (by decide) (fun _ => ?_) (fun q => absurd q (by decide))
            refine j_iconst (pc := 93) C (-1) dX10_gone_93 (by decide) ?_
            refine j_istore (pc := 94) C [(10, .int (-1)), (9, .int (nI 1)), (8, .int (bI true)), (7, .int (nI s)), (6, .int (nI k)), (4, .long (enc4 (gol S r row k).1)), (0, .ref (x9 0)), (1, .int (nI r)), (2, .long (enc4 row))] dX10_gone_94 (by decide) rfl ?_
            refine j_aload_n (pc := 96) C dX10_gone_96 rfl 6 rfl ?_
            refine j_dup (pc := 97) C dX10_gone_97 rfl ?_
            refine j_getI (pc := 98) C fp_X10_165 hs.2.1.1 rfl (f := 660) rfl dX10_gone_98 ?_
            refine j_topi (nI (gol S r row k).2) hm ?_
            refine j_iload (pc := 101) C dX10_gone_101 1 rfl ?_
            refine j_if_ne (pc := 103) C 112 dX10_gone_103 (by decide) (fun _ => ?_) (fun q => absurd q (by decide))
            refine j_iconst (pc := 112) C (nI 1) dX10_gone_112 (by decide) ?_
            refine j_goto (pc := 113) C 117 dX10_gone_113 (by decide) ?_
            refine j_iadd (pc := 117) C dX10_gone_117 ?_
            refine j_topi (nI ((gol S r row k).2 + 1)) (nI_add ((gol S r row k).2) 1) ?_
            refine j_putI (pc := 118) C fp_X10_165 hs.2.1.1 rfl rfl (Or.inl rfl) rfl (by decide) (f := 660) rfl dX10_gone_118 ?_
            have hs := hs.wM (nI ((gol S r row k).2 + 1)); have hme := hme.sI (f := 660) (i := 0) (j := 0) (v := (nI ((gol S r row k).2 + 1))) rfl
            have hm : hI (sI σ9 660 0 0 (nI ((gol S r row k).2 + 1))) 660 0 0 = nI ((gol S r row k).2 + 1) := sI_eq
            generalize sI σ9 660 0 0 (nI ((gol S r row k).2 + 1)) = σ3 at hs hme hm ⊢
            refine j_iload (pc := 121) C dX10_gone_121 1 rfl ?_
            refine j_if_eq (pc := 123) C 131 dX10_gone_123 (by decide) (fun q => absurd q (by decide)) (fun _ => ?_)
            refine j_lload (pc := 126) C dX10_gone_126 5 rfl ?_
            refine j_goto (pc := 128) C 149 dX10_gone_128 (by decide) ?_
            have e9 : gol S r row (k + 1) = ((gol S r row k).1, (gol S r row k).2 + 1) := by rw [gsu, if_pos hM, if_pos e2] <;> rfl
            refine j_topl (enc4 (gol S r row (k + 1)).1) (by rw [e9]) ?_
            refine j_lstore (pc := 149) C [(4, .long (enc4 (gol S r row (k + 1)).1)), (10, .int (-1)), (9, .int (nI 1)), (8, .int (bI true)), (7, .int (nI s)), (6, .int (nI k)), (0, .ref (x9 0)), (1, .int (nI r)), (2, .long (enc4 row))] dX10_gone_149 (by decide) rfl ?_
            refine j_iinc (pc := 151) C (nI (k + 1)) [(6, .int (nI (k + 1))), (4, .long (enc4 (gol S r row (k + 1)).1)), (10, .int (-1)), (9, .int (nI 1)), (8, .int (bI true)), (7, .int (nI s)), (0, .ref (x9 0)), (1, .int (nI r)), (2, .long (enc4 row))] dX10_gone_151 5 rfl (nI_add k 1) (by decide) rfl ?_
            refine j_goto (pc := 154) C 11 dX10_gone_154 (by decide) ?_
            exact J.to [0, 1, 6, 7, 8] rfl (ih (k + 1) _ (by omega) (by omega) hs hme (by rw [hm, e9]))
          · by_cases e3 : wi S (fe S s ^^^ tu S r) = 0
            · refine j_istore (pc := 38) C [(8, .int (bI true)), (7, .int (nI s)), (6, .int (nI k)), (4, .long (enc4 (gol S r row k).1)), (0, .ref (x9 0)), (1, .int (nI r)), (2, .long (enc4 row))] dX10_gone_38 (by decide) rfl ?_
              refine j_iload (pc := 40) C dX10_gone_40 0 rfl ?_
              refine j_if_eq (pc := 42) C 58 dX10_gone_42 (by decide) (fun q => absurd q (by decide)) (fun _ => ?_)
              refine j_aload_n (pc := 45) C dX10_gone_45 rfl 4 rfl ?_
              refine j_getA (pc := 46) C fp_X10_39 hs.2.1.1 rfl (f := 654) rfl (11, 24) (x9 14) ((hs.2.1.2 14 (by decide) (by decide)).1) ((hs.2.1.2 14 (by decide) (by decide)).2.1) dX10_gone_46 ?_
              refine j_iload_n (pc := 49) C dX10_gone_49 rfl 5 rfl ?_
              refine j_iald (pc := 50) C (p := r) (M := 6) ((hs.2.1.2 14 (by decide) (by decide)).2.1) rfl ((hs.2.1.2 14 (by decide) (by decide)).2.2) (by omega) (by decide) dX10_gone_50 ?_
              refine j_topi (nI (tu S r)) (hs.rdI 704 24 r (by decide) (by decide)) ?_
              refine jn_if_ne (pc := 51) C 58 (a := tu S r) (by omega) dX10_gone_51 (by decide) (fun c0 => ?_) (fun c0 => (e2 c0 : False).elim)
              refine j_iconst (pc := 58) C (nI 0) dX10_gone_58 (by decide) ?_
              refine j_istore (pc := 59) C [(9, .int (nI 0)), (8, .int (bI true)), (7, .int (nI s)), (6, .int (nI k)), (4, .long (enc4 (gol S r row k).1)), (0, .ref (x9 0)), (1, .int (nI r)), (2, .long (enc4 row))] dX10_gone_59 (by decide) rfl ?_
              refine j_iload (pc := 61) C dX10_gone_61 1 rfl ?_
              refine j_if_eq (pc := 63) C 93 dX10_gone_63 (by decide) (fun q => absurd q (by decide)) (fun _ => ?_)
              refine j_iload (pc := 66) C dX10_gone_66 0 rfl ?_
              refine j_if_ne (pc := 68) C 93 dX10_gone_68 (by decide) (fun q => absurd q (by decide)) (fun _ => ?_)
              refine j_aload_n (pc := 71) C dX10_gone_71 rfl 5 rfl ?_
              refine j_getA (pc := 72) C fp_X10_13 hs.2.1.1 rfl (f := 642) rfl (11, 12) (x9 2) ((hs.2.1.2 2 (by decide) (by decide)).1) ((hs.2.1.2 2 (by decide) (by decide)).2.1) dX10_gone_72 ?_
              refine j_aload_n (pc := 75) C dX10_gone_75 rfl 5 rfl ?_
              refine j_getA (pc := 76) C fp_X10_7 hs.2.1.1 rfl (f := 641) rfl (11, 11) (x9 1) ((hs.2.1.2 1 (by decide) (by decide)).1) ((hs.2.1.2 1 (by decide) (by decide)).2.1) dX10_gone_76 ?_
              refine j_iload (pc := 79) C dX10_gone_79 2 rfl ?_
              refine j_iald (pc := 81) C (p := s) (M := 16) ((hs.2.1.2 1 (by decide) (by decide)).2.1) rfl ((hs.2.1.2 1 (by decide) (by decide)).2.2) (by omega) (by decide) dX10_gone_81 ?_
              refine j_topi (nI (fe S s)) (hs.rdI 704 11 s (by decide) (by decide)) ?_
              refine j_aload_n (pc := 82) C dX10_gone_82 rfl 5 rfl ?_
              refine j_getA (pc := 83) C fp_X10_39 hs.2.1.1 rfl (f := 654) rfl (11, 24) (x9 14) ((hs.2.1.2 14 (by decide) (by decide)).1) ((hs.2.1.2 14 (by decide) (by decide)).2.1) dX10_gone_83 ?_
              refine j_iload_n (pc := 86) C dX10_gone_86 rfl 6 rfl ?_
              refine j_iald (pc := 87) C (p := r) (M := 6) ((hs.2.1.2 14 (by decide) (by decide)).2.1) rfl ((hs.2.1.2 14 (by decide) (by decide)).2.2) (by omega) (by decide) dX10_gone_87 ?_
              refine j_topi (nI (tu S r)) (hs.rdI 704 24 r (by decide) (by decide)) ?_
              refine j_ixor (pc := 88) C dX10_gone_88 ?_
              refine j_topi (nI ((fe S s) ^^^ (tu S r))) (nx_xor (fe S s) (tu S r)) ?_
              refine j_iald (pc := 89) C (p := (fe S s) ^^^ (tu S r)) (M := 64) ((hs.2.1.2 2 (by decide) (by decide)).2.1) rfl ((hs.2.1.2 2 (by decide) (by decide)).2.2) (by omega) (by decide) dX10_gone_89 ?_
              refine j_topi (nI (wi S ((fe S s) ^^^ (tu S r))) - nI 1) (hs.rdO 704 12 ((fe S s) ^^^ (tu S r)) (by decide)) ?_
              refine j_topi (-1) ((wi_none (by omega)).mpr e3) ?_
              refine j_goto (pc := 90) C 94 dX10_gone_90 (by decide) ?_
              refine j_istore (pc := 94) C [(10, .int (-1)), (9, .int (nI 0)), (8, .int (bI true)), (7, .int (nI s)), (6, .int (nI k)), (4, .long (enc4 (gol S r row k).1)), (0, .ref (x9 0)), (1, .int (nI r)), (2, .long (enc4 row))] dX10_gone_94 (by decide) rfl ?_
              refine j_aload_n (pc := 96) C dX10_gone_96 rfl 6 rfl ?_
              refine j_dup (pc := 97) C dX10_gone_97 rfl ?_
              refine j_getI (pc := 98) C fp_X10_165 hs.2.1.1 rfl (f := 660) rfl dX10_gone_98 ?_
              refine j_topi (nI (gol S r row k).2) hm ?_
              refine j_iload (pc := 101) C dX10_gone_101 1 rfl ?_
              refine j_if_ne (pc := 103) C 112 dX10_gone_103 (by decide) (fun q => absurd q (by decide)) (fun _ => ?_)
              refine j_iload (pc := 106) C dX10_gone_106 0 rfl ?_
              refine j_iconst (pc := 108) C (-1) dX10_gone_108 (by decide) ?_
              refine j_icmp_eq (pc := 109) C 116 dX10_gone_109 (by decide) (fun _ => ?_) (fun q => absurd q (by decide))
              refine j_iconst (pc := 116) C (nI 0) dX10_gone_116 (by decide) ?_
              refine j_iadd (pc := 117) C dX10_gone_117 ?_
              refine j_topi (nI ((gol S r row k).2 + 0)) (nI_add ((gol S r row k).2) 0) ?_
              refine j_putI (pc := 118) C fp_X10_165 hs.2.1.1 rfl rfl (Or.inl rfl) rfl (by decide) (f := 660) rfl dX10_gone_118 ?_
              have hs := hs.wM (nI ((gol S r row k).2 + 0)); have hme := hme.sI (f := 660) (i := 0) (j := 0) (v := (nI ((gol S r row k).2 + 0))) rfl
              have hm : hI (sI σ9 660 0 0 (nI ((gol S r row k).2 + 0))) 660 0 0 = nI ((gol S r row k).2 + 0) := sI_eq
              generalize sI σ9 660 0 0 (nI ((gol S r row k).2 + 0)) = σ4 at hs hme hm ⊢
              refine j_iload (pc := 121) C dX10_gone_121 1 rfl ?_
              refine j_if_eq (pc := 123) C 131 dX10_gone_123 (by decide) (fun _ => ?_) (fun q => absurd q (by decide))
              refine j_lload (pc := 131) C dX10_gone_131 5 rfl ?_
              refine j_iload (pc := 133) C dX10_gone_133 0 rfl ?_
              refine j_iconst (pc := 135) C (-1) dX10_gone_135 (by decide) ?_
              refine j_icmp_eq (pc := 136) C 144 dX10_gone_136 (by decide) (fun _ => ?_) (fun q => absurd q (by decide))
              refine j_iload (pc := 144) C dX10_gone_144 3 rfl ?_
              refine j_callS (pc := 146) C [.long (enc4 (gol S r row k).1), .int (nI s)] [] (rm0 := ({ frames := 2, cells := 0, slots := 0, locals := 54 } : Room)) (k' := 0) (n' := 0) Q.1 (c_X10_with (xl X) (xw X) hoR (s := s) (by omega) (by omega)) mp_X10_with wm_1175 rfl rfl (Nat.le_of_ble_eq_true rfl) dX10_gone_146 ⟨by decide, by decide⟩ ⟨Nat.le_of_ble_eq_true rfl, Nat.le_of_ble_eq_true rfl⟩ rfl rfl (det1 ?_)
              have e9 : gol S r row (k + 1) = (((gol S r row k).1 ++ [s]), (gol S r row k).2 + 0) := by rw [gsu, if_pos hM, if_neg e2, if_pos e3] <;> rfl
              refine j_topl (enc4 (gol S r row (k + 1)).1) (by rw [e9]) ?_
              refine j_lstore (pc := 149) C [(4, .long (enc4 (gol S r row (k + 1)).1)), (10, .int (-1)), (9, .int (nI 0)), (8, .int (bI true)), (7, .int (nI s)), (6, .int (nI k)), (0, .ref (x9 0)), (1, .int (nI r)), (2, .long (enc4 row))] dX10_gone_149 (by decide) rfl ?_
              refine j_iinc (pc := 151) C (nI (k + 1)) [(6, .int (nI (k + 1))), (4, .long (enc4 (gol S r row (k + 1)).1)), (10, .int (-1)), (9, .int (nI 0)), (8, .int (bI true)), (7, .int (nI s)), (0, .ref (x9 0)), (1, .int (nI r)), (2, .long (enc4 row))] dX10_gone_151 5 rfl (nI_add k 1) (by decide) rfl ?_
              refine j_goto (pc := 154) C 11 dX10_gone_154 (by decide) ?_
              exact J.to [0, 1, 6, 7, 8] rfl (ih (k + 1) _ (by omega) (by omega) hs hme (by rw [hm, e9]))
            · refine j_istore (pc := 38) C [(8, .int (bI true)), (7, .int (nI s)), (6, .int (nI k)), (4, .long (enc4 (gol S r row k).1)), (0, .ref (x9 0)), (1, .int (nI r)), (2, .long (enc4 row))] dX10_gone_38 (by decide) rfl ?_
              refine j_iload (pc := 40) C dX10_gone_40 0 rfl ?_
              refine j_if_eq (pc := 42) C 58 dX10_gone_42 (by decide) (fun q => absurd q (by decide)) (fun _ => ?_)
              refine j_aload_n (pc := 45) C dX10_gone_45 rfl 4 rfl ?_
              refine j_getA (pc := 46) C fp_X10_39 hs.2.1.1 rfl (f := 654) rfl (11, 24) (x9 14) ((hs.2.1.2 14 (by decide) (by decide)).1) ((hs.2.1.2 14 (by decide) (by decide)).2.1) dX10_gone_46 ?_
              refine j_iload_n (pc := 49) C dX10_gone_49 rfl 5 rfl ?_
              refine j_iald (pc := 50) C (p := r) (M := 6) ((hs.2.1.2 14 (by decide) (by decide)).2.1) rfl ((hs.2.1.2 14 (by decide) (by decide)).2.2) (by omega) (by decide) dX10_gone_50 ?_
              refine j_topi (nI (tu S r)) (hs.rdI 704 24 r (by decide) (by decide)) ?_
              refine jn_if_ne (pc := 51) C 58 (a := tu S r) (by omega) dX10_gone_51 (by decide) (fun c0 => ?_) (fun c0 => (e2 c0 : False).elim)
              refine j_iconst (pc := 58) C (nI 0) dX10_gone_58 (by decide) ?_
              refine j_istore (pc := 59) C [(9, .int (nI 0)), (8, .int (bI true)), (7, .int (nI s)), (6, .int (nI k)), (4, .long (enc4 (gol S r row k).1)), (0, .ref (x9 0)), (1, .int (nI r)), (2, .long (enc4 row))] dX10_gone_59 (by decide) rfl ?_
              refine j_iload (pc := 61) C dX10_gone_61 1 rfl ?_
              refine j_if_eq (pc := 63) C 93 dX10_gone_63 (by decide) (fun q => absurd q (by decide)) (fun _ => ?_)
              refine j_iload (pc := 66) C dX10_gone_66 0 rfl ?_
              refine j_if_ne (pc := 68) C 93 dX10_gone_68 (by decide) (fun q => absurd q (by decide)) (fun _ => ?_)
              refine j_aload_n (pc := 71) C dX10_gone_71 rfl 5 rfl ?_
              refine j_getA (pc := 72) C fp_X10_13 hs.2.1.1 rfl (f := 642) rfl (11, 12) (x9 2) ((hs.2.1.2 2 (by decide) (by decide)).1) ((hs.2.1.2 2 (by decide) (by decide)).2.1) dX10_gone_72 ?_
              refine j_aload_n (pc := 75) C dX10_gone_75 rfl 5 rfl ?_
              refine j_getA (pc := 76) C fp_X10_7 hs.2.1.1 rfl (f := 641) rfl (11, 11) (x9 1) ((hs.2.1.2 1 (by decide) (by decide)).1) ((hs.2.1.2 1 (by decide) (by decide)).2.1) dX10_gone_76 ?_
              refine j_iload (pc := 79) C dX10_gone_79 2 rfl ?_
              refine j_iald (pc := 81) C (p := s) (M := 16) ((hs.2.1.2 1 (by decide) (by decide)).2.1) rfl ((hs.2.1.2 1 (by decide) (by decide)).2.2) (by omega) (by decide) dX10_gone_81 ?_
              refine j_topi (nI (fe S s)) (hs.rdI 704 11 s (by decide) (by decide)) ?_
              refine j_aload_n (pc := 82) C dX10_gone_82 rfl 5 rfl ?_
              refine j_getA (pc := 83) C fp_X10_39 hs.2.1.1 rfl (f := 654) rfl (11, 24) (x9 14) ((hs.2.1.2 14 (by decide) (by decide)).1) ((hs.2.1.2 14 (by decide) (by decide)).2.1) dX10_gone_83 ?_
              refine j_iload_n (pc := 86) C dX10_gone_86 rfl 6 rfl ?_
              refine j_iald (pc := 87) C (p := r) (M := 6) ((hs.2.1.2 14 (by decide) (by decide)).2.1) rfl ((hs.2.1.2 14 (by decide) (by decide)).2.2) (by omega) (by decide) dX10_gone_87 ?_
              refine j_topi (nI (tu S r)) (hs.rdI 704 24 r (by decide) (by decide)) ?_
              refine j_ixor (pc := 88) C dX10_gone_88 ?_
              refine j_topi (nI ((fe S s) ^^^ (tu S r))) (nx_xor (fe S s) (tu S r)) ?_
              refine j_iald (pc := 89) C (p := (fe S s) ^^^ (tu S r)) (M := 64) ((hs.2.1.2 2 (by decide) (by decide)).2.1) rfl ((hs.2.1.2 2 (by decide) (by decide)).2.2) (by omega) (by decide) dX10_gone_89 ?_
              refine j_topi (nI (wi S ((fe S s) ^^^ (tu S r))) - nI 1) (hs.rdO 704 12 ((fe S s) ^^^ (tu S r)) (by decide)) ?_
              refine j_topi (nI (wi S (fe S s ^^^ tu S r) - 1)) (pk_sub (by omega)) ?_
              refine j_goto (pc := 90) C 94 dX10_gone_90 (by decide) ?_
              refine j_istore (pc := 94) C [(10, .int (nI (wi S (fe S s ^^^ tu S r) - 1))), (9, .int (nI 0)), (8, .int (bI true)), (7, .int (nI s)), (6, .int (nI k)), (4, .long (enc4 (gol S r row k).1)), (0, .ref (x9 0)), (1, .int (nI r)), (2, .long (enc4 row))] dX10_gone_94 (by decide) rfl ?_
              refine j_aload_n (pc := 96) C dX10_gone_96 rfl 6 rfl ?_
              refine j_dup (pc := 97) C dX10_gone_97 rfl ?_
              refine j_getI (pc := 98) C fp_X10_165 hs.2.1.1 rfl (f := 660) rfl dX10_gone_98 ?_
              refine j_topi (nI (gol S r row k).2) hm ?_
              refine j_iload (pc := 101) C dX10_gone_101 1 rfl ?_
              refine j_if_ne (pc := 103) C 112 dX10_gone_103 (by decide) (fun q => absurd q (by decide)) (fun _ => ?_)
              refine j_iload (pc := 106) C dX10_gone_106 0 rfl ?_
              refine j_iconst (pc := 108) C (-1) dX10_gone_108 (by decide) ?_
              refine j_icmp_eq (pc := 109) C 116 dX10_gone_109 (by decide) (fun c0 => (nI_nm1 (by omega) c0 : False).elim) (fun c0 => ?_)
              refine j_iconst (pc := 112) C (nI 1) dX10_gone_112 (by decide) ?_
              refine j_goto (pc := 113) C 117 dX10_gone_113 (by decide) ?_
              refine j_iadd (pc := 117) C dX10_gone_117 ?_
              refine j_topi (nI ((gol S r row k).2 + 1)) (nI_add ((gol S r row k).2) 1) ?_
              refine j_putI (pc := 118) C fp_X10_165 hs.2.1.1 rfl rfl (Or.inl rfl) rfl (by decide) (f := 660) rfl dX10_gone_118 ?_
              have hs := hs.wM (nI ((gol S r row k).2 + 1)); have hme := hme.sI (f := 660) (i := 0) (j := 0) (v := (nI ((gol S r row k).2 + 1))) rfl
              have hm : hI (sI σ9 660 0 0 (nI ((gol S r row k).2 + 1))) 660 0 0 = nI ((gol S r row k).2 + 1) := sI_eq
              generalize sI σ9 660 0 0 (nI ((gol S r row k).2 + 1)) = σ5 at hs hme hm ⊢
              refine j_iload (pc := 121) C dX10_gone_121 1 rfl ?_
              refine j_if_eq (pc := 123) C 131 dX10_gone_123 (by decide) (fun _ => ?_) (fun q => absurd q (by decide))
              refine j_lload (pc := 131) C dX10_gone_131 5 rfl ?_
              refine j_iload (pc := 133) C dX10_gone_133 0 rfl ?_
              refine j_iconst (pc := 135) C (-1) dX10_gone_135 (by decide) ?_
              refine j_icmp_eq (pc := 136) C 144 dX10_gone_136 (by decide) (fun c0 => (nI_nm1 (by omega) c0 : False).elim) (fun c0 => ?_)
              refine j_iload (pc := 139) C dX10_gone_139 0 rfl ?_
              refine j_goto (pc := 141) C 146 dX10_gone_141 (by decide) ?_
              refine j_callS (pc := 146) C [.long (enc4 (gol S r row k).1), .int (nI (wi S (fe S s ^^^ tu S r) - 1))] [] (rm0 := ({ frames := 2, cells := 0, slots := 0, locals := 54 } : Room)) (k' := 0) (n' := 0) Q.1 (c_X10_with (xl X) (xw X) hoR (s := (wi S (fe S s ^^^ tu S r) - 1)) (by omega) (by omega)) mp_X10_with wm_1175 rfl rfl (Nat.le_of_ble_eq_true rfl) dX10_gone_146 ⟨by decide, by decide⟩ ⟨Nat.le_of_ble_eq_true rfl, Nat.le_of_ble_eq_true rfl⟩ rfl rfl (det1 ?_)
              have e9 : gol S r row (k + 1) = (((gol S r row k).1 ++ [(wi S (fe S s ^^^ tu S r) - 1)]), (gol S r row k).2 + 1) := by rw [gsu, if_pos hM, if_neg e2, if_neg e3] <;> rfl
              refine j_topl (enc4 (gol S r row (k + 1)).1) (by rw [e9]) ?_
              refine j_lstore (pc := 149) C [(4, .long (enc4 (gol S r row (k + 1)).1)), (10, .int (nI (wi S (fe S s ^^^ tu S r) - 1))), (9, .int (nI 0)), (8, .int (bI true)), (7, .int (nI s)), (6, .int (nI k)), (0, .ref (x9 0)), (1, .int (nI r)), (2, .long (enc4 row))] dX10_gone_149 (by decide) rfl ?_
              refine j_iinc (pc := 151) C (nI (k + 1)) [(6, .int (nI (k + 1))), (4, .long (enc4 (gol S r row (k + 1)).1)), (10, .int (nI (wi S (fe S s ^^^ tu S r) - 1))), (9, .int (nI 0)), (8, .int (bI true)), (7, .int (nI s)), (0, .ref (x9 0)), (1, .int (nI r)), (2, .long (enc4 row))] dX10_gone_151 5 rfl (nI_add k 1) (by decide) rfl ?_
              refine j_goto (pc := 154) C 11 dX10_gone_154 (by decide) ?_
              exact J.to [0, 1, 6, 7, 8] rfl (ih (k + 1) _ (by omega) (by omega) hs hme (by rw [hm, e9]))
  exact J.to [0, 1, 2, 3, 4] rfl (loop (row.length + 1) 0 _ (Nat.zero_le _) (by omega) hs hme hm)
