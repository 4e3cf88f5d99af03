set_option maxHeartbeats 4000000 in
set_option maxRecDepth 100000 in
theorem c_X10_isPair (L9 : Launch) (w9 : Wd) {σ : HS} {S : SP} {x9 : Nat → Nat} {k9 : Int32} (hs : RS S x9 k9 σ) (hw : WF S) {v u a b : Nat} (hv : v < nW S) (hu : u < nW S) (ha : a < nS S) (hb : b < nS S) : MJ L9 w9 yX10_isPair cX10_isPair 10 (some .boolean) ({ frames := 1, cells := 0, slots := 0, locals := 22 } : Room) [.ref (x9 0), .int (nI v), .int (nI u), .int (nI a), .int (nI b)] σ (fun a9 σ' => a9 = some (.int (bI (isPair9 S v u a b))) ∧ σ' = σ) := by
  refine MJ.of (by decide +kernel) (Nat.le_of_ble_eq_true rfl) (fun X hX1 hX2 C Q hinit => ?_)
  subst hX1; subst hX2
  show J X 0 0 σ [(0, .ref (x9 0)), (1, .int (nI v)), (2, .int (nI u)), (3, .int (nI a)), (4, .int (nI b))] [] 0
  have hme : ME σ σ := ME.rf
  have gW := hw.2.2.2.1.1
  have gL := hw.2.2.1.1
  have gS := hw.1.1
  obtain ⟨q1, q2, q3, q4, -⟩ := hw.2.2.2.1.2.2 v hv
  obtain ⟨r1, r2, r3, r4, -⟩ := hw.2.2.2.1.2.2 u hu
  have hvS := WF_hr hw v
  have huS := WF_hr hw u
  have hvR := okS.R hw.1 hvS
  have huR := okS.R hw.1 huS
  have l8 := hvS.1
  have m8 := huS.1
  have hip := isPair_any S v u a b
  refine j_aload_n (pc := 0) C dX10_isPair_0 rfl 0 rfl ?_
  refine j_getA (pc := 1) C fp_X10_63 hs.2.1.1 rfl (f := 665) rfl (13, 25) (x9 25) ((hs.2.1.2 25 (by decide) (by decide)).1) ((hs.2.1.2 25 (by decide) (by decide)).2.1) dX10_isPair_1 ?_
  refine j_iload_n (pc := 4) C dX10_isPair_4 rfl 1 rfl ?_
  refine j_zald (pc := 5) C (p := v) (M := 40) ((hs.2.1.2 25 (by decide) (by decide)).2.1) rfl ((hs.2.1.2 25 (by decide) (by decide)).2.2) (by omega) (by decide) dX10_isPair_5 ?_
  refine j_topi (nI (hd9 S v)) (hs.rdI 832 25 v (by decide) (by decide)) ?_
  refine jn_if_eq (pc := 6) C 54 (a := hd9 S v) (by omega) dX10_isPair_6 (by decide) (fun k1 => ?_) (fun k1 => ?_)
  · refine j_iconst (pc := 54) C (nI 0) dX10_isPair_54 (by decide) ?_
    refine j_topi (bI (isPair9 S v u a b)) (by rw [hip, decide_eq_false (fun z => absurd z.1 (by omega))]; rfl) ?_
    exact j_zreturn (pc := 55) C Q dX10_isPair_55 (bI_nar _) (Nat.le_of_ble_eq_true rfl) (Nat.le_of_ble_eq_true rfl) (⟨rfl, rfl⟩)
  · refine j_aload_n (pc := 9) C dX10_isPair_9 rfl 0 rfl ?_
    refine j_getA (pc := 10) C fp_X10_63 hs.2.1.1 rfl (f := 665) rfl (13, 25) (x9 25) ((hs.2.1.2 25 (by decide) (by decide)).1) ((hs.2.1.2 25 (by decide) (by decide)).2.1) dX10_isPair_10 ?_
    refine j_iload_n (pc := 13) C dX10_isPair_13 rfl 2 rfl ?_
    refine j_zald (pc := 14) C (p := u) (M := 40) ((hs.2.1.2 25 (by decide) (by decide)).2.1) rfl ((hs.2.1.2 25 (by decide) (by decide)).2.2) (by omega) (by decide) dX10_isPair_14 ?_
    refine j_topi (nI (hd9 S u)) (hs.rdI 832 25 u (by decide) (by decide)) ?_
    refine jn_if_eq (pc := 15) C 54 (a := hd9 S u) (by omega) dX10_isPair_15 (by decide) (fun k2 => ?_) (fun k2 => ?_)
    · refine j_iconst (pc := 54) C (nI 0) dX10_isPair_54 (by decide) ?_
      refine j_topi (bI (isPair9 S v u a b)) (by rw [hip, decide_eq_false (fun z => absurd z.2.1 (by omega))]; rfl) ?_
      exact j_zreturn (pc := 55) C Q dX10_isPair_55 (bI_nar _) (Nat.le_of_ble_eq_true rfl) (Nat.le_of_ble_eq_true rfl) (⟨rfl, rfl⟩)
    · refine j_aload_n (pc := 18) C dX10_isPair_18 rfl 0 rfl ?_
      refine j_getA (pc := 19) C fp_X10_51 hs.2.1.1 rfl (f := 661) rfl (11, 31) (x9 21) ((hs.2.1.2 21 (by decide) (by decide)).1) ((hs.2.1.2 21 (by decide) (by decide)).2.1) dX10_isPair_19 ?_
      refine j_iload_n (pc := 22) C dX10_isPair_22 rfl 1 rfl ?_
      refine j_iald (pc := 23) C (p := v) (M := 40) ((hs.2.1.2 21 (by decide) (by decide)).2.1) rfl ((hs.2.1.2 21 (by decide) (by decide)).2.2) (by omega) (by decide) dX10_isPair_23 ?_
      refine j_topi (nI (ol S v)) (hs.rdI 704 31 v (by decide) (by decide)) ?_
      refine j_aload_n (pc := 24) C dX10_isPair_24 rfl 0 rfl ?_
      refine j_getA (pc := 25) C fp_X10_51 hs.2.1.1 rfl (f := 661) rfl (11, 31) (x9 21) ((hs.2.1.2 21 (by decide) (by decide)).1) ((hs.2.1.2 21 (by decide) (by decide)).2.1) dX10_isPair_25 ?_
      refine j_iload_n (pc := 28) C dX10_isPair_28 rfl 2 rfl ?_
      refine j_iald (pc := 29) C (p := u) (M := 40) ((hs.2.1.2 21 (by decide) (by decide)).2.1) rfl ((hs.2.1.2 21 (by decide) (by decide)).2.2) (by omega) (by decide) dX10_isPair_29 ?_
      refine j_topi (nI (ol S u)) (hs.rdI 704 31 u (by decide) (by decide)) ?_
      refine jn_icmp_eq (pc := 30) C 54 (a := ol S v) (b := ol S u) (by omega) (by omega) dX10_isPair_30 (by decide) (fun k3 => ?_) (fun k3 => ?_)
      · refine j_iconst (pc := 54) C (nI 0) dX10_isPair_54 (by decide) ?_
        refine j_topi (bI (isPair9 S v u a b)) (by rw [hip, decide_eq_false (fun z => z.2.2.1 k3)]; rfl) ?_
        exact j_zreturn (pc := 55) C Q dX10_isPair_55 (bI_nar _) (Nat.le_of_ble_eq_true rfl) (Nat.le_of_ble_eq_true rfl) (⟨rfl, rfl⟩)
      · refine j_aload_n (pc := 33) C dX10_isPair_33 rfl 0 rfl ?_
        refine j_getA (pc := 34) C fp_X10_60 hs.2.1.1 rfl (f := 664) rfl (12, 424) (x9 24) ((hs.2.1.2 24 (by decide) (by decide)).1) ((hs.2.1.2 24 (by decide) (by decide)).2.1) dX10_isPair_34 ?_
        refine j_iload_n (pc := 37) C dX10_isPair_37 rfl 1 rfl ?_
        refine j_lald (pc := 38) C (p := v) (M := 40) ((hs.2.1.2 24 (by decide) (by decide)).2.1) rfl ((hs.2.1.2 24 (by decide) (by decide)).2.2) (by omega) (by decide) dX10_isPair_38 ?_
        refine j_topl (enc4 (hr S v)) (hs.rdL 768 424 v (by decide) (by decide)) ?_
        refine j_callS (pc := 39) C [.long (enc4 (hr S v))] [] (rm0 := ({ frames := 1, cells := 0, slots := 0, locals := 22 } : Room)) (k' := 0) (n' := 0) Q.1 (c_X10_size (xl X) (xw X) hvR) mp_X10_size wm_1172 rfl rfl (Nat.le_of_ble_eq_true rfl) dX10_isPair_39 ⟨by decide, by decide⟩ ⟨Nat.le_of_ble_eq_true rfl, Nat.le_of_ble_eq_true rfl⟩ rfl rfl (det1 ?_)
        refine j_aload_n (pc := 42) C dX10_isPair_42 rfl 0 rfl ?_
        refine j_getA (pc := 43) C fp_X10_60 hs.2.1.1 rfl (f := 664) rfl (12, 424) (x9 24) ((hs.2.1.2 24 (by decide) (by decide)).1) ((hs.2.1.2 24 (by decide) (by decide)).2.1) dX10_isPair_43 ?_
        refine j_iload_n (pc := 46) C dX10_isPair_46 rfl 2 rfl ?_
        refine j_lald (pc := 47) C (p := u) (M := 40) ((hs.2.1.2 24 (by decide) (by decide)).2.1) rfl ((hs.2.1.2 24 (by decide) (by decide)).2.2) (by omega) (by decide) dX10_isPair_47 ?_
        refine j_topl (enc4 (hr S u)) (hs.rdL 768 424 u (by decide) (by decide)) ?_
        refine j_callS (pc := 48) C [.long (enc4 (hr S u))] [.int (nI ((hr S v).length))] (rm0 := ({ frames := 1, cells := 0, slots := 0, locals := 22 } : Room)) (k' := 0) (n' := 0) Q.1 (c_X10_size (xl X) (xw X) huR) mp_X10_size wm_1172 rfl rfl (Nat.le_of_ble_eq_true rfl) dX10_isPair_48 ⟨by decide, by decide⟩ ⟨Nat.le_of_ble_eq_true rfl, Nat.le_of_ble_eq_true rfl⟩ rfl rfl (det1 ?_)
        refine jn_icmp_eq (pc := 51) C 56 (a := (hr S v).length) (b := (hr S u).length) (by omega) (by omega) dX10_isPair_51 (by decide) (fun k4 => ?_) (fun k4 => ?_)
        · refine j_iconst (pc := 56) C (nI 0) dX10_isPair_56 (by decide) ?_
          refine j_istore (pc := 57) C [(5, .int (nI 0)), (0, .ref (x9 0)), (1, .int (nI v)), (2, .int (nI u)), (3, .int (nI a)), (4, .int (nI b))] dX10_isPair_57 (by decide) rfl ?_
          refine j_iconst (pc := 59) C (nI 0) dX10_isPair_59 (by decide) ?_
          refine j_istore (pc := 60) C [(6, .int (nI 0)), (5, .int (nI 0)), (0, .ref (x9 0)), (1, .int (nI v)), (2, .int (nI u)), (3, .int (nI a)), (4, .int (nI b))] dX10_isPair_60 (by decide) rfl ?_
          refine j_iconst (pc := 62) C (nI 0) dX10_isPair_62 (by decide) ?_
          refine j_istore (pc := 63) C [(7, .int (nI 0)), (6, .int (nI 0)), (5, .int (nI 0)), (0, .ref (x9 0)), (1, .int (nI v)), (2, .int (nI u)), (3, .int (nI a)), (4, .int (nI b))] dX10_isPair_63 (by decide) rfl ?_
          have loop : ∀ (f : Nat) (k : Nat), (k ≤ (hr S v).length) → ((hr S v).length < k + f) → J X 0 0 σ [(7, .int (nI k)), (6, .int (bI (anyB (mtP S v u a b) k))), (5, .int (nI (fb_ct (dfP S v u) k))), (0, .ref (x9 0)), (1, .int (nI v)), (2, .int (nI u)), (3, .int (nI a)), (4, .int (nI b))] [] 65 := by
            intro f
            induction f with
            | zero => intro k h1 h2; exact absurd h2 (by omega)
            | succ f ih =>
              intro k h1 h2
              have fl := fb_ct_le (dfP S v u) k
              refine j_iload (pc := 65) C dX10_isPair_65 0 rfl ?_
              refine j_aload_n (pc := 67) C dX10_isPair_67 rfl 3 rfl ?_
              refine j_getA (pc := 68) C fp_X10_60 hs.2.1.1 rfl (f := 664) rfl (12, 424) (x9 24) ((hs.2.1.2 24 (by decide) (by decide)).1) ((hs.2.1.2 24 (by decide) (by decide)).2.1) dX10_isPair_68 ?_
              refine j_iload_n (pc := 71) C dX10_isPair_71 rfl 4 rfl ?_
              refine j_lald (pc := 72) C (p := v) (M := 40) ((hs.2.1.2 24 (by decide) (by decide)).2.1) rfl ((hs.2.1.2 24 (by decide) (by decide)).2.2) (by omega) (by decide) dX10_isPair_72 ?_
              refine j_topl (enc4 (hr S v)) (hs.rdL 768 424 v (by decide) (by decide)) ?_
              refine j_callS (pc := 73) C [.long (enc4 (hr S v))] [.int (nI k)] (rm0 := ({ frames := 1, cells := 0, slots := 0, locals := 22 } : Room)) (k' := 0) (n' := 0) Q.1 (c_X10_size (xl X) (xw X) hvR) mp_X10_size wm_1172 rfl rfl (Nat.le_of_ble_eq_true rfl) dX10_isPair_73 ⟨by decide, by decide⟩ ⟨Nat.le_of_ble_eq_true rfl, Nat.le_of_ble_eq_true rfl⟩ rfl rfl (det1 ?_)
              refine jn_icmp_ge (pc := 76) C 166 (a := k) (b := (hr S v).length) (by omega) (by omega) dX10_isPair_76 (by decide) (fun c1 => ?_) (fun c1 => ?_)
              · have e : k = (hr S v).length := Nat.le_antisymm h1 c1
                subst e
                refine j_iload (pc := 166) C dX10_isPair_166 2 rfl ?_
                refine j_iconst (pc := 168) C (nI 1) dX10_isPair_168 (by decide) ?_
                refine jn_icmp_ne (pc := 169) C 181 (a := fb_ct (dfP S v u) (hr S v).length) (b := 1) (by omega) (by omega) dX10_isPair_169 (by decide) (fun c2 => ?_) (fun c2 => ?_)
                · refine j_iconst (pc := 181) C (nI 0) dX10_isPair_181 (by decide) ?_
                  refine j_topi (bI (isPair9 S v u a b)) (by rw [hip, decide_eq_true ⟨by omega, by omega, k3, k4⟩, decide_eq_false c2]; rfl) ?_
                  exact j_zreturn (pc := 182) C Q dX10_isPair_182 (bI_nar _) (Nat.le_of_ble_eq_true rfl) (Nat.le_of_ble_eq_true rfl) (⟨rfl, rfl⟩)
                · refine j_iload (pc := 172) C dX10_isPair_172 1 rfl ?_
                  refine jb_if_eq (pc := 174) C 181 (b := anyB (mtP S v u a b) (hr S v).length) dX10_isPair_174 (by decide) (fun c3 => ?_) (fun c3 => ?_)
                  · refine j_iconst (pc := 181) C (nI 0) dX10_isPair_181 (by decide) ?_
                    refine j_topi (bI (isPair9 S v u a b)) (by rw [hip, decide_eq_true ⟨by omega, by omega, k3, k4⟩, decide_eq_true c2, c3]; rfl) ?_
                    exact j_zreturn (pc := 182) C Q dX10_isPair_182 (bI_nar _) (Nat.le_of_ble_eq_true rfl) (Nat.le_of_ble_eq_true rfl) (⟨rfl, rfl⟩)
                  · refine j_iconst (pc := 177) C (nI 1) dX10_isPair_177 (by decide) ?_
                    refine j_goto (pc := 178) C 182 dX10_isPair_178 (by decide) ?_
                    refine j_topi (bI (isPair9 S v u a b)) (by rw [hip, decide_eq_true ⟨by omega, by omega, k3, k4⟩, decide_eq_true c2, c3]; rfl) ?_
                    exact j_zreturn (pc := 182) C Q dX10_isPair_182 (bI_nar _) (Nat.le_of_ble_eq_true rfl) (Nat.le_of_ble_eq_true rfl) (⟨rfl, rfl⟩)
              · obtain ⟨s, hsk⟩ : ∃ s, (hr S v)[k]? = some s := ⟨_, List.getElem?_eq_getElem c1⟩
                obtain ⟨t, htk⟩ : ∃ t, (hr S u)[k]? = some t := ⟨_, List.getElem?_eq_getElem (by omega)⟩
                have hsS := hvS.2 s (List.mem_of_getElem? hsk)
                have htS := huS.2 t (List.mem_of_getElem? htk)
                refine j_aload_n (pc := 79) C dX10_isPair_79 rfl 3 rfl ?_
                refine j_getA (pc := 80) C fp_X10_60 hs.2.1.1 rfl (f := 664) rfl (12, 424) (x9 24) ((hs.2.1.2 24 (by decide) (by decide)).1) ((hs.2.1.2 24 (by decide) (by decide)).2.1) dX10_isPair_80 ?_
                refine j_iload_n (pc := 83) C dX10_isPair_83 rfl 4 rfl ?_
                refine j_lald (pc := 84) C (p := v) (M := 40) ((hs.2.1.2 24 (by decide) (by decide)).2.1) rfl ((hs.2.1.2 24 (by decide) (by decide)).2.2) (by omega) (by decide) dX10_isPair_84 ?_
                refine j_topl (enc4 (hr S v)) (hs.rdL 768 424 v (by decide) (by decide)) ?_
                refine j_iload (pc := 85) C dX10_isPair_85 0 rfl ?_
                refine j_callS (pc := 87) C [.long (enc4 (hr S v)), .int (nI k)] [] (rm0 := ({ frames := 1, cells := 0, slots := 0, locals := 22 } : Room)) (k' := 0) (n' := 0) Q.1 (c_X10_soundAt (xl X) (xw X) hvR hsk) mp_X10_soundAt wm_1297 rfl rfl (Nat.le_of_ble_eq_true rfl) dX10_isPair_87 ⟨by decide, by decide⟩ ⟨Nat.le_of_ble_eq_true rfl, Nat.le_of_ble_eq_true rfl⟩ rfl rfl (det1 ?_)
                refine j_istore (pc := 90) C [(8, .int (nI s)), (7, .int (nI k)), (6, .int (bI (anyB (mtP S v u a b) k))), (5, .int (nI (fb_ct (dfP S v u) k))), (0, .ref (x9 0)), (1, .int (nI v)), (2, .int (nI u)), (3, .int (nI a)), (4, .int (nI b))] dX10_isPair_90 (by decide) rfl ?_
                refine j_aload_n (pc := 92) C dX10_isPair_92 rfl 4 rfl ?_
                refine j_getA (pc := 93) C fp_X10_60 hs.2.1.1 rfl (f := 664) rfl (12, 424) (x9 24) ((hs.2.1.2 24 (by decide) (by decide)).1) ((hs.2.1.2 24 (by decide) (by decide)).2.1) dX10_isPair_93 ?_
                refine j_iload_n (pc := 96) C dX10_isPair_96 rfl 6 rfl ?_
                refine j_lald (pc := 97) C (p := u) (M := 40) ((hs.2.1.2 24 (by decide) (by decide)).2.1) rfl ((hs.2.1.2 24 (by decide) (by decide)).2.2) (by omega) (by decide) dX10_isPair_97 ?_
                refine j_topl (enc4 (hr S u)) (hs.rdL 768 424 u (by decide) (by decide)) ?_
                refine j_iload (pc := 98) C dX10_isPair_98 1 rfl ?_
                refine j_callS (pc := 100) C [.long (enc4 (hr S u)), .int (nI k)] [] (rm0 := ({ frames := 1, cells := 0, slots := 0, locals := 22 } : Room)) (k' := 0) (n' := 0) Q.1 (c_X10_soundAt (xl X) (xw X) huR htk) mp_X10_soundAt wm_1297 rfl rfl (Nat.le_of_ble_eq_true rfl) dX10_isPair_100 ⟨by decide, by decide⟩ ⟨Nat.le_of_ble_eq_true rfl, Nat.le_of_ble_eq_true rfl⟩ rfl rfl (det1 ?_)
                refine j_istore (pc := 103) C [(9, .int (nI t)), (8, .int (nI s)), (7, .int (nI k)), (6, .int (bI (anyB (mtP S v u a b) k))), (5, .int (nI (fb_ct (dfP S v u) k))), (0, .ref (x9 0)), (1, .int (nI v)), (2, .int (nI u)), (3, .int (nI a)), (4, .int (nI b))] dX10_isPair_103 (by decide) rfl ?_
                refine j_iload (pc := 105) C dX10_isPair_105 4 rfl ?_
                refine j_iload (pc := 107) C dX10_isPair_107 1 rfl ?_
                refine j_iload (pc := 109) C dX10_isPair_109 0 rfl ?_
                have J122 : J X 0 0 σ [(5, .int (nI (fb_ct (dfP S v u) (k + 1)))), (9, .int (nI t)), (8, .int (nI s)), (7, .int (nI k)), (6, .int (bI (anyB (mtP S v u a b) k))), (0, .ref (x9 0)), (1, .int (nI v)), (2, .int (nI u)), (3, .int (nI a)), (4, .int (nI b))] [] 122 := by
                  refine j_iload (pc := 122) C dX10_isPair_122 4 rfl ?_
                  refine jb_if_ne (pc := 124) C 153 (b := anyB (mtP S v u a b) k) dX10_isPair_124 (by decide) (fun e1 => ?_) (fun e1 => ?_)
                  · refine j_iconst (pc := 153) C (nI 1) dX10_isPair_153 (by decide) ?_
                    refine j_goto (pc := 154) C 158 dX10_isPair_154 (by decide) ?_
                    refine j_topi (bI (anyB (mtP S v u a b) (k + 1))) (by show _ = bI (anyB _ k || mtP S v u a b k); rw [e1]; rfl) ?_
                    refine j_istore (pc := 158) C [(6, .int (bI (anyB (mtP S v u a b) (k + 1)))), (5, .int (nI (fb_ct (dfP S v u) (k + 1)))), (9, .int (nI t)), (8, .int (nI s)), (7, .int (nI k)), (0, .ref (x9 0)), (1, .int (nI v)), (2, .int (nI u)), (3, .int (nI a)), (4, .int (nI b))] dX10_isPair_158 (by decide) rfl ?_
                    refine j_iinc (pc := 160) C (nI (k + 1)) [(7, .int (nI (k + 1))), (6, .int (bI (anyB (mtP S v u a b) (k + 1)))), (5, .int (nI (fb_ct (dfP S v u) (k + 1)))), (9, .int (nI t)), (8, .int (nI s)), (0, .ref (x9 0)), (1, .int (nI v)), (2, .int (nI u)), (3, .int (nI a)), (4, .int (nI b))] dX10_isPair_160 4 rfl (nI_add k 1) (by decide) rfl ?_
                    refine j_goto (pc := 163) C 65 dX10_isPair_163 (by decide) ?_
                    exact J.to [0, 1, 2, 5, 6, 7, 8, 9] rfl (ih (k + 1) (by omega) (by omega))
                  · have hmt : mtP S v u a b k = decide ((s = a ∧ t = b) ∨ (s = b ∧ t = a)) := by
                      unfold mtP; rw [hsk, htk]; exact decide_eq_decide.mpr (by simp)
                    refine j_iload (pc := 127) C dX10_isPair_127 2 rfl ?_
                    refine j_iload_n (pc := 129) C dX10_isPair_129 rfl 8 rfl ?_
                    refine jn_icmp_ne (pc := 130) C 140 (a := s) (b := a) (by omega) (by omega) dX10_isPair_130 (by decide) (fun e2 => ?_) (fun e2 => ?_)
                    · skip
                      refine j_iload (pc := 140) C dX10_isPair_140 2 rfl ?_
                      refine j_iload (pc := 142) C dX10_isPair_142 9 rfl ?_
                      refine jn_icmp_ne (pc := 144) C 157 (a := s) (b := b) (by omega) (by omega) dX10_isPair_144 (by decide) (fun f1 => ?_) (fun f1 => ?_)
                      · refine j_iconst (pc := 157) C (nI 0) dX10_isPair_157 (by decide) ?_
                        refine j_topi (bI (anyB (mtP S v u a b) (k + 1))) (by show _ = bI (anyB _ k || mtP S v u a b k); rw [e1, hmt, decide_eq_false (fun z => by omega)]; rfl) ?_
                        refine j_istore (pc := 158) C [(6, .int (bI (anyB (mtP S v u a b) (k + 1)))), (5, .int (nI (fb_ct (dfP S v u) (k + 1)))), (9, .int (nI t)), (8, .int (nI s)), (7, .int (nI k)), (0, .ref (x9 0)), (1, .int (nI v)), (2, .int (nI u)), (3, .int (nI a)), (4, .int (nI b))] dX10_isPair_158 (by decide) rfl ?_
                        refine j_iinc (pc := 160) C (nI (k + 1)) [(7, .int (nI (k + 1))), (6, .int (bI (anyB (mtP S v u a b) (k + 1)))), (5, .int (nI (fb_ct (dfP S v u) (k + 1)))), (9, .int (nI t)), (8, .int (nI s)), (0, .ref (x9 0)), (1, .int (nI v)), (2, .int (nI u)), (3, .int (nI a)), (4, .int (nI b))] dX10_isPair_160 4 rfl (nI_add k 1) (by decide) rfl ?_
                        refine j_goto (pc := 163) C 65 dX10_isPair_163 (by decide) ?_
                        exact J.to [0, 1, 2, 5, 6, 7, 8, 9] rfl (ih (k + 1) (by omega) (by omega))
                      · refine j_iload (pc := 147) C dX10_isPair_147 1 rfl ?_
                        refine j_iload_n (pc := 149) C dX10_isPair_149 rfl 8 rfl ?_
                        refine jn_icmp_ne (pc := 150) C 157 (a := t) (b := a) (by omega) (by omega) dX10_isPair_150 (by decide) (fun g1 => ?_) (fun g1 => ?_)
                        · refine j_iconst (pc := 157) C (nI 0) dX10_isPair_157 (by decide) ?_
                          refine j_topi (bI (anyB (mtP S v u a b) (k + 1))) (by show _ = bI (anyB _ k || mtP S v u a b k); rw [e1, hmt, decide_eq_false (fun z => by omega)]; rfl) ?_
                          refine j_istore (pc := 158) C [(6, .int (bI (anyB (mtP S v u a b) (k + 1)))), (5, .int (nI (fb_ct (dfP S v u) (k + 1)))), (9, .int (nI t)), (8, .int (nI s)), (7, .int (nI k)), (0, .ref (x9 0)), (1, .int (nI v)), (2, .int (nI u)), (3, .int (nI a)), (4, .int (nI b))] dX10_isPair_158 (by decide) rfl ?_
                          refine j_iinc (pc := 160) C (nI (k + 1)) [(7, .int (nI (k + 1))), (6, .int (bI (anyB (mtP S v u a b) (k + 1)))), (5, .int (nI (fb_ct (dfP S v u) (k + 1)))), (9, .int (nI t)), (8, .int (nI s)), (0, .ref (x9 0)), (1, .int (nI v)), (2, .int (nI u)), (3, .int (nI a)), (4, .int (nI b))] dX10_isPair_160 4 rfl (nI_add k 1) (by decide) rfl ?_
                          refine j_goto (pc := 163) C 65 dX10_isPair_163 (by decide) ?_
                          exact J.to [0, 1, 2, 5, 6, 7, 8, 9] rfl (ih (k + 1) (by omega) (by omega))
                        · refine j_iconst (pc := 153) C (nI 1) dX10_isPair_153 (by decide) ?_
                          refine j_goto (pc := 154) C 158 dX10_isPair_154 (by decide) ?_
                          refine j_topi (bI (anyB (mtP S v u a b) (k + 1))) (by show _ = bI (anyB _ k || mtP S v u a b k); rw [e1, hmt, decide_eq_true (Or.inr ⟨f1, g1⟩)]; rfl) ?_
                          refine j_istore (pc := 158) C [(6, .int (bI (anyB (mtP S v u a b) (k + 1)))), (5, .int (nI (fb_ct (dfP S v u) (k + 1)))), (9, .int (nI t)), (8, .int (nI s)), (7, .int (nI k)), (0, .ref (x9 0)), (1, .int (nI v)), (2, .int (nI u)), (3, .int (nI a)), (4, .int (nI b))] dX10_isPair_158 (by decide) rfl ?_
                          refine j_iinc (pc := 160) C (nI (k + 1)) [(7, .int (nI (k + 1))), (6, .int (bI (anyB (mtP S v u a b) (k + 1)))), (5, .int (nI (fb_ct (dfP S v u) (k + 1)))), (9, .int (nI t)), (8, .int (nI s)), (0, .ref (x9 0)), (1, .int (nI v)), (2, .int (nI u)), (3, .int (nI a)), (4, .int (nI b))] dX10_isPair_160 4 rfl (nI_add k 1) (by decide) rfl ?_
                          refine j_goto (pc := 163) C 65 dX10_isPair_163 (by decide) ?_
                          exact J.to [0, 1, 2, 5, 6, 7, 8, 9] rfl (ih (k + 1) (by omega) (by omega))
                    · refine j_iload (pc := 133) C dX10_isPair_133 1 rfl ?_
                      refine j_iload (pc := 135) C dX10_isPair_135 9 rfl ?_
                      refine jn_icmp_eq (pc := 137) C 153 (a := t) (b := b) (by omega) (by omega) dX10_isPair_137 (by decide) (fun e3 => ?_) (fun e3 => ?_)
                      · refine j_iconst (pc := 153) C (nI 1) dX10_isPair_153 (by decide) ?_
                        refine j_goto (pc := 154) C 158 dX10_isPair_154 (by decide) ?_
                        refine j_topi (bI (anyB (mtP S v u a b) (k + 1))) (by show _ = bI (anyB _ k || mtP S v u a b k); rw [e1, hmt, decide_eq_true (Or.inl ⟨e2, e3⟩)]; rfl) ?_
                        refine j_istore (pc := 158) C [(6, .int (bI (anyB (mtP S v u a b) (k + 1)))), (5, .int (nI (fb_ct (dfP S v u) (k + 1)))), (9, .int (nI t)), (8, .int (nI s)), (7, .int (nI k)), (0, .ref (x9 0)), (1, .int (nI v)), (2, .int (nI u)), (3, .int (nI a)), (4, .int (nI b))] dX10_isPair_158 (by decide) rfl ?_
                        refine j_iinc (pc := 160) C (nI (k + 1)) [(7, .int (nI (k + 1))), (6, .int (bI (anyB (mtP S v u a b) (k + 1)))), (5, .int (nI (fb_ct (dfP S v u) (k + 1)))), (9, .int (nI t)), (8, .int (nI s)), (0, .ref (x9 0)), (1, .int (nI v)), (2, .int (nI u)), (3, .int (nI a)), (4, .int (nI b))] dX10_isPair_160 4 rfl (nI_add k 1) (by decide) rfl ?_
                        refine j_goto (pc := 163) C 65 dX10_isPair_163 (by decide) ?_
                        exact J.to [0, 1, 2, 5, 6, 7, 8, 9] rfl (ih (k + 1) (by omega) (by omega))
                      · skip
                        refine j_iload (pc := 140) C dX10_isPair_140 2 rfl ?_
                        refine j_iload (pc := 142) C dX10_isPair_142 9 rfl ?_
                        refine jn_icmp_ne (pc := 144) C 157 (a := s) (b := b) (by omega) (by omega) dX10_isPair_144 (by decide) (fun f2 => ?_) (fun f2 => ?_)
                        · refine j_iconst (pc := 157) C (nI 0) dX10_isPair_157 (by decide) ?_
                          refine j_topi (bI (anyB (mtP S v u a b) (k + 1))) (by show _ = bI (anyB _ k || mtP S v u a b k); rw [e1, hmt, decide_eq_false (fun z => by omega)]; rfl) ?_
                          refine j_istore (pc := 158) C [(6, .int (bI (anyB (mtP S v u a b) (k + 1)))), (5, .int (nI (fb_ct (dfP S v u) (k + 1)))), (9, .int (nI t)), (8, .int (nI s)), (7, .int (nI k)), (0, .ref (x9 0)), (1, .int (nI v)), (2, .int (nI u)), (3, .int (nI a)), (4, .int (nI b))] dX10_isPair_158 (by decide) rfl ?_
                          refine j_iinc (pc := 160) C (nI (k + 1)) [(7, .int (nI (k + 1))), (6, .int (bI (anyB (mtP S v u a b) (k + 1)))), (5, .int (nI (fb_ct (dfP S v u) (k + 1)))), (9, .int (nI t)), (8, .int (nI s)), (0, .ref (x9 0)), (1, .int (nI v)), (2, .int (nI u)), (3, .int (nI a)), (4, .int (nI b))] dX10_isPair_160 4 rfl (nI_add k 1) (by decide) rfl ?_
                          refine j_goto (pc := 163) C 65 dX10_isPair_163 (by decide) ?_
                          exact J.to [0, 1, 2, 5, 6, 7, 8, 9] rfl (ih (k + 1) (by omega) (by omega))
                        · refine j_iload (pc := 147) C dX10_isPair_147 1 rfl ?_
                          refine j_iload_n (pc := 149) C dX10_isPair_149 rfl 8 rfl ?_
                          refine jn_icmp_ne (pc := 150) C 157 (a := t) (b := a) (by omega) (by omega) dX10_isPair_150 (by decide) (fun g2 => ?_) (fun g2 => ?_)
                          · refine j_iconst (pc := 157) C (nI 0) dX10_isPair_157 (by decide) ?_
                            refine j_topi (bI (anyB (mtP S v u a b) (k + 1))) (by show _ = bI (anyB _ k || mtP S v u a b k); rw [e1, hmt, decide_eq_false (fun z => by omega)]; rfl) ?_
                            refine j_istore (pc := 158) C [(6, .int (bI (anyB (mtP S v u a b) (k + 1)))), (5, .int (nI (fb_ct (dfP S v u) (k + 1)))), (9, .int (nI t)), (8, .int (nI s)), (7, .int (nI k)), (0, .ref (x9 0)), (1, .int (nI v)), (2, .int (nI u)), (3, .int (nI a)), (4, .int (nI b))] dX10_isPair_158 (by decide) rfl ?_
                            refine j_iinc (pc := 160) C (nI (k + 1)) [(7, .int (nI (k + 1))), (6, .int (bI (anyB (mtP S v u a b) (k + 1)))), (5, .int (nI (fb_ct (dfP S v u) (k + 1)))), (9, .int (nI t)), (8, .int (nI s)), (0, .ref (x9 0)), (1, .int (nI v)), (2, .int (nI u)), (3, .int (nI a)), (4, .int (nI b))] dX10_isPair_160 4 rfl (nI_add k 1) (by decide) rfl ?_
                            refine j_goto (pc := 163) C 65 dX10_isPair_163 (by decide) ?_
                            exact J.to [0, 1, 2, 5, 6, 7, 8, 9] rfl (ih (k + 1) (by omega) (by omega))
                          · refine j_iconst (pc := 153) C (nI 1) dX10_isPair_153 (by decide) ?_
                            refine j_goto (pc := 154) C 158 dX10_isPair_154 (by decide) ?_
                            refine j_topi (bI (anyB (mtP S v u a b) (k + 1))) (by show _ = bI (anyB _ k || mtP S v u a b k); rw [e1, hmt, decide_eq_true (Or.inr ⟨f2, g2⟩)]; rfl) ?_
                            refine j_istore (pc := 158) C [(6, .int (bI (anyB (mtP S v u a b) (k + 1)))), (5, .int (nI (fb_ct (dfP S v u) (k + 1)))), (9, .int (nI t)), (8, .int (nI s)), (7, .int (nI k)), (0, .ref (x9 0)), (1, .int (nI v)), (2, .int (nI u)), (3, .int (nI a)), (4, .int (nI b))] dX10_isPair_158 (by decide) rfl ?_
                            refine j_iinc (pc := 160) C (nI (k + 1)) [(7, .int (nI (k + 1))), (6, .int (bI (anyB (mtP S v u a b) (k + 1)))), (5, .int (nI (fb_ct (dfP S v u) (k + 1)))), (9, .int (nI t)), (8, .int (nI s)), (0, .ref (x9 0)), (1, .int (nI v)), (2, .int (nI u)), (3, .int (nI a)), (4, .int (nI b))] dX10_isPair_160 4 rfl (nI_add k 1) (by decide) rfl ?_
                            refine j_goto (pc := 163) C 65 dX10_isPair_163 (by decide) ?_
                            exact J.to [0, 1, 2, 5, 6, 7, 8, 9] rfl (ih (k + 1) (by omega) (by omega))
                refine jn_icmp_ne (pc := 111) C 118 (a := s) (b := t) (by omega) (by omega) dX10_isPair_111 (by decide) (fun c2 => ?_) (fun c2 => ?_)
                · refine j_iconst (pc := 118) C (nI 1) dX10_isPair_118 (by decide) ?_
                  refine j_iadd (pc := 119) C dX10_isPair_119 ?_
                  refine j_topi (nI (fb_ct (dfP S v u) k + 1)) (nI_add (fb_ct (dfP S v u) k) 1) ?_
                  refine j_topi (nI (fb_ct (dfP S v u) (k + 1))) (by rw [fb_ct_succ]; show _ = nI (_ + if dfP S v u k = true then 1 else 0); rw [if_pos (by unfold dfP; rw [hsk, htk]; exact decide_eq_true (fun z => c2 (Option.some.inj z)))]) ?_
                  refine j_istore (pc := 120) C [(5, .int (nI (fb_ct (dfP S v u) (k + 1)))), (9, .int (nI t)), (8, .int (nI s)), (7, .int (nI k)), (6, .int (bI (anyB (mtP S v u a b) k))), (0, .ref (x9 0)), (1, .int (nI v)), (2, .int (nI u)), (3, .int (nI a)), (4, .int (nI b))] dX10_isPair_120 (by decide) rfl ?_
                  exact J122
                · refine j_iconst (pc := 114) C (nI 0) dX10_isPair_114 (by decide) ?_
                  refine j_goto (pc := 115) C 119 dX10_isPair_115 (by decide) ?_
                  refine j_iadd (pc := 119) C dX10_isPair_119 ?_
                  refine j_topi (nI (fb_ct (dfP S v u) k + 0)) (nI_add (fb_ct (dfP S v u) k) 0) ?_
                  refine j_topi (nI (fb_ct (dfP S v u) (k + 1))) (by rw [fb_ct_succ]; show _ = nI (_ + if dfP S v u k = true then 1 else 0); rw [if_neg (by unfold dfP; rw [hsk, htk, c2]; simp)]) ?_
                  refine j_istore (pc := 120) C [(5, .int (nI (fb_ct (dfP S v u) (k + 1)))), (9, .int (nI t)), (8, .int (nI s)), (7, .int (nI k)), (6, .int (bI (anyB (mtP S v u a b) k))), (0, .ref (x9 0)), (1, .int (nI v)), (2, .int (nI u)), (3, .int (nI a)), (4, .int (nI b))] dX10_isPair_120 (by decide) rfl ?_
                  exact J122
          exact J.to [0, 1, 2, 3, 4, 5, 6, 7] rfl (loop ((hr S v).length + 1) 0 (Nat.zero_le _) (by omega))
        · refine j_iconst (pc := 54) C (nI 0) dX10_isPair_54 (by decide) ?_
          refine j_topi (bI (isPair9 S v u a b)) (by rw [hip, decide_eq_false (fun z => k4 z.2.2.2)]; rfl) ?_
          exact j_zreturn (pc := 55) C Q dX10_isPair_55 (bI_nar _) (Nat.le_of_ble_eq_true rfl) (Nat.le_of_ble_eq_true rfl) (⟨rfl, rfl⟩)
set_option maxHeartbeats 4000000 in
set_option maxRecDepth 100000 in
theorem c_X10_unlikeWords (L9 : Launch) (w9 : Wd) {σ : HS} {S : SP} {x9 : Nat → Nat} {k9 : Int32} (hs : RS S x9 k9 σ) (hw : WF S) {l c s : Nat} (hl : l < nL S) (hc : c < 8) (hs64 : s < 2 ^ 64) (hbit : ∀ k, k < 2 ^ nR S → s.testBit k = fitset S k) : MJ L9 w9 yX10_unlikeWords cX10_unlikeWords 8 (some .int) ({ frames := 4, cells := 0, slots := 0, locals := 112 } : Room) [.ref (x9 0), .int (nI l), .int (nI c), .long (lN s)] σ (fun a9 σ' => a9 = some (.int (nI (unl S (base9 S l c) (2 ^ nR S)))) ∧ RS S x9 k9 σ' ∧ ME σ σ') := by
  refine MJ.of (by decide +kernel) (Nat.le_of_ble_eq_true rfl) (fun X hX1 hX2 C Q hinit => ?_)
  subst hX1; subst hX2
  show J X 0 0 σ [(0, .ref (x9 0)), (1, .int (nI l)), (2, .int (nI c)), (3, .long (lN s))] [] 0
  have hme : ME σ σ := ME.rf
  have gR := hw.2.1.1
  have gL := hw.2.2.1.1
  have g6 : 2 ^ nR S ≤ 2 ^ 6 := Nat.pow_le_pow_right (by decide) gR
  have hbS := WF_base hw hl c
  have hdR := fun k => okS.R hw.1 (der_ok hw (set := k) hbS)
  refine j_iconst (pc := 0) C (nI 0) dX10_unlikeWords_0 (by decide) ?_
  refine j_istore (pc := 1) C [(5, .int (nI 0)), (0, .ref (x9 0)), (1, .int (nI l)), (2, .int (nI c)), (3, .long (lN s))] dX10_unlikeWords_1 (by decide) rfl ?_
  refine j_iconst (pc := 3) C (nI 0) dX10_unlikeWords_3 (by decide) ?_
  refine j_istore (pc := 4) C [(6, .int (nI 0)), (5, .int (nI 0)), (0, .ref (x9 0)), (1, .int (nI l)), (2, .int (nI c)), (3, .long (lN s))] dX10_unlikeWords_4 (by decide) rfl ?_
  have loop : ∀ (f : Nat) (set : Nat) (σ9 : HS), (set ≤ 2 ^ nR S) → (2 ^ nR S < set + f) → ((∀ j, j < unl S (base9 S l c) set → ∃ k, k < set ∧ fitset S k = true ∧ hL σ9 768 433 j = enc4 (der S k (base9 S l c)))) → ((∀ k, k < set → fitset S k = true → ∃ j, j < unl S (base9 S l c) set ∧ hL σ9 768 433 j = enc4 (der S k (base9 S l c)))) → RS S x9 k9 σ9 → ME σ σ9 → J X 0 0 σ9 [(6, .int (nI set)), (5, .int (nI (unl S (base9 S l c) set))), (0, .ref (x9 0)), (1, .int (nI l)), (2, .int (nI c)), (3, .long (lN s))] [] 6 := by
    clear hs hme
    intro f
    induction f with
    | zero => intro set σ9 h1 h2 h4 h5; exact absurd h2 (by omega)
    | succ f ih =>
      intro set σ9 h1 h2 h4 h5 hs hme
      have hun := unl_le S (base9 S l c) set
      refine j_iload (pc := 6) C dX10_unlikeWords_6 0 rfl ?_
      refine j_iconst (pc := 8) C (nI 1) dX10_unlikeWords_8 (by decide) ?_
      refine j_aload_n (pc := 9) C dX10_unlikeWords_9 rfl 2 rfl ?_
      refine j_getI (pc := 10) C fp_X10_133 hs.2.1.1 rfl (f := 659) rfl dX10_unlikeWords_10 ?_
      refine j_topi (nI (nR S)) (hs.rdI 659 0 0 (by decide) (by decide)) ?_
      refine j_ishl (pc := 13) C dX10_unlikeWords_13 ?_
      refine j_topi (nI (2 ^ nR S)) (shl1 (by omega)) ?_
      refine jn_icmp_ge (pc := 14) C 94 (a := set) (b := 2 ^ nR S) (by omega) (by omega) dX10_unlikeWords_14 (by decide) (fun c1 => ?_) (fun c1 => ?_)
      · have e : set = 2 ^ nR S := Nat.le_antisymm h1 c1
        rw [e]
        refine j_iload (pc := 94) C dX10_unlikeWords_94 1 rfl ?_
        exact j_ireturn (pc := 96) C Q dX10_unlikeWords_96 (Nat.le_of_ble_eq_true rfl) (Nat.le_of_ble_eq_true rfl) (⟨rfl, hs, hme⟩)
      · refine j_lload_n (pc := 17) C dX10_unlikeWords_17 rfl 5 rfl ?_
        refine j_iload (pc := 18) C dX10_unlikeWords_18 0 rfl ?_
        refine j_lshr (pc := 20) C dX10_unlikeWords_20 ?_
        refine j_lconst (pc := 21) C (lN 1) dX10_unlikeWords_21 (by decide) ?_
        refine j_land (pc := 22) C dX10_unlikeWords_22 ?_
        refine j_topl (lN (fitset S set).toNat) ((bitL hs64 (by omega)).trans (by rw [hbit set c1])) ?_
        cases hF : fitset S set with
        | false =>
          show J X 0 0 σ9 [(6, .int (nI set)), (5, .int (nI (unl S (base9 S l c) set))), (0, .ref (x9 0)), (1, .int (nI l)), (2, .int (nI c)), (3, .long (lN s))] [.long (lN 0)] 23
          refine j_lconst (pc := 23) C (lN 1) dX10_unlikeWords_23 (by decide) ?_
          refine j_lcmp (pc := 24) C dX10_unlikeWords_24 ?_
          refine jl_if_ne (pc := 25) C 88 dX10_unlikeWords_25 (by decide) (fun c0 => ?_) (fun c0 => (absurd c0 (by decide) : False).elim)
          have e9 : unl S (base9 S l c) (set + 1) = unl S (base9 S l c) set := by rw [unl_succ, if_neg (show ¬ newP S (base9 S l c) set = true by unfold newP; rw [hF]; simp)]; rfl
          refine j_iinc (pc := 88) C (nI (set + 1)) [(6, .int (nI (set + 1))), (5, .int (nI (unl S (base9 S l c) set))), (0, .ref (x9 0)), (1, .int (nI l)), (2, .int (nI c)), (3, .long (lN s))] dX10_unlikeWords_88 0 rfl (nI_add set 1) (by decide) rfl ?_
          refine j_goto (pc := 91) C 6 dX10_unlikeWords_91 (by decide) ?_
          have l0 := ih (set + 1) σ9 (by omega) (by omega) (by rw [e9]; exact fun j hj => (h4 j hj).imp (fun k q => ⟨by omega, q.2⟩)) (by rw [e9]; exact fun k hk hfk => h5 k (Nat.lt_of_le_of_ne (by omega) (fun z => by rw [z, hF] at hfk; cases hfk)) hfk) hs hme
          rw [e9] at l0
          exact J.to [0, 1, 2, 3, 4, 5] rfl l0
        | true =>
          show J X 0 0 σ9 [(6, .int (nI set)), (5, .int (nI (unl S (base9 S l c) set))), (0, .ref (x9 0)), (1, .int (nI l)), (2, .int (nI c)), (3, .long (lN s))] [.long (lN 1)] 23
          refine j_lconst (pc := 23) C (lN 1) dX10_unlikeWords_23 (by decide) ?_
          refine j_lcmp (pc := 24) C dX10_unlikeWords_24 ?_
          refine jl_if_ne (pc := 25) C 88 dX10_unlikeWords_25 (by decide) (fun c0 => (c0 rfl : False).elim) (fun c0 => ?_)
          refine j_aload_n (pc := 28) C dX10_unlikeWords_28 rfl 2 rfl ?_
          refine j_getA (pc := 29) C fp_X10_81 hs.2.1.1 rfl (f := 673) rfl (12, 433) (x9 33) ((hs.2.1.2 33 (by decide) (by decide)).1) ((hs.2.1.2 33 (by decide) (by decide)).2.1) dX10_unlikeWords_29 ?_
          refine j_iload (pc := 32) C dX10_unlikeWords_32 1 rfl ?_
          refine j_aload_n (pc := 34) C dX10_unlikeWords_34 rfl 2 rfl ?_
          refine j_iload_n (pc := 35) C dX10_unlikeWords_35 rfl 3 rfl ?_
          refine j_iload_n (pc := 36) C dX10_unlikeWords_36 rfl 4 rfl ?_
          refine j_iload (pc := 37) C dX10_unlikeWords_37 0 rfl ?_
          refine j_iconst (pc := 39) C (-1) dX10_unlikeWords_39 (by decide) ?_
          refine j_callV (pc := 40) C [.int (nI l), .int (nI c), .int (nI set), .int (-1)] [.int (nI (unl S (base9 S l c) set)), .ref (x9 33)] (rm0 := ({ frames := 4, cells := 0, slots := 0, locals := 112 } : Room)) (k' := 0) (n' := 0) Q.1 (c_X10_derived (xl X) (xw X) hs hw hl hc (set := set) (by omega)) mp_X10_derived wm_1290 hs.2.1.1 rfl rfl (by decide) rfl rfl (Nat.le_of_ble_eq_true rfl) dX10_unlikeWords_40 ⟨by decide, by decide⟩ ⟨Nat.le_of_ble_eq_true rfl, Nat.le_of_ble_eq_true rfl⟩ rfl rfl (fun v9 σ1 hp9 => ?_)
          obtain ⟨rfl, hs, hme9⟩ := hp9
          have hme := hme.tr hme9.1
          show J X 0 0 σ1 [(6, .int (nI set)), (5, .int (nI (unl S (base9 S l c) set))), (0, .ref (x9 0)), (1, .int (nI l)), (2, .int (nI c)), (3, .long (lN s))] [.long (enc4 (der S set (base9 S l c))), .int (nI (unl S (base9 S l c) set)), .ref (x9 33)] 43
          have hL9 : ∀ j, hL σ1 768 433 j = hL σ9 768 433 j := fun j => congrArg (fun z => z.1 768 433 j) hme9.2
          refine j_last (pc := 43) C (p := unl S (base9 S l c) set) (M := 64) ((hs.2.1.2 33 (by decide) (by decide)).2.1) rfl ((hs.2.1.2 33 (by decide) (by decide)).2.2) (by omega) (by decide) dX10_unlikeWords_43 ?_
          have hU : ∀ j, hL (sL σ1 768 433 (unl S (base9 S l c) set) (enc4 (der S set (base9 S l c)))) 768 433 j = if j = unl S (base9 S l c) set then enc4 (der S set (base9 S l c)) else hL σ1 768 433 j := fun j => by
            show up3 _ _ _ _ _ _ _ _ = _
            by_cases e : j = unl S (base9 S l c) set
            · rw [e, up3_eq, if_pos rfl]
            · rw [up3_ne (fun q => e q.2.2), if_neg e]
          have hs := hs.wU (unl S (base9 S l c) set) (enc4 (der S set (base9 S l c))); have hme := hme.sL (f := 768) (i := 433) (j := (unl S (base9 S l c) set)) (v := (enc4 (der S set (base9 S l c)))) rfl
          generalize sL σ1 768 433 (unl S (base9 S l c) set) (enc4 (der S set (base9 S l c))) = σ2 at hs hme hU ⊢
          refine j_iconst (pc := 44) C (nI 0) dX10_unlikeWords_44 (by decide) ?_
          refine j_istore (pc := 45) C [(7, .int (nI 0)), (6, .int (nI set)), (5, .int (nI (unl S (base9 S l c) set))), (0, .ref (x9 0)), (1, .int (nI l)), (2, .int (nI c)), (3, .long (lN s))] dX10_unlikeWords_45 (by decide) rfl ?_
          have hn : hL σ2 768 433 (unl S (base9 S l c) set) = enc4 (der S set (base9 S l c)) := by rw [hU, if_pos rfl]
          have ho : ∀ j, j < unl S (base9 S l c) set → hL σ2 768 433 j = hL σ9 768 433 j := fun j hj => by rw [hU, if_neg (by omega), hL9]
          have loop2 : ∀ (g : Nat) (k : Nat), (k ≤ unl S (base9 S l c) set) → (unl S (base9 S l c) set < k + g) → ((∀ j, j < k → hL σ2 768 433 j ≠ enc4 (der S set (base9 S l c)))) → J X 0 0 σ2 [(7, .int (nI k)), (6, .int (nI set)), (5, .int (nI (unl S (base9 S l c) set))), (0, .ref (x9 0)), (1, .int (nI l)), (2, .int (nI c)), (3, .long (lN s))] [] 47 := by
            intro g
            induction g with
            | zero => intro k g1 g2 g3; exact absurd g2 (by omega)
            | succ g ih2 =>
              intro k g1 g2 g3
              refine j_aload_n (pc := 47) C dX10_unlikeWords_47 rfl 3 rfl ?_
              refine j_getA (pc := 48) C fp_X10_81 hs.2.1.1 rfl (f := 673) rfl (12, 433) (x9 33) ((hs.2.1.2 33 (by decide) (by decide)).1) ((hs.2.1.2 33 (by decide) (by decide)).2.1) dX10_unlikeWords_48 ?_
              refine j_iload (pc := 51) C dX10_unlikeWords_51 0 rfl ?_
              refine j_lald (pc := 53) C (p := k) (M := 64) ((hs.2.1.2 33 (by decide) (by decide)).2.1) rfl ((hs.2.1.2 33 (by decide) (by decide)).2.2) (by omega) (by decide) dX10_unlikeWords_53 ?_
              refine j_aload_n (pc := 54) C dX10_unlikeWords_54 rfl 3 rfl ?_
              refine j_getA (pc := 55) C fp_X10_81 hs.2.1.1 rfl (f := 673) rfl (12, 433) (x9 33) ((hs.2.1.2 33 (by decide) (by decide)).1) ((hs.2.1.2 33 (by decide) (by decide)).2.1) dX10_unlikeWords_55 ?_
              refine j_iload (pc := 58) C dX10_unlikeWords_58 2 rfl ?_
              refine j_lald (pc := 60) C (p := unl S (base9 S l c) set) (M := 64) ((hs.2.1.2 33 (by decide) (by decide)).2.1) rfl ((hs.2.1.2 33 (by decide) (by decide)).2.2) (by omega) (by decide) dX10_unlikeWords_60 ?_
              refine j_topl (enc4 (der S set (base9 S l c))) hn ?_
              refine j_lcmp (pc := 61) C dX10_unlikeWords_61 ?_
              refine jl_if_eq (pc := 62) C 71 dX10_unlikeWords_62 (by decide) (fun d1 => ?_) (fun d1 => ?_)
              · refine j_iload (pc := 71) C dX10_unlikeWords_71 2 rfl ?_
                refine j_iload (pc := 73) C dX10_unlikeWords_73 0 rfl ?_
                refine j_iload (pc := 75) C dX10_unlikeWords_75 2 rfl ?_
                refine jn_icmp_ne (pc := 77) C 84 (a := k) (b := unl S (base9 S l c) set) (by omega) (by omega) dX10_unlikeWords_77 (by decide) (fun d2 => ?_) (fun d2 => ?_)
                · have g4 : k < unl S (base9 S l c) set := by omega
                  obtain ⟨k2, q1, q2, q3⟩ := h4 k g4
                  have q4 : der S k2 (base9 S l c) = der S set (base9 S l c) := (enc4_inj (hdR k2) (hdR set)).mp (by rw [← q3, ← ho k g4, d1])
                  have e9 : unl S (base9 S l c) (set + 1) = unl S (base9 S l c) set := by rw [unl_succ, if_neg (show ¬ newP S (base9 S l c) set = true by unfold newP; rw [hF, Bool.true_and]; exact fun z => of_decide_eq_true z k2 q1 q2 q4)]; rfl
                  refine j_iconst (pc := 84) C (nI 0) dX10_unlikeWords_84 (by decide) ?_
                  refine j_iadd (pc := 85) C dX10_unlikeWords_85 ?_
                  refine j_topi (nI (unl S (base9 S l c) set + 0)) (nI_add (unl S (base9 S l c) set) 0) ?_
                  refine j_topi (nI (unl S (base9 S l c) (set + 1))) (congrArg nI e9.symm) ?_
                  have n4 : ∀ j, j < unl S (base9 S l c) (set + 1) → ∃ k, k < set + 1 ∧ fitset S k = true ∧ hL σ2 768 433 j = enc4 (der S k (base9 S l c)) := by
                    rw [e9]
                    intro j hj
                    rw [ho j hj]; exact (h4 j hj).imp (fun k q => ⟨by omega, q.2⟩)
                  have n5 : ∀ k, k < set + 1 → fitset S k = true → ∃ j, j < unl S (base9 S l c) (set + 1) ∧ hL σ2 768 433 j = enc4 (der S k (base9 S l c)) := by
                    rw [e9]
                    intro k3 hk hfk
                    by_cases z : k3 = set
                    · exact ⟨k, g4, by rw [z]; exact d1⟩
                    · obtain ⟨j, w1, w2⟩ := h5 k3 (by omega) hfk
                      exact ⟨j, w1, by rw [ho j w1]; exact w2⟩
                  refine j_istore (pc := 86) C [(5, .int (nI (unl S (base9 S l c) (set + 1)))), (7, .int (nI k)), (6, .int (nI set)), (0, .ref (x9 0)), (1, .int (nI l)), (2, .int (nI c)), (3, .long (lN s))] dX10_unlikeWords_86 (by decide) rfl ?_
                  refine j_iinc (pc := 88) C (nI (set + 1)) [(6, .int (nI (set + 1))), (5, .int (nI (unl S (base9 S l c) (set + 1)))), (7, .int (nI k)), (0, .ref (x9 0)), (1, .int (nI l)), (2, .int (nI c)), (3, .long (lN s))] dX10_unlikeWords_88 2 rfl (nI_add set 1) (by decide) rfl ?_
                  refine j_goto (pc := 91) C 6 dX10_unlikeWords_91 (by decide) ?_
                  exact J.to [0, 1, 3, 4, 5, 6] rfl (ih (set + 1) σ2 (by omega) (by omega) n4 n5 hs hme)
                · have g4 : k = unl S (base9 S l c) set := by omega
                  have g5 : newP S (base9 S l c) set = true := by
                    unfold newP
                    rw [hF, Bool.true_and]
                    refine decide_eq_true (fun k2 w1 w2 w3 => ?_)
                    obtain ⟨j, w4, w5⟩ := h5 k2 w1 w2
                    exact g3 j (by omega) (by rw [ho j w4, w5, w3])
                  have e9 : unl S (base9 S l c) (set + 1) = unl S (base9 S l c) set + 1 := by rw [unl_succ, if_pos g5]
                  refine j_iconst (pc := 80) C (nI 1) dX10_unlikeWords_80 (by decide) ?_
                  refine j_goto (pc := 81) C 85 dX10_unlikeWords_81 (by decide) ?_
                  refine j_iadd (pc := 85) C dX10_unlikeWords_85 ?_
                  refine j_topi (nI (unl S (base9 S l c) set + 1)) (nI_add (unl S (base9 S l c) set) 1) ?_
                  refine j_topi (nI (unl S (base9 S l c) (set + 1))) (congrArg nI e9.symm) ?_
                  have n4 : ∀ j, j < unl S (base9 S l c) (set + 1) → ∃ k, k < set + 1 ∧ fitset S k = true ∧ hL σ2 768 433 j = enc4 (der S k (base9 S l c)) := by
                    rw [e9]
                    intro j hj
                    by_cases z : j = unl S (base9 S l c) set
                    · exact ⟨set, by omega, hF, by rw [z]; exact hn⟩
                    · rw [ho j (by omega)]; exact (h4 j (by omega)).imp (fun k q => ⟨by omega, q.2⟩)
                  have n5 : ∀ k, k < set + 1 → fitset S k = true → ∃ j, j < unl S (base9 S l c) (set + 1) ∧ hL σ2 768 433 j = enc4 (der S k (base9 S l c)) := by
                    rw [e9]
                    intro k3 hk hfk
                    by_cases z : k3 = set
                    · exact ⟨unl S (base9 S l c) set, by omega, by rw [z]; exact hn⟩
                    · obtain ⟨j, w1, w2⟩ := h5 k3 (by omega) hfk
                      exact ⟨j, by omega, by rw [ho j w1]; exact w2⟩
                  refine j_istore (pc := 86) C [(5, .int (nI (unl S (base9 S l c) (set + 1)))), (7, .int (nI k)), (6, .int (nI set)), (0, .ref (x9 0)), (1, .int (nI l)), (2, .int (nI c)), (3, .long (lN s))] dX10_unlikeWords_86 (by decide) rfl ?_
                  refine j_iinc (pc := 88) C (nI (set + 1)) [(6, .int (nI (set + 1))), (5, .int (nI (unl S (base9 S l c) (set + 1)))), (7, .int (nI k)), (0, .ref (x9 0)), (1, .int (nI l)), (2, .int (nI c)), (3, .long (lN s))] dX10_unlikeWords_88 2 rfl (nI_add set 1) (by decide) rfl ?_
                  refine j_goto (pc := 91) C 6 dX10_unlikeWords_91 (by decide) ?_
                  exact J.to [0, 1, 3, 4, 5, 6] rfl (ih (set + 1) σ2 (by omega) (by omega) n4 n5 hs hme)
              · have g4 : k < unl S (base9 S l c) set := by
                  rcases Nat.lt_or_ge k (unl S (base9 S l c) set) with q | q
                  · exact q
                  · exact absurd (by rw [Nat.le_antisymm g1 q]; exact hn) d1
                refine j_iinc (pc := 65) C (nI (k + 1)) [(7, .int (nI (k + 1))), (6, .int (nI set)), (5, .int (nI (unl S (base9 S l c) set))), (0, .ref (x9 0)), (1, .int (nI l)), (2, .int (nI c)), (3, .long (lN s))] dX10_unlikeWords_65 0 rfl (nI_add k 1) (by decide) rfl ?_
                refine j_goto (pc := 68) C 47 dX10_unlikeWords_68 (by decide) ?_
                exact J.to [0, 1, 2, 3, 4, 5, 6] rfl (ih2 (k + 1) (by omega) (by omega) (fun j hj => if z : j = k then z ▸ d1 else g3 j (by omega)))
          exact J.to [0, 1, 2, 3, 4, 5, 6] rfl (loop2 (unl S (base9 S l c) set + 1) 0 (Nat.zero_le _) (by omega) (fun j hj => absurd hj (Nat.not_lt_zero j)))
  exact J.to [0, 1, 2, 3, 4, 5] rfl (loop (2 ^ nR S + 1) 0 _ (Nat.zero_le _) (by omega) (fun j hj => absurd hj (Nat.not_lt_zero j)) (fun k hk => absurd hk (Nat.not_lt_zero k)) hs hme)
