set_option maxHeartbeats 4000000 in
set_option maxRecDepth 100000 in
theorem c_X10_isMet (L9 : Launch) (w9 : Wd) {σ : HS} {S : SP} {x9 : Nat → Nat} {k9 : Int32} (hs : RS S x9 k9 σ) (hw : WF S) {r : Nat} (hr : r < nR S) {row o : List Nat} (hrow : okS S row) (ho : okS S o) {p s : Nat} (hp : row[p]? = some s) : MJ L9 w9 yX10_isMet cX10_isMet 13 (some .boolean) ({ frames := 1, cells := 0, slots := 0, locals := 22 } : Room) [.ref (x9 0), .int (nI r), .long (enc4 row), .int (nI p), .long (enc4 o)] σ (fun a9 σ' => a9 = some (.int (bI (met S r o.getLast? s row[p + 1]?))) ∧ σ' = σ) := by
  refine MJ.of (by decide +kernel) (Nat.le_of_ble_eq_true rfl) (fun X hX1 hX2 C Q hinit => ?_)
  subst hX1; subst hX2
  show J X 0 0 σ [(0, .ref (x9 0)), (1, .int (nI r)), (2, .long (enc4 row)), (4, .int (nI p)), (5, .long (enc4 o))] [] 0
  have hme : ME σ σ := ME.rf
  have hrR := okS.R hw.1 hrow
  have hoR := okS.R hw.1 ho
  have g8 := hrow.1
  have g9 := ho.1
  have gS := hw.1.1
  have gC := hw.1.2.2.2.1
  have gr := hw.2.1.1
  obtain ⟨t1, t2, t3, t4⟩ := hw.2.1.2.1 r hr
  have hpl : p < row.length := (List.getElem?_eq_some_iff.mp hp).1
  have hsS : s < nS S := hrow.2 s (List.mem_of_getElem? hp)
  refine j_lload (pc := 0) C dX10_isMet_0 4 rfl ?_
  refine j_callS (pc := 2) C [.long (enc4 o)] [] (rm0 := ({ frames := 1, cells := 0, slots := 0, locals := 22 } : Room)) (k' := 0) (n' := 0) Q.1 (c_X10_size (xl X) (xw X) hoR) mp_X10_size wm_1172 rfl rfl (Nat.le_of_ble_eq_true rfl) dX10_isMet_2 ⟨by decide, by decide⟩ ⟨Nat.le_of_ble_eq_true rfl, Nat.le_of_ble_eq_true rfl⟩ rfl rfl (det1 ?_)
  refine j_istore (pc := 5) C [(7, .int (nI o.length)), (0, .ref (x9 0)), (1, .int (nI r)), (2, .long (enc4 row)), (4, .int (nI p)), (5, .long (enc4 o))] dX10_isMet_5 (by decide) rfl ?_
  refine j_aload_n (pc := 7) C dX10_isMet_7 rfl 1 rfl ?_
  refine j_getA (pc := 8) C fp_X10_42 hs.2.1.1 rfl (f := 655) rfl (11, 25) (x9 15) ((hs.2.1.2 15 (by decide) (by decide)).1) ((hs.2.1.2 15 (by decide) (by decide)).2.1) dX10_isMet_8 ?_
  refine j_iload_n (pc := 11) C dX10_isMet_11 rfl 2 rfl ?_
  refine j_iald (pc := 12) C (p := r) (M := 6) ((hs.2.1.2 15 (by decide) (by decide)).2.1) rfl ((hs.2.1.2 15 (by decide) (by decide)).2.2) (by omega) (by decide) dX10_isMet_12 ?_
  refine j_topi (nI (le9 S r) - nI 2) (hs.rdO 704 25 r (by decide)) ?_
  refine j_istore (pc := 13) C [(8, .int (nI (le9 S r) - nI 2)), (7, .int (nI o.length)), (0, .ref (x9 0)), (1, .int (nI r)), (2, .long (enc4 row)), (4, .int (nI p)), (5, .long (enc4 o))] dX10_isMet_13 (by decide) rfl ?_
  refine j_aload_n (pc := 15) C dX10_isMet_15 rfl 2 rfl ?_
  refine j_getA (pc := 16) C fp_X10_45 hs.2.1.1 rfl (f := 656) rfl (11, 26) (x9 16) ((hs.2.1.2 16 (by decide) (by decide)).1) ((hs.2.1.2 16 (by decide) (by decide)).2.1) dX10_isMet_16 ?_
  refine j_iload_n (pc := 19) C dX10_isMet_19 rfl 3 rfl ?_
  refine j_iald (pc := 20) C (p := r) (M := 6) ((hs.2.1.2 16 (by decide) (by decide)).2.1) rfl ((hs.2.1.2 16 (by decide) (by decide)).2.2) (by omega) (by decide) dX10_isMet_20 ?_
  refine j_topi (nI (ri9 S r) - nI 2) (hs.rdO 704 26 r (by decide)) ?_
  refine j_istore (pc := 21) C [(9, .int (nI (ri9 S r) - nI 2)), (8, .int (nI (le9 S r) - nI 2)), (7, .int (nI o.length)), (0, .ref (x9 0)), (1, .int (nI r)), (2, .long (enc4 row)), (4, .int (nI p)), (5, .long (enc4 o))] dX10_isMet_21 (by decide) rfl ?_
  refine j_iload (pc := 23) C dX10_isMet_23 6 rfl ?_
  refine j_lload_n (pc := 25) C dX10_isMet_25 rfl 5 rfl ?_
  refine j_callS (pc := 26) C [.long (enc4 row)] [.int (nI p)] (rm0 := ({ frames := 1, cells := 0, slots := 0, locals := 22 } : Room)) (k' := 0) (n' := 0) Q.1 (c_X10_size (xl X) (xw X) hrR) mp_X10_size wm_1172 rfl rfl (Nat.le_of_ble_eq_true rfl) dX10_isMet_26 ⟨by decide, by decide⟩ ⟨Nat.le_of_ble_eq_true rfl, Nat.le_of_ble_eq_true rfl⟩ rfl rfl (det1 ?_)
  refine j_iconst (pc := 29) C (nI 1) dX10_isMet_29 (by decide) ?_
  refine j_isub (pc := 30) C dX10_isMet_30 ?_
  refine j_topi (nI (row.length - 1)) (pk_sub (by omega)) ?_
  have J41 : J X 0 0 σ [(10, .int (bI (decide (p = row.length - 1)))), (9, .int (nI (ri9 S r) - nI 2)), (8, .int (nI (le9 S r) - nI 2)), (7, .int (nI o.length)), (0, .ref (x9 0)), (1, .int (nI r)), (2, .long (enc4 row)), (4, .int (nI p)), (5, .long (enc4 o))] [] 41 := by
    have J92 : J X 0 0 σ [(11, .int (bI (okSide S (le9 S r) o.getLast?))), (10, .int (bI (decide (p = row.length - 1)))), (9, .int (nI (ri9 S r) - nI 2)), (8, .int (nI (le9 S r) - nI 2)), (7, .int (nI o.length)), (0, .ref (x9 0)), (1, .int (nI r)), (2, .long (enc4 row)), (4, .int (nI p)), (5, .long (enc4 o))] [] 92 := by
      have J142 : J X 0 0 σ [(12, .int (bI (okSide S (ri9 S r) row[p + 1]?))), (11, .int (bI (okSide S (le9 S r) o.getLast?))), (10, .int (bI (decide (p = row.length - 1)))), (9, .int (nI (ri9 S r) - nI 2)), (8, .int (nI (le9 S r) - nI 2)), (7, .int (nI o.length)), (0, .ref (x9 0)), (1, .int (nI r)), (2, .long (enc4 row)), (4, .int (nI p)), (5, .long (enc4 o))] [] 142 := by
        refine j_iload (pc := 142) C dX10_isMet_142 1 rfl ?_
        refine jb_if_eq (pc := 144) C 175 (b := okSide S (le9 S r) o.getLast?) dX10_isMet_144 (by decide) (fun c1 => ?_) (fun c1 => ?_)
        · refine j_iconst (pc := 175) C (nI 0) dX10_isMet_175 (by decide) ?_
          refine j_topi (bI (met S r o.getLast? s row[p + 1]?)) (by unfold met; rw [c1]; rfl) ?_
          exact j_zreturn (pc := 176) C Q dX10_isMet_176 (bI_nar _) (Nat.le_of_ble_eq_true rfl) (Nat.le_of_ble_eq_true rfl) (⟨rfl, rfl⟩)
        · refine j_iload (pc := 147) C dX10_isMet_147 0 rfl ?_
          refine jb_if_eq (pc := 149) C 175 (b := okSide S (ri9 S r) row[p + 1]?) dX10_isMet_149 (by decide) (fun c2 => ?_) (fun c2 => ?_)
          · refine j_iconst (pc := 175) C (nI 0) dX10_isMet_175 (by decide) ?_
            refine j_topi (bI (met S r o.getLast? s row[p + 1]?)) (by unfold met; rw [c2, Bool.and_false]; rfl) ?_
            exact j_zreturn (pc := 176) C Q dX10_isMet_176 (bI_nar _) (Nat.le_of_ble_eq_true rfl) (Nat.le_of_ble_eq_true rfl) (⟨rfl, rfl⟩)
          · refine j_aload_n (pc := 152) C dX10_isMet_152 rfl 6 rfl ?_
            refine j_lload_n (pc := 153) C dX10_isMet_153 rfl 8 rfl ?_
            refine j_iload (pc := 154) C dX10_isMet_154 9 rfl ?_
            refine j_callS (pc := 156) C [.long (enc4 row), .int (nI p)] [.ref (x9 0)] (rm0 := ({ frames := 1, cells := 0, slots := 0, locals := 22 } : Room)) (k' := 0) (n' := 0) Q.1 (c_X10_soundAt (xl X) (xw X) hrR hp) mp_X10_soundAt wm_1297 rfl rfl (Nat.le_of_ble_eq_true rfl) dX10_isMet_156 ⟨by decide, by decide⟩ ⟨Nat.le_of_ble_eq_true rfl, Nat.le_of_ble_eq_true rfl⟩ rfl rfl (det1 ?_)
            refine j_aload_n (pc := 159) C dX10_isMet_159 rfl 6 rfl ?_
            refine j_getA (pc := 160) C fp_X10_36 hs.2.1.1 rfl (f := 653) rfl (11, 23) (x9 13) ((hs.2.1.2 13 (by decide) (by decide)).1) ((hs.2.1.2 13 (by decide) (by decide)).2.1) dX10_isMet_160 ?_
            refine j_iload_n (pc := 163) C dX10_isMet_163 rfl 7 rfl ?_
            refine j_iald (pc := 164) C (p := r) (M := 6) ((hs.2.1.2 13 (by decide) (by decide)).2.1) rfl ((hs.2.1.2 13 (by decide) (by decide)).2.2) (by omega) (by decide) dX10_isMet_164 ?_
            refine j_topi (nI (ta S r)) (hs.rdI 704 23 r (by decide) (by decide)) ?_
            refine j_callV (pc := 165) C [.int (nI s), .int (nI (ta S r))] [] (rm0 := ({ frames := 1, cells := 0, slots := 0, locals := 22 } : Room)) (k' := 0) (n' := 0) Q.1 (c_X10_isOf (xl X) (xw X) hs hw hsS t1) mp_X10_isOf wm_1309 hs.2.1.1 rfl rfl (by decide) rfl rfl (Nat.le_of_ble_eq_true rfl) dX10_isMet_165 ⟨by decide, by decide⟩ ⟨Nat.le_of_ble_eq_true rfl, Nat.le_of_ble_eq_true rfl⟩ rfl rfl (det1 ?_)
            refine jb_if_eq (pc := 168) C 175 (b := isOf S s (ta S r)) dX10_isMet_168 (by decide) (fun c3 => ?_) (fun c3 => ?_)
            · refine j_iconst (pc := 175) C (nI 0) dX10_isMet_175 (by decide) ?_
              refine j_topi (bI (met S r o.getLast? s row[p + 1]?)) (by unfold met; rw [c3, Bool.and_false]; rfl) ?_
              exact j_zreturn (pc := 176) C Q dX10_isMet_176 (bI_nar _) (Nat.le_of_ble_eq_true rfl) (Nat.le_of_ble_eq_true rfl) (⟨rfl, rfl⟩)
            · refine j_iconst (pc := 171) C (nI 1) dX10_isMet_171 (by decide) ?_
              refine j_goto (pc := 172) C 176 dX10_isMet_172 (by decide) ?_
              refine j_topi (bI (met S r o.getLast? s row[p + 1]?)) (by unfold met; rw [c1, c2, c3]; rfl) ?_
              exact j_zreturn (pc := 176) C Q dX10_isMet_176 (bI_nar _) (Nat.le_of_ble_eq_true rfl) (Nat.le_of_ble_eq_true rfl) (⟨rfl, rfl⟩)
      refine j_iload (pc := 92) C dX10_isMet_92 2 rfl ?_
      refine j_iconst (pc := 94) C (-1) dX10_isMet_94 (by decide) ?_
      refine j_icmp_eq (pc := 95) C 135 dX10_isMet_95 (by decide) (fun c1 => ?_) (fun c1 => ?_)
      · have e1 := (sd_any (by omega)).mp c1
        refine j_iconst (pc := 135) C (nI 1) dX10_isMet_135 (by decide) ?_
        refine j_goto (pc := 136) C 140 dX10_isMet_136 (by decide) ?_
        refine j_topi (bI (okSide S (ri9 S r) row[p + 1]?)) (by unfold okSide; rw [e1]; rfl) ?_
        refine j_istore (pc := 140) C [(12, .int (bI (okSide S (ri9 S r) row[p + 1]?))), (11, .int (bI (okSide S (le9 S r) o.getLast?))), (10, .int (bI (decide (p = row.length - 1)))), (9, .int (nI (ri9 S r) - nI 2)), (8, .int (nI (le9 S r) - nI 2)), (7, .int (nI o.length)), (0, .ref (x9 0)), (1, .int (nI r)), (2, .long (enc4 row)), (4, .int (nI p)), (5, .long (enc4 o))] dX10_isMet_140 (by decide) rfl ?_
        exact J142
      · have e1 : ¬ ri9 S r = 1 := fun z => c1 ((sd_any (by omega)).mpr z)
        refine j_iload (pc := 98) C dX10_isMet_98 2 rfl ?_
        refine j_bipush (pc := 100) C (-2) dX10_isMet_100 (by decide) ?_
        refine j_icmp_ne (pc := 102) C 113 dX10_isMet_102 (by decide) (fun c2 => ?_) (fun c2 => ?_)
        · have e2 : ¬ ri9 S r = 0 := fun z => c2 ((sd_edge (by omega)).mpr z)
          refine j_iload (pc := 113) C dX10_isMet_113 1 rfl ?_
          refine jb_if_ne (pc := 115) C 139 (b := decide (p = row.length - 1)) dX10_isMet_115 (by decide) (fun c3 => ?_) (fun c3 => ?_)
          · have e3 : row[p + 1]? = none := List.getElem?_eq_none (by have := of_decide_eq_true c3; omega)
            refine j_iconst (pc := 139) C (nI 0) dX10_isMet_139 (by decide) ?_
            refine j_topi (bI (okSide S (ri9 S r) row[p + 1]?)) (by unfold okSide; rw [if_neg e1, if_neg e2, e3]; rfl) ?_
            refine j_istore (pc := 140) C [(12, .int (bI (okSide S (ri9 S r) row[p + 1]?))), (11, .int (bI (okSide S (le9 S r) o.getLast?))), (10, .int (bI (decide (p = row.length - 1)))), (9, .int (nI (ri9 S r) - nI 2)), (8, .int (nI (le9 S r) - nI 2)), (7, .int (nI o.length)), (0, .ref (x9 0)), (1, .int (nI r)), (2, .long (enc4 row)), (4, .int (nI p)), (5, .long (enc4 o))] dX10_isMet_140 (by decide) rfl ?_
            exact J142
          · have e3 : p + 1 < row.length := by have := of_decide_eq_false c3; omega
            obtain ⟨t, ht⟩ : ∃ t, row[p + 1]? = some t := ⟨_, List.getElem?_eq_getElem e3⟩
            have htS : t < nS S := hrow.2 t (List.mem_of_getElem? ht)
            refine j_aload_n (pc := 118) C dX10_isMet_118 rfl 5 rfl ?_
            refine j_lload_n (pc := 119) C dX10_isMet_119 rfl 7 rfl ?_
            refine j_iload (pc := 120) C dX10_isMet_120 8 rfl ?_
            refine j_iconst (pc := 122) C (nI 1) dX10_isMet_122 (by decide) ?_
            refine j_iadd (pc := 123) C dX10_isMet_123 ?_
            refine j_topi (nI (p + 1)) (nI_add p 1) ?_
            refine j_callS (pc := 124) C [.long (enc4 row), .int (nI (p + 1))] [.ref (x9 0)] (rm0 := ({ frames := 1, cells := 0, slots := 0, locals := 22 } : Room)) (k' := 0) (n' := 0) Q.1 (c_X10_soundAt (xl X) (xw X) hrR ht) mp_X10_soundAt wm_1297 rfl rfl (Nat.le_of_ble_eq_true rfl) dX10_isMet_124 ⟨by decide, by decide⟩ ⟨Nat.le_of_ble_eq_true rfl, Nat.le_of_ble_eq_true rfl⟩ rfl rfl (det1 ?_)
            refine j_iload (pc := 127) C dX10_isMet_127 2 rfl ?_
            refine j_topi (nI (ri9 S r - 2)) (pk_sub (by omega)) ?_
            refine j_callV (pc := 129) C [.int (nI t), .int (nI (ri9 S r - 2))] [] (rm0 := ({ frames := 1, cells := 0, slots := 0, locals := 22 } : Room)) (k' := 0) (n' := 0) Q.1 (c_X10_isOf (xl X) (xw X) hs hw htS (by omega)) mp_X10_isOf wm_1309 hs.2.1.1 rfl rfl (by decide) rfl rfl (Nat.le_of_ble_eq_true rfl) dX10_isMet_129 ⟨by decide, by decide⟩ ⟨Nat.le_of_ble_eq_true rfl, Nat.le_of_ble_eq_true rfl⟩ rfl rfl (det1 ?_)
            refine jb_if_eq (pc := 132) C 139 (b := isOf S t (ri9 S r - 2)) dX10_isMet_132 (by decide) (fun c4 => ?_) (fun c4 => ?_)
            · refine j_iconst (pc := 139) C (nI 0) dX10_isMet_139 (by decide) ?_
              refine j_topi (bI (okSide S (ri9 S r) row[p + 1]?)) (by unfold okSide; rw [if_neg e1, if_neg e2, ht]; show _ = bI (isOf S t (ri9 S r - 2)); rw [c4]; rfl) ?_
              refine j_istore (pc := 140) C [(12, .int (bI (okSide S (ri9 S r) row[p + 1]?))), (11, .int (bI (okSide S (le9 S r) o.getLast?))), (10, .int (bI (decide (p = row.length - 1)))), (9, .int (nI (ri9 S r) - nI 2)), (8, .int (nI (le9 S r) - nI 2)), (7, .int (nI o.length)), (0, .ref (x9 0)), (1, .int (nI r)), (2, .long (enc4 row)), (4, .int (nI p)), (5, .long (enc4 o))] dX10_isMet_140 (by decide) rfl ?_
              exact J142
            · refine j_iconst (pc := 135) C (nI 1) dX10_isMet_135 (by decide) ?_
              refine j_goto (pc := 136) C 140 dX10_isMet_136 (by decide) ?_
              refine j_topi (bI (okSide S (ri9 S r) row[p + 1]?)) (by unfold okSide; rw [if_neg e1, if_neg e2, ht]; show _ = bI (isOf S t (ri9 S r - 2)); rw [c4]; rfl) ?_
              refine j_istore (pc := 140) C [(12, .int (bI (okSide S (ri9 S r) row[p + 1]?))), (11, .int (bI (okSide S (le9 S r) o.getLast?))), (10, .int (bI (decide (p = row.length - 1)))), (9, .int (nI (ri9 S r) - nI 2)), (8, .int (nI (le9 S r) - nI 2)), (7, .int (nI o.length)), (0, .ref (x9 0)), (1, .int (nI r)), (2, .long (enc4 row)), (4, .int (nI p)), (5, .long (enc4 o))] dX10_isMet_140 (by decide) rfl ?_
              exact J142
        · have e2 : ri9 S r = 0 := (sd_edge (by omega)).mp c2
          refine j_iload (pc := 105) C dX10_isMet_105 1 rfl ?_
          refine jb_if_eq (pc := 107) C 139 (b := decide (p = row.length - 1)) dX10_isMet_107 (by decide) (fun c3 => ?_) (fun c3 => ?_)
          · have e3 : p + 1 < row.length := by have := of_decide_eq_false c3; omega
            refine j_iconst (pc := 139) C (nI 0) dX10_isMet_139 (by decide) ?_
            refine j_topi (bI (okSide S (ri9 S r) row[p + 1]?)) (by unfold okSide; rw [if_neg e1, if_pos e2, List.getElem?_eq_getElem e3]; rfl) ?_
            refine j_istore (pc := 140) C [(12, .int (bI (okSide S (ri9 S r) row[p + 1]?))), (11, .int (bI (okSide S (le9 S r) o.getLast?))), (10, .int (bI (decide (p = row.length - 1)))), (9, .int (nI (ri9 S r) - nI 2)), (8, .int (nI (le9 S r) - nI 2)), (7, .int (nI o.length)), (0, .ref (x9 0)), (1, .int (nI r)), (2, .long (enc4 row)), (4, .int (nI p)), (5, .long (enc4 o))] dX10_isMet_140 (by decide) rfl ?_
            exact J142
          · have e3 : row[p + 1]? = none := List.getElem?_eq_none (by have := of_decide_eq_true c3; omega)
            refine j_goto (pc := 110) C 135 dX10_isMet_110 (by decide) ?_
            refine j_iconst (pc := 135) C (nI 1) dX10_isMet_135 (by decide) ?_
            refine j_goto (pc := 136) C 140 dX10_isMet_136 (by decide) ?_
            refine j_topi (bI (okSide S (ri9 S r) row[p + 1]?)) (by unfold okSide; rw [if_neg e1, if_pos e2, e3]; rfl) ?_
            refine j_istore (pc := 140) C [(12, .int (bI (okSide S (ri9 S r) row[p + 1]?))), (11, .int (bI (okSide S (le9 S r) o.getLast?))), (10, .int (bI (decide (p = row.length - 1)))), (9, .int (nI (ri9 S r) - nI 2)), (8, .int (nI (le9 S r) - nI 2)), (7, .int (nI o.length)), (0, .ref (x9 0)), (1, .int (nI r)), (2, .long (enc4 row)), (4, .int (nI p)), (5, .long (enc4 o))] dX10_isMet_140 (by decide) rfl ?_
            exact J142
    refine j_iload (pc := 41) C dX10_isMet_41 2 rfl ?_
    refine j_iconst (pc := 43) C (-1) dX10_isMet_43 (by decide) ?_
    refine j_icmp_eq (pc := 44) C 85 dX10_isMet_44 (by decide) (fun c1 => ?_) (fun c1 => ?_)
    · have e1 := (sd_any (by omega)).mp c1
      refine j_iconst (pc := 85) C (nI 1) dX10_isMet_85 (by decide) ?_
      refine j_goto (pc := 86) C 90 dX10_isMet_86 (by decide) ?_
      refine j_topi (bI (okSide S (le9 S r) o.getLast?)) (by unfold okSide; rw [e1]; rfl) ?_
      refine j_istore (pc := 90) C [(11, .int (bI (okSide S (le9 S r) o.getLast?))), (10, .int (bI (decide (p = row.length - 1)))), (9, .int (nI (ri9 S r) - nI 2)), (8, .int (nI (le9 S r) - nI 2)), (7, .int (nI o.length)), (0, .ref (x9 0)), (1, .int (nI r)), (2, .long (enc4 row)), (4, .int (nI p)), (5, .long (enc4 o))] dX10_isMet_90 (by decide) rfl ?_
      exact J92
    · have e1 : ¬ le9 S r = 1 := fun z => c1 ((sd_any (by omega)).mpr z)
      refine j_iload (pc := 47) C dX10_isMet_47 2 rfl ?_
      refine j_bipush (pc := 49) C (-2) dX10_isMet_49 (by decide) ?_
      refine j_icmp_ne (pc := 51) C 62 dX10_isMet_51 (by decide) (fun c2 => ?_) (fun c2 => ?_)
      · have e2 : ¬ le9 S r = 0 := fun z => c2 ((sd_edge (by omega)).mpr z)
        refine j_iload (pc := 62) C dX10_isMet_62 3 rfl ?_
        refine jn_if_le (pc := 64) C 89 (a := o.length) (by omega) dX10_isMet_64 (by decide) (fun c3 => ?_) (fun c3 => ?_)
        · have e3 : o.getLast? = none := by rw [last_get]; exact List.getElem?_eq_none (by omega)
          refine j_iconst (pc := 89) C (nI 0) dX10_isMet_89 (by decide) ?_
          refine j_topi (bI (okSide S (le9 S r) o.getLast?)) (by unfold okSide; rw [if_neg e1, if_neg e2, e3]; rfl) ?_
          refine j_istore (pc := 90) C [(11, .int (bI (okSide S (le9 S r) o.getLast?))), (10, .int (bI (decide (p = row.length - 1)))), (9, .int (nI (ri9 S r) - nI 2)), (8, .int (nI (le9 S r) - nI 2)), (7, .int (nI o.length)), (0, .ref (x9 0)), (1, .int (nI r)), (2, .long (enc4 row)), (4, .int (nI p)), (5, .long (enc4 o))] dX10_isMet_90 (by decide) rfl ?_
          exact J92
        · obtain ⟨t, ht⟩ : ∃ t, o[o.length - 1]? = some t := ⟨_, List.getElem?_eq_getElem (by omega)⟩
          have htS : t < nS S := ho.2 t (List.mem_of_getElem? ht)
          refine j_aload_n (pc := 67) C dX10_isMet_67 rfl 4 rfl ?_
          refine j_lload (pc := 68) C dX10_isMet_68 8 rfl ?_
          refine j_iload (pc := 70) C dX10_isMet_70 3 rfl ?_
          refine j_iconst (pc := 72) C (nI 1) dX10_isMet_72 (by decide) ?_
          refine j_isub (pc := 73) C dX10_isMet_73 ?_
          refine j_topi (nI (o.length - 1)) (pk_sub (by omega)) ?_
          refine j_callS (pc := 74) C [.long (enc4 o), .int (nI (o.length - 1))] [.ref (x9 0)] (rm0 := ({ frames := 1, cells := 0, slots := 0, locals := 22 } : Room)) (k' := 0) (n' := 0) Q.1 (c_X10_soundAt (xl X) (xw X) hoR ht) mp_X10_soundAt wm_1297 rfl rfl (Nat.le_of_ble_eq_true rfl) dX10_isMet_74 ⟨by decide, by decide⟩ ⟨Nat.le_of_ble_eq_true rfl, Nat.le_of_ble_eq_true rfl⟩ rfl rfl (det1 ?_)
          refine j_iload (pc := 77) C dX10_isMet_77 2 rfl ?_
          refine j_topi (nI (le9 S r - 2)) (pk_sub (by omega)) ?_
          refine j_callV (pc := 79) C [.int (nI t), .int (nI (le9 S r - 2))] [] (rm0 := ({ frames := 1, cells := 0, slots := 0, locals := 22 } : Room)) (k' := 0) (n' := 0) Q.1 (c_X10_isOf (xl X) (xw X) hs hw htS (by omega)) mp_X10_isOf wm_1309 hs.2.1.1 rfl rfl (by decide) rfl rfl (Nat.le_of_ble_eq_true rfl) dX10_isMet_79 ⟨by decide, by decide⟩ ⟨Nat.le_of_ble_eq_true rfl, Nat.le_of_ble_eq_true rfl⟩ rfl rfl (det1 ?_)
          refine jb_if_eq (pc := 82) C 89 (b := isOf S t (le9 S r - 2)) dX10_isMet_82 (by decide) (fun c4 => ?_) (fun c4 => ?_)
          · refine j_iconst (pc := 89) C (nI 0) dX10_isMet_89 (by decide) ?_
            refine j_topi (bI (okSide S (le9 S r) o.getLast?)) (by unfold okSide; rw [if_neg e1, if_neg e2, last_get, ht]; show _ = bI (isOf S t (le9 S r - 2)); rw [c4]; rfl) ?_
            refine j_istore (pc := 90) C [(11, .int (bI (okSide S (le9 S r) o.getLast?))), (10, .int (bI (decide (p = row.length - 1)))), (9, .int (nI (ri9 S r) - nI 2)), (8, .int (nI (le9 S r) - nI 2)), (7, .int (nI o.length)), (0, .ref (x9 0)), (1, .int (nI r)), (2, .long (enc4 row)), (4, .int (nI p)), (5, .long (enc4 o))] dX10_isMet_90 (by decide) rfl ?_
            exact J92
          · refine j_iconst (pc := 85) C (nI 1) dX10_isMet_85 (by decide) ?_
            refine j_goto (pc := 86) C 90 dX10_isMet_86 (by decide) ?_
            refine j_topi (bI (okSide S (le9 S r) o.getLast?)) (by unfold okSide; rw [if_neg e1, if_neg e2, last_get, ht]; show _ = bI (isOf S t (le9 S r - 2)); rw [c4]; rfl) ?_
            refine j_istore (pc := 90) C [(11, .int (bI (okSide S (le9 S r) o.getLast?))), (10, .int (bI (decide (p = row.length - 1)))), (9, .int (nI (ri9 S r) - nI 2)), (8, .int (nI (le9 S r) - nI 2)), (7, .int (nI o.length)), (0, .ref (x9 0)), (1, .int (nI r)), (2, .long (enc4 row)), (4, .int (nI p)), (5, .long (enc4 o))] dX10_isMet_90 (by decide) rfl ?_
            exact J92
      · have e2 : le9 S r = 0 := (sd_edge (by omega)).mp c2
        refine j_iload (pc := 54) C dX10_isMet_54 3 rfl ?_
        refine jn_if_ne (pc := 56) C 89 (a := o.length) (by omega) dX10_isMet_56 (by decide) (fun c3 => ?_) (fun c3 => ?_)
        · obtain ⟨t, ht⟩ : ∃ t, o[o.length - 1]? = some t := ⟨_, List.getElem?_eq_getElem (by omega)⟩
          refine j_iconst (pc := 89) C (nI 0) dX10_isMet_89 (by decide) ?_
          refine j_topi (bI (okSide S (le9 S r) o.getLast?)) (by unfold okSide; rw [if_neg e1, if_pos e2, last_get, ht]; rfl) ?_
          refine j_istore (pc := 90) C [(11, .int (bI (okSide S (le9 S r) o.getLast?))), (10, .int (bI (decide (p = row.length - 1)))), (9, .int (nI (ri9 S r) - nI 2)), (8, .int (nI (le9 S r) - nI 2)), (7, .int (nI o.length)), (0, .ref (x9 0)), (1, .int (nI r)), (2, .long (enc4 row)), (4, .int (nI p)), (5, .long (enc4 o))] dX10_isMet_90 (by decide) rfl ?_
          exact J92
        · have e3 : o.getLast? = none := by rw [last_get]; exact List.getElem?_eq_none (by omega)
          refine j_goto (pc := 59) C 85 dX10_isMet_59 (by decide) ?_
          refine j_iconst (pc := 85) C (nI 1) dX10_isMet_85 (by decide) ?_
          refine j_goto (pc := 86) C 90 dX10_isMet_86 (by decide) ?_
          refine j_topi (bI (okSide S (le9 S r) o.getLast?)) (by unfold okSide; rw [if_neg e1, if_pos e2, e3]; rfl) ?_
          refine j_istore (pc := 90) C [(11, .int (bI (okSide S (le9 S r) o.getLast?))), (10, .int (bI (decide (p = row.length - 1)))), (9, .int (nI (ri9 S r) - nI 2)), (8, .int (nI (le9 S r) - nI 2)), (7, .int (nI o.length)), (0, .ref (x9 0)), (1, .int (nI r)), (2, .long (enc4 row)), (4, .int (nI p)), (5, .long (enc4 o))] dX10_isMet_90 (by decide) rfl ?_
          exact J92
  refine jn_icmp_ne (pc := 31) C 38 (a := p) (b := row.length - 1) (by omega) (by omega) dX10_isMet_31 (by decide) (fun c1 => ?_) (fun c1 => ?_)
  · refine j_iconst (pc := 38) C (nI 0) dX10_isMet_38 (by decide) ?_
    refine j_topi (bI (decide (p = row.length - 1))) (by rw [decide_eq_false c1]; rfl) ?_
    refine j_istore (pc := 39) C [(10, .int (bI (decide (p = row.length - 1)))), (9, .int (nI (ri9 S r) - nI 2)), (8, .int (nI (le9 S r) - nI 2)), (7, .int (nI o.length)), (0, .ref (x9 0)), (1, .int (nI r)), (2, .long (enc4 row)), (4, .int (nI p)), (5, .long (enc4 o))] dX10_isMet_39 (by decide) rfl ?_
    exact J41
  · refine j_iconst (pc := 34) C (nI 1) dX10_isMet_34 (by decide) ?_
    refine j_goto (pc := 35) C 39 dX10_isMet_35 (by decide) ?_
    refine j_topi (bI (decide (p = row.length - 1))) (by rw [decide_eq_true c1]; rfl) ?_
    refine j_istore (pc := 39) C [(10, .int (bI (decide (p = row.length - 1)))), (9, .int (nI (ri9 S r) - nI 2)), (8, .int (nI (le9 S r) - nI 2)), (7, .int (nI o.length)), (0, .ref (x9 0)), (1, .int (nI r)), (2, .long (enc4 row)), (4, .int (nI p)), (5, .long (enc4 o))] dX10_isMet_39 (by decide) rfl ?_
    exact J41
