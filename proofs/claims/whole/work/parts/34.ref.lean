set_option maxHeartbeats 4000000 in
set_option maxRecDepth 100000 in
theorem c_X10_ones (L9 : Launch) (w9 : Wd) {σ : HS} {s : Nat} (hs64 : s < 2 ^ 31) : MJ L9 w9 yX10_ones cX10_ones 3 (some .int) ({ frames := 0, cells := 0, slots := 0, locals := 0 } : Room) [.int (nI s)] σ (fun a9 σ' => a9 = some (.int (nI (ones s))) ∧ σ' = σ) := by
  refine MJ.of (by decide +kernel) (Nat.le_of_ble_eq_true rfl) (fun X hX1 hX2 C Q hinit => ?_)
  subst hX1; subst hX2
  show J X 0 0 σ [(0, .int (nI s))] [] 0
  refine j_iconst (pc := 0) C (nI 0) dX10_ones_0 (by decide) ?_
  refine j_istore_n (pc := 1) C [(1, .int (nI 0)), (0, .int (nI s))] dX10_ones_1 rfl (by decide) rfl ?_
  refine j_iconst (pc := 2) C (nI 0) dX10_ones_2 (by decide) ?_
  refine j_istore_n (pc := 3) C [(2, .int (nI 0)), (1, .int (nI 0)), (0, .int (nI s))] dX10_ones_3 rfl (by decide) rfl ?_
  have loop : ∀ (f : Nat) (k : Nat), (k ≤ 6) → (6 < k + f) → J X 0 0 σ [(2, .int (nI k)), (1, .int (nI (fb_ct (fun k => s.testBit k) k))), (0, .int (nI s))] [] 4 := by
    intro f
    induction f with
    | zero => intro k h1 h2; exact absurd h2 (by omega)
    | succ f ih =>
      intro k h1 h2
      refine j_iload_n (pc := 4) C dX10_ones_4 rfl 0 rfl ?_
      refine j_bipush (pc := 5) C (nI 6) dX10_ones_5 (by decide) ?_
      refine jn_icmp_ge (pc := 7) C 24 (a := k) (b := 6) (by omega) (by omega) dX10_ones_7 (by decide) (fun c1 => ?_) (fun c1 => ?_)
      · have e : k = 6 := by omega
        subst e
        refine j_iload_n (pc := 24) C dX10_ones_24 rfl 1 rfl ?_
        exact j_ireturn (pc := 25) C Q dX10_ones_25 (Nat.le_of_ble_eq_true rfl) (Nat.le_of_ble_eq_true rfl) (⟨rfl, rfl⟩)
      · refine j_iload_n (pc := 10) C dX10_ones_10 rfl 1 rfl ?_
        refine j_iload_n (pc := 11) C dX10_ones_11 rfl 2 rfl ?_
        refine j_iload_n (pc := 12) C dX10_ones_12 rfl 0 rfl ?_
        refine j_ishr (pc := 13) C dX10_ones_13 ?_
        refine j_iconst (pc := 14) C (nI 1) dX10_ones_14 (by decide) ?_
        refine j_iand (pc := 15) C dX10_ones_15 ?_
        refine j_topi (nI ((s.testBit k).toNat)) (bitI hs64 (by omega)) ?_
        refine j_iadd (pc := 16) C dX10_ones_16 ?_
        refine j_topi (nI (fb_ct (fun k => s.testBit k) k + (s.testBit k).toNat)) (nI_add (fb_ct (fun k => s.testBit k) k) ((s.testBit k).toNat)) ?_
        refine j_topi (nI (fb_ct (fun k => s.testBit k) (k + 1))) (by rw [fb_ct_succ, toNat_if]) ?_
        refine j_istore_n (pc := 17) C [(1, .int (nI (fb_ct (fun k => s.testBit k) (k + 1)))), (2, .int (nI k)), (0, .int (nI s))] dX10_ones_17 rfl (by decide) rfl ?_
        refine j_iinc (pc := 18) C (nI (k + 1)) [(2, .int (nI (k + 1))), (1, .int (nI (fb_ct (fun k => s.testBit k) (k + 1)))), (0, .int (nI s))] dX10_ones_18 1 rfl (nI_add k 1) (by decide) rfl ?_
        refine j_goto (pc := 21) C 4 dX10_ones_21 (by decide) ?_
        exact J.to [0, 1, 2] rfl (ih (k + 1) (by omega) (by omega))
  exact J.to [0, 1, 2] rfl (loop 7 0 (Nat.zero_le _) (by omega))
set_option maxHeartbeats 4000000 in
set_option maxRecDepth 100000 in
theorem c_X10_heardIn (L9 : Launch) (w9 : Wd) {σ : HS} {S : SP} {x9 : Nat → Nat} {k9 : Int32} (hs : RS S x9 k9 σ) (hw : WF S) {l : Nat} (hl : l < nL S) : MJ L9 w9 yX10_heardIn cX10_heardIn 4 (some .int) ({ frames := 0, cells := 0, slots := 0, locals := 0 } : Room) [.ref (x9 0), .int (nI l)] σ (fun a9 σ' => a9 = some (.int (nI (heardIn S l (nW S)))) ∧ σ' = σ) := by
  refine MJ.of (by decide +kernel) (Nat.le_of_ble_eq_true rfl) (fun X hX1 hX2 C Q hinit => ?_)
  subst hX1; subst hX2
  show J X 0 0 σ [(0, .ref (x9 0)), (1, .int (nI l))] [] 0
  have hme : ME σ σ := ME.rf
  have gW := hw.2.2.2.1.1
  have gL := hw.2.2.1.1
  refine j_iconst (pc := 0) C (nI 0) dX10_heardIn_0 (by decide) ?_
  refine j_istore_n (pc := 1) C [(2, .int (nI 0)), (0, .ref (x9 0)), (1, .int (nI l))] dX10_heardIn_1 rfl (by decide) rfl ?_
  refine j_iconst (pc := 2) C (nI 0) dX10_heardIn_2 (by decide) ?_
  refine j_istore_n (pc := 3) C [(3, .int (nI 0)), (2, .int (nI 0)), (0, .ref (x9 0)), (1, .int (nI l))] dX10_heardIn_3 rfl (by decide) rfl ?_
  have loop : ∀ (f : Nat) (v : Nat), (v ≤ nW S) → (nW S < v + f) → J X 0 0 σ [(3, .int (nI v)), (2, .int (nI (heardIn S l v))), (0, .ref (x9 0)), (1, .int (nI l))] [] 4 := by
    intro f
    induction f with
    | zero => intro v h1 h2; exact absurd h2 (by omega)
    | succ f ih =>
      intro v h1 h2
      have h256 := heardIn_lt hw l v h1
      refine j_iload_n (pc := 4) C dX10_heardIn_4 rfl 0 rfl ?_
      refine j_aload_n (pc := 5) C dX10_heardIn_5 rfl 2 rfl ?_
      refine j_getI (pc := 6) C fp_X10_187 hs.2.1.1 rfl (f := 666) rfl dX10_heardIn_6 ?_
      refine j_topi (nI (nW S)) (hs.rdI 666 0 0 (by decide) (by decide)) ?_
      refine jn_icmp_ge (pc := 9) C 52 (a := v) (b := nW S) (by omega) (by omega) dX10_heardIn_9 (by decide) (fun c1 => ?_) (fun c1 => ?_)
      · have e : v = nW S := Nat.le_antisymm h1 c1
        subst e
        refine j_iload_n (pc := 52) C dX10_heardIn_52 rfl 1 rfl ?_
        exact j_ireturn (pc := 53) C Q dX10_heardIn_53 (Nat.le_of_ble_eq_true rfl) (Nat.le_of_ble_eq_true rfl) (⟨rfl, rfl⟩)
      · obtain ⟨q1, q2, -, q4, -⟩ := hw.2.2.2.1.2.2 v c1
        refine j_iload_n (pc := 12) C dX10_heardIn_12 rfl 1 rfl ?_
        refine j_aload_n (pc := 13) C dX10_heardIn_13 rfl 2 rfl ?_
        refine j_getA (pc := 14) C fp_X10_63 hs.2.1.1 rfl (f := 665) rfl (13, 25) (x9 25) ((hs.2.1.2 25 (by decide) (by decide)).1) ((hs.2.1.2 25 (by decide) (by decide)).2.1) dX10_heardIn_14 ?_
        refine j_iload_n (pc := 17) C dX10_heardIn_17 rfl 0 rfl ?_
        refine j_zald (pc := 18) C (p := v) (M := 40) ((hs.2.1.2 25 (by decide) (by decide)).2.1) rfl ((hs.2.1.2 25 (by decide) (by decide)).2.2) (by omega) (by decide) dX10_heardIn_18 ?_
        refine j_topi (nI (hd9 S v)) (hs.rdI 832 25 v (by decide) (by decide)) ?_
        refine jn_if_eq (pc := 19) C 43 (a := hd9 S v) (by omega) dX10_heardIn_19 (by decide) (fun c2 => ?_) (fun c2 => ?_)
        · refine j_iconst (pc := 43) C (nI 0) dX10_heardIn_43 (by decide) ?_
          refine j_ior (pc := 44) C dX10_heardIn_44 ?_
          refine j_topi (nI ((heardIn S l v) ||| 0)) (nx_or (heardIn S l v) 0) ?_
          refine j_topi (nI (heardIn S l (v + 1))) (by show _ = nI (if hd9 S v = 1 ∧ ol S v = l then _ else _); rw [if_neg (fun z => by omega), Nat.or_zero]) ?_
          refine j_istore_n (pc := 45) C [(2, .int (nI (heardIn S l (v + 1)))), (3, .int (nI v)), (0, .ref (x9 0)), (1, .int (nI l))] dX10_heardIn_45 rfl (by decide) rfl ?_
          refine j_iinc (pc := 46) C (nI (v + 1)) [(3, .int (nI (v + 1))), (2, .int (nI (heardIn S l (v + 1)))), (0, .ref (x9 0)), (1, .int (nI l))] dX10_heardIn_46 1 rfl (nI_add v 1) (by decide) rfl ?_
          refine j_goto (pc := 49) C 4 dX10_heardIn_49 (by decide) ?_
          exact J.to [0, 1, 2, 3] rfl (ih (v + 1) (by omega) (by omega))
        · refine j_aload_n (pc := 22) C dX10_heardIn_22 rfl 2 rfl ?_
          refine j_getA (pc := 23) C fp_X10_51 hs.2.1.1 rfl (f := 661) rfl (11, 31) (x9 21) ((hs.2.1.2 21 (by decide) (by decide)).1) ((hs.2.1.2 21 (by decide) (by decide)).2.1) dX10_heardIn_23 ?_
          refine j_iload_n (pc := 26) C dX10_heardIn_26 rfl 0 rfl ?_
          refine j_iald (pc := 27) C (p := v) (M := 40) ((hs.2.1.2 21 (by decide) (by decide)).2.1) rfl ((hs.2.1.2 21 (by decide) (by decide)).2.2) (by omega) (by decide) dX10_heardIn_27 ?_
          refine j_topi (nI (ol S v)) (hs.rdI 704 31 v (by decide) (by decide)) ?_
          refine j_iload_n (pc := 28) C dX10_heardIn_28 rfl 3 rfl ?_
          refine jn_icmp_ne (pc := 29) C 43 (a := ol S v) (b := l) (by omega) (by omega) dX10_heardIn_29 (by decide) (fun c3 => ?_) (fun c3 => ?_)
          · refine j_iconst (pc := 43) C (nI 0) dX10_heardIn_43 (by decide) ?_
            refine j_ior (pc := 44) C dX10_heardIn_44 ?_
            refine j_topi (nI ((heardIn S l v) ||| 0)) (nx_or (heardIn S l v) 0) ?_
            refine j_topi (nI (heardIn S l (v + 1))) (by show _ = nI (if hd9 S v = 1 ∧ ol S v = l then _ else _); rw [if_neg (fun z => c3 z.2), Nat.or_zero]) ?_
            refine j_istore_n (pc := 45) C [(2, .int (nI (heardIn S l (v + 1)))), (3, .int (nI v)), (0, .ref (x9 0)), (1, .int (nI l))] dX10_heardIn_45 rfl (by decide) rfl ?_
            refine j_iinc (pc := 46) C (nI (v + 1)) [(3, .int (nI (v + 1))), (2, .int (nI (heardIn S l (v + 1)))), (0, .ref (x9 0)), (1, .int (nI l))] dX10_heardIn_46 1 rfl (nI_add v 1) (by decide) rfl ?_
            refine j_goto (pc := 49) C 4 dX10_heardIn_49 (by decide) ?_
            exact J.to [0, 1, 2, 3] rfl (ih (v + 1) (by omega) (by omega))
          · refine j_iconst (pc := 32) C (nI 1) dX10_heardIn_32 (by decide) ?_
            refine j_aload_n (pc := 33) C dX10_heardIn_33 rfl 2 rfl ?_
            refine j_getA (pc := 34) C fp_X10_54 hs.2.1.1 rfl (f := 662) rfl (11, 32) (x9 22) ((hs.2.1.2 22 (by decide) (by decide)).1) ((hs.2.1.2 22 (by decide) (by decide)).2.1) dX10_heardIn_34 ?_
            refine j_iload_n (pc := 37) C dX10_heardIn_37 rfl 0 rfl ?_
            refine j_iald (pc := 38) C (p := v) (M := 40) ((hs.2.1.2 22 (by decide) (by decide)).2.1) rfl ((hs.2.1.2 22 (by decide) (by decide)).2.2) (by omega) (by decide) dX10_heardIn_38 ?_
            refine j_topi (nI (cw S v)) (hs.rdI 704 32 v (by decide) (by decide)) ?_
            refine j_ishl (pc := 39) C dX10_heardIn_39 ?_
            refine j_topi (nI (2 ^ cw S v)) (shl1 (by omega)) ?_
            refine j_goto (pc := 40) C 44 dX10_heardIn_40 (by decide) ?_
            refine j_ior (pc := 44) C dX10_heardIn_44 ?_
            refine j_topi (nI ((heardIn S l v) ||| (2 ^ cw S v))) (nx_or (heardIn S l v) (2 ^ cw S v)) ?_
            refine j_topi (nI (heardIn S l (v + 1))) (by show _ = nI (if hd9 S v = 1 ∧ ol S v = l then _ else _); rw [if_pos ⟨by omega, c3⟩]) ?_
            refine j_istore_n (pc := 45) C [(2, .int (nI (heardIn S l (v + 1)))), (3, .int (nI v)), (0, .ref (x9 0)), (1, .int (nI l))] dX10_heardIn_45 rfl (by decide) rfl ?_
            refine j_iinc (pc := 46) C (nI (v + 1)) [(3, .int (nI (v + 1))), (2, .int (nI (heardIn S l (v + 1)))), (0, .ref (x9 0)), (1, .int (nI l))] dX10_heardIn_46 1 rfl (nI_add v 1) (by decide) rfl ?_
            refine j_goto (pc := 49) C 4 dX10_heardIn_49 (by decide) ?_
            exact J.to [0, 1, 2, 3] rfl (ih (v + 1) (by omega) (by omega))
  exact J.to [0, 1, 2, 3] rfl (loop (nW S + 1) 0 (Nat.zero_le _) (by omega))
set_option maxHeartbeats 4000000 in
set_option maxRecDepth 100000 in
theorem c_X10_isShared (L9 : Launch) (w9 : Wd) {σ : HS} {S : SP} {x9 : Nat → Nat} {k9 : Int32} (hs : RS S x9 k9 σ) (hw : WF S) {l c a b : Nat} (hl : l < 2 ^ 31) (hc : c < 2 ^ 31) (ha : a < 2 ^ 31) (hb : b < 2 ^ 31) : MJ L9 w9 yX10_isShared cX10_isShared 9 (some .boolean) ({ frames := 0, cells := 0, slots := 0, locals := 0 } : Room) [.ref (x9 0), .int (nI l), .int (nI c), .int (nI a), .int (nI b)] σ (fun a9 σ' => a9 = some (.int (bI (isShared9 S l c a b))) ∧ σ' = σ) := by
  refine MJ.of (by decide +kernel) (Nat.le_of_ble_eq_true rfl) (fun X hX1 hX2 C Q hinit => ?_)
  subst hX1; subst hX2
  show J X 0 0 σ [(0, .ref (x9 0)), (1, .int (nI l)), (2, .int (nI c)), (3, .int (nI a)), (4, .int (nI b))] [] 0
  have hme : ME σ σ := ME.rf
  have gW := hw.2.2.2.1.1
  have gL := hw.2.2.1.1
  refine j_iconst (pc := 0) C (nI 0) dX10_isShared_0 (by decide) ?_
  refine j_istore (pc := 1) C [(5, .int (nI 0)), (0, .ref (x9 0)), (1, .int (nI l)), (2, .int (nI c)), (3, .int (nI a)), (4, .int (nI b))] dX10_isShared_1 (by decide) rfl ?_
  refine j_iconst (pc := 3) C (nI 0) dX10_isShared_3 (by decide) ?_
  refine j_istore (pc := 4) C [(6, .int (nI 0)), (5, .int (nI 0)), (0, .ref (x9 0)), (1, .int (nI l)), (2, .int (nI c)), (3, .int (nI a)), (4, .int (nI b))] dX10_isShared_4 (by decide) rfl ?_
  have loop : ∀ (f : Nat) (v : Nat) (is9 : Bool), (v ≤ nW S) → (nW S < v + f) → (is9 = anyB (fun v => anyB (shP S l c a b v) (nW S)) v) → J X 0 0 σ [(6, .int (nI v)), (5, .int (bI is9)), (0, .ref (x9 0)), (1, .int (nI l)), (2, .int (nI c)), (3, .int (nI a)), (4, .int (nI b))] [] 6 := by
    intro f
    induction f with
    | zero => intro v is9 h1 h2 h3; exact absurd h2 (by omega)
    | succ f ih =>
      intro v is9 h1 h2 h3
      refine j_iload (pc := 6) C dX10_isShared_6 0 rfl ?_
      refine j_aload_n (pc := 8) C dX10_isShared_8 rfl 2 rfl ?_
      refine j_getI (pc := 9) C fp_X10_187 hs.2.1.1 rfl (f := 666) rfl dX10_isShared_9 ?_
      refine j_topi (nI (nW S)) (hs.rdI 666 0 0 (by decide) (by decide)) ?_
      refine jn_icmp_ge (pc := 12) C 168 (a := v) (b := nW S) (by omega) (by omega) dX10_isShared_12 (by decide) (fun c1 => ?_) (fun c1 => ?_)
      · have e : v = nW S := Nat.le_antisymm h1 c1
        subst e
        refine j_iload (pc := 168) C dX10_isShared_168 1 rfl ?_
        refine j_topi (bI (isShared9 S l c a b)) (by rw [h3, isShared_any]) ?_
        exact j_zreturn (pc := 170) C Q dX10_isShared_170 (bI_nar _) (Nat.le_of_ble_eq_true rfl) (Nat.le_of_ble_eq_true rfl) (⟨rfl, rfl⟩)
      · obtain ⟨q1, q2, q3, q4, -⟩ := hw.2.2.2.1.2.2 v c1
        refine j_iconst (pc := 15) C (nI 0) dX10_isShared_15 (by decide) ?_
        refine j_istore (pc := 16) C [(7, .int (nI 0)), (6, .int (nI v)), (5, .int (bI is9)), (0, .ref (x9 0)), (1, .int (nI l)), (2, .int (nI c)), (3, .int (nI a)), (4, .int (nI b))] dX10_isShared_16 (by decide) rfl ?_
        have loop2 : ∀ (g : Nat) (j : Nat) (is8 : Bool), (j ≤ nW S) → (nW S < j + g) → (is8 = (is9 || anyB (shP S l c a b v) j)) → J X 0 0 σ [(7, .int (nI j)), (6, .int (nI v)), (5, .int (bI is8)), (0, .ref (x9 0)), (1, .int (nI l)), (2, .int (nI c)), (3, .int (nI a)), (4, .int (nI b))] [] 18 := by
          intro g
          induction g with
          | zero => intro j is8 g1 g2 g3; exact absurd g2 (by omega)
          | succ g ih2 =>
            intro j is8 g1 g2 g3
            refine j_iload (pc := 18) C dX10_isShared_18 0 rfl ?_
            refine j_aload_n (pc := 20) C dX10_isShared_20 rfl 3 rfl ?_
            refine j_getI (pc := 21) C fp_X10_187 hs.2.1.1 rfl (f := 666) rfl dX10_isShared_21 ?_
            refine j_topi (nI (nW S)) (hs.rdI 666 0 0 (by decide) (by decide)) ?_
            refine jn_icmp_ge (pc := 24) C 162 (a := j) (b := nW S) (by omega) (by omega) dX10_isShared_24 (by decide) (fun d1 => ?_) (fun d1 => ?_)
            · have e : j = nW S := Nat.le_antisymm g1 d1
              rw [e] at g3
              refine j_iinc (pc := 162) C (nI (v + 1)) [(6, .int (nI (v + 1))), (7, .int (nI j)), (5, .int (bI is8)), (0, .ref (x9 0)), (1, .int (nI l)), (2, .int (nI c)), (3, .int (nI a)), (4, .int (nI b))] dX10_isShared_162 1 rfl (nI_add v 1) (by decide) rfl ?_
              refine j_goto (pc := 165) C 6 dX10_isShared_165 (by decide) ?_
              exact J.to [0, 2, 3, 4, 5, 6, 7] rfl (ih (v + 1) is8 (by omega) (by omega) (by rw [g3, h3]; rfl))
            · obtain ⟨r1, r2, r3, r4, -⟩ := hw.2.2.2.1.2.2 j d1
              have st2 : (is9 || anyB (shP S l c a b v) (j + 1)) = (is8 || shP S l c a b v j) := by rw [g3]; show (is9 || (_ || _)) = _; rw [Bool.or_assoc]
              have J98 : J X 0 0 σ [(8, .int (bI (decide (hd9 S v = 1 ∧ hd9 S j = 1 ∧ ol S v = l ∧ ol S j = l ∧ cw S v = c ∧ cw S j = c)))), (7, .int (nI j)), (6, .int (nI v)), (5, .int (bI is8)), (0, .ref (x9 0)), (1, .int (nI l)), (2, .int (nI c)), (3, .int (nI a)), (4, .int (nI b))] [] 98 := by
                refine j_iload (pc := 98) C dX10_isShared_98 3 rfl ?_
                refine jb_if_ne (pc := 100) C 149 (b := is8) dX10_isShared_100 (by decide) (fun e1 => ?_) (fun e1 => ?_)
                · refine j_iconst (pc := 149) C (nI 1) dX10_isShared_149 (by decide) ?_
                  refine j_goto (pc := 150) C 154 dX10_isShared_150 (by decide) ?_
                  refine j_topi (bI (is9 || anyB (shP S l c a b v) (j + 1))) (by rw [st2]; rw [e1]; rfl) ?_
                  refine j_istore (pc := 154) C [(5, .int (bI (is9 || anyB (shP S l c a b v) (j + 1)))), (8, .int (bI (decide (hd9 S v = 1 ∧ hd9 S j = 1 ∧ ol S v = l ∧ ol S j = l ∧ cw S v = c ∧ cw S j = c)))), (7, .int (nI j)), (6, .int (nI v)), (0, .ref (x9 0)), (1, .int (nI l)), (2, .int (nI c)), (3, .int (nI a)), (4, .int (nI b))] dX10_isShared_154 (by decide) rfl ?_
                  refine j_iinc (pc := 156) C (nI (j + 1)) [(7, .int (nI (j + 1))), (5, .int (bI (is9 || anyB (shP S l c a b v) (j + 1)))), (8, .int (bI (decide (hd9 S v = 1 ∧ hd9 S j = 1 ∧ ol S v = l ∧ ol S j = l ∧ cw S v = c ∧ cw S j = c)))), (6, .int (nI v)), (0, .ref (x9 0)), (1, .int (nI l)), (2, .int (nI c)), (3, .int (nI a)), (4, .int (nI b))] dX10_isShared_156 2 rfl (nI_add j 1) (by decide) rfl ?_
                  refine j_goto (pc := 159) C 18 dX10_isShared_159 (by decide) ?_
                  exact J.to [0, 3, 1, 4, 5, 6, 7, 8] rfl (ih2 (j + 1) _ (by omega) (by omega) rfl)
                · refine j_iload (pc := 103) C dX10_isShared_103 0 rfl ?_
                  refine jb_if_eq (pc := 105) C 153 (b := decide (hd9 S v = 1 ∧ hd9 S j = 1 ∧ ol S v = l ∧ ol S j = l ∧ cw S v = c ∧ cw S j = c)) dX10_isShared_105 (by decide) (fun e2 => ?_) (fun e2 => ?_)
                  · have n2 := of_decide_eq_false e2
                    refine j_iconst (pc := 153) C (nI 0) dX10_isShared_153 (by decide) ?_
                    refine j_topi (bI (is9 || anyB (shP S l c a b v) (j + 1))) (by rw [st2]; rw [e1]; unfold shP; rw [decide_eq_false (fun z => n2 ⟨z.1, z.2.1, z.2.2.1, z.2.2.2.1, z.2.2.2.2.1, z.2.2.2.2.2.1⟩)]; rfl) ?_
                    refine j_istore (pc := 154) C [(5, .int (bI (is9 || anyB (shP S l c a b v) (j + 1)))), (8, .int (bI (decide (hd9 S v = 1 ∧ hd9 S j = 1 ∧ ol S v = l ∧ ol S j = l ∧ cw S v = c ∧ cw S j = c)))), (7, .int (nI j)), (6, .int (nI v)), (0, .ref (x9 0)), (1, .int (nI l)), (2, .int (nI c)), (3, .int (nI a)), (4, .int (nI b))] dX10_isShared_154 (by decide) rfl ?_
                    refine j_iinc (pc := 156) C (nI (j + 1)) [(7, .int (nI (j + 1))), (5, .int (bI (is9 || anyB (shP S l c a b v) (j + 1)))), (8, .int (bI (decide (hd9 S v = 1 ∧ hd9 S j = 1 ∧ ol S v = l ∧ ol S j = l ∧ cw S v = c ∧ cw S j = c)))), (6, .int (nI v)), (0, .ref (x9 0)), (1, .int (nI l)), (2, .int (nI c)), (3, .int (nI a)), (4, .int (nI b))] dX10_isShared_156 2 rfl (nI_add j 1) (by decide) rfl ?_
                    refine j_goto (pc := 159) C 18 dX10_isShared_159 (by decide) ?_
                    exact J.to [0, 3, 1, 4, 5, 6, 7, 8] rfl (ih2 (j + 1) _ (by omega) (by omega) rfl)
                  · obtain ⟨m1, m2, m3, m4, m5, m6⟩ := of_decide_eq_true e2
                    refine j_aload_n (pc := 108) C dX10_isShared_108 rfl 4 rfl ?_
                    refine j_getA (pc := 109) C fp_X10_57 hs.2.1.1 rfl (f := 663) rfl (11, 33) (x9 23) ((hs.2.1.2 23 (by decide) (by decide)).1) ((hs.2.1.2 23 (by decide) (by decide)).2.1) dX10_isShared_109 ?_
                    refine j_iload (pc := 112) C dX10_isShared_112 2 rfl ?_
                    refine j_iald (pc := 114) C (p := v) (M := 40) ((hs.2.1.2 23 (by decide) (by decide)).2.1) rfl ((hs.2.1.2 23 (by decide) (by decide)).2.2) (by omega) (by decide) dX10_isShared_114 ?_
                    refine j_topi (nI (sw S v)) (hs.rdI 704 33 v (by decide) (by decide)) ?_
                    refine j_iload_n (pc := 115) C dX10_isShared_115 rfl 7 rfl ?_
                    refine jn_icmp_ne (pc := 116) C 153 (a := sw S v) (b := a) (by omega) (by omega) dX10_isShared_116 (by decide) (fun e3 => ?_) (fun e3 => ?_)
                    · refine j_iconst (pc := 153) C (nI 0) dX10_isShared_153 (by decide) ?_
                      refine j_topi (bI (is9 || anyB (shP S l c a b v) (j + 1))) (by rw [st2]; rw [e1]; unfold shP; rw [decide_eq_false (fun z => e3 z.2.2.2.2.2.2.1)]; rfl) ?_
                      refine j_istore (pc := 154) C [(5, .int (bI (is9 || anyB (shP S l c a b v) (j + 1)))), (8, .int (bI (decide (hd9 S v = 1 ∧ hd9 S j = 1 ∧ ol S v = l ∧ ol S j = l ∧ cw S v = c ∧ cw S j = c)))), (7, .int (nI j)), (6, .int (nI v)), (0, .ref (x9 0)), (1, .int (nI l)), (2, .int (nI c)), (3, .int (nI a)), (4, .int (nI b))] dX10_isShared_154 (by decide) rfl ?_
                      refine j_iinc (pc := 156) C (nI (j + 1)) [(7, .int (nI (j + 1))), (5, .int (bI (is9 || anyB (shP S l c a b v) (j + 1)))), (8, .int (bI (decide (hd9 S v = 1 ∧ hd9 S j = 1 ∧ ol S v = l ∧ ol S j = l ∧ cw S v = c ∧ cw S j = c)))), (6, .int (nI v)), (0, .ref (x9 0)), (1, .int (nI l)), (2, .int (nI c)), (3, .int (nI a)), (4, .int (nI b))] dX10_isShared_156 2 rfl (nI_add j 1) (by decide) rfl ?_
                      refine j_goto (pc := 159) C 18 dX10_isShared_159 (by decide) ?_
                      exact J.to [0, 3, 1, 4, 5, 6, 7, 8] rfl (ih2 (j + 1) _ (by omega) (by omega) rfl)
                    · refine j_aload_n (pc := 119) C dX10_isShared_119 rfl 4 rfl ?_
                      refine j_getA (pc := 120) C fp_X10_57 hs.2.1.1 rfl (f := 663) rfl (11, 33) (x9 23) ((hs.2.1.2 23 (by decide) (by decide)).1) ((hs.2.1.2 23 (by decide) (by decide)).2.1) dX10_isShared_120 ?_
                      refine j_iload (pc := 123) C dX10_isShared_123 1 rfl ?_
                      refine j_iald (pc := 125) C (p := j) (M := 40) ((hs.2.1.2 23 (by decide) (by decide)).2.1) rfl ((hs.2.1.2 23 (by decide) (by decide)).2.2) (by omega) (by decide) dX10_isShared_125 ?_
                      refine j_topi (nI (sw S j)) (hs.rdI 704 33 j (by decide) (by decide)) ?_
                      refine j_iload (pc := 126) C dX10_isShared_126 8 rfl ?_
                      refine jn_icmp_ne (pc := 128) C 153 (a := sw S j) (b := b) (by omega) (by omega) dX10_isShared_128 (by decide) (fun e4 => ?_) (fun e4 => ?_)
                      · refine j_iconst (pc := 153) C (nI 0) dX10_isShared_153 (by decide) ?_
                        refine j_topi (bI (is9 || anyB (shP S l c a b v) (j + 1))) (by rw [st2]; rw [e1]; unfold shP; rw [decide_eq_false (fun z => e4 z.2.2.2.2.2.2.2.1)]; rfl) ?_
                        refine j_istore (pc := 154) C [(5, .int (bI (is9 || anyB (shP S l c a b v) (j + 1)))), (8, .int (bI (decide (hd9 S v = 1 ∧ hd9 S j = 1 ∧ ol S v = l ∧ ol S j = l ∧ cw S v = c ∧ cw S j = c)))), (7, .int (nI j)), (6, .int (nI v)), (0, .ref (x9 0)), (1, .int (nI l)), (2, .int (nI c)), (3, .int (nI a)), (4, .int (nI b))] dX10_isShared_154 (by decide) rfl ?_
                        refine j_iinc (pc := 156) C (nI (j + 1)) [(7, .int (nI (j + 1))), (5, .int (bI (is9 || anyB (shP S l c a b v) (j + 1)))), (8, .int (bI (decide (hd9 S v = 1 ∧ hd9 S j = 1 ∧ ol S v = l ∧ ol S j = l ∧ cw S v = c ∧ cw S j = c)))), (6, .int (nI v)), (0, .ref (x9 0)), (1, .int (nI l)), (2, .int (nI c)), (3, .int (nI a)), (4, .int (nI b))] dX10_isShared_156 2 rfl (nI_add j 1) (by decide) rfl ?_
                        refine j_goto (pc := 159) C 18 dX10_isShared_159 (by decide) ?_
                        exact J.to [0, 3, 1, 4, 5, 6, 7, 8] rfl (ih2 (j + 1) _ (by omega) (by omega) rfl)
                      · have i1 := enc4_inj (okS.R hw.1 (WF_hr hw v)) (okS.R hw.1 (WF_hr hw j))
                        refine j_aload_n (pc := 131) C dX10_isShared_131 rfl 4 rfl ?_
                        refine j_getA (pc := 132) C fp_X10_60 hs.2.1.1 rfl (f := 664) rfl (12, 424) (x9 24) ((hs.2.1.2 24 (by decide) (by decide)).1) ((hs.2.1.2 24 (by decide) (by decide)).2.1) dX10_isShared_132 ?_
                        refine j_iload (pc := 135) C dX10_isShared_135 2 rfl ?_
                        refine j_lald (pc := 137) C (p := v) (M := 40) ((hs.2.1.2 24 (by decide) (by decide)).2.1) rfl ((hs.2.1.2 24 (by decide) (by decide)).2.2) (by omega) (by decide) dX10_isShared_137 ?_
                        refine j_topl (enc4 (hr S v)) (hs.rdL 768 424 v (by decide) (by decide)) ?_
                        refine j_aload_n (pc := 138) C dX10_isShared_138 rfl 4 rfl ?_
                        refine j_getA (pc := 139) C fp_X10_60 hs.2.1.1 rfl (f := 664) rfl (12, 424) (x9 24) ((hs.2.1.2 24 (by decide) (by decide)).1) ((hs.2.1.2 24 (by decide) (by decide)).2.1) dX10_isShared_139 ?_
                        refine j_iload (pc := 142) C dX10_isShared_142 1 rfl ?_
                        refine j_lald (pc := 144) C (p := j) (M := 40) ((hs.2.1.2 24 (by decide) (by decide)).2.1) rfl ((hs.2.1.2 24 (by decide) (by decide)).2.2) (by omega) (by decide) dX10_isShared_144 ?_
                        refine j_topl (enc4 (hr S j)) (hs.rdL 768 424 j (by decide) (by decide)) ?_
                        refine j_lcmp (pc := 145) C dX10_isShared_145 ?_
                        refine jl_if_ne (pc := 146) C 153 dX10_isShared_146 (by decide) (fun e5 => ?_) (fun e5 => ?_)
                        · refine j_iconst (pc := 153) C (nI 0) dX10_isShared_153 (by decide) ?_
                          refine j_topi (bI (is9 || anyB (shP S l c a b v) (j + 1))) (by rw [st2]; rw [e1]; unfold shP; rw [decide_eq_false (fun z => e5 (i1.mpr z.2.2.2.2.2.2.2.2))]; rfl) ?_
                          refine j_istore (pc := 154) C [(5, .int (bI (is9 || anyB (shP S l c a b v) (j + 1)))), (8, .int (bI (decide (hd9 S v = 1 ∧ hd9 S j = 1 ∧ ol S v = l ∧ ol S j = l ∧ cw S v = c ∧ cw S j = c)))), (7, .int (nI j)), (6, .int (nI v)), (0, .ref (x9 0)), (1, .int (nI l)), (2, .int (nI c)), (3, .int (nI a)), (4, .int (nI b))] dX10_isShared_154 (by decide) rfl ?_
                          refine j_iinc (pc := 156) C (nI (j + 1)) [(7, .int (nI (j + 1))), (5, .int (bI (is9 || anyB (shP S l c a b v) (j + 1)))), (8, .int (bI (decide (hd9 S v = 1 ∧ hd9 S j = 1 ∧ ol S v = l ∧ ol S j = l ∧ cw S v = c ∧ cw S j = c)))), (6, .int (nI v)), (0, .ref (x9 0)), (1, .int (nI l)), (2, .int (nI c)), (3, .int (nI a)), (4, .int (nI b))] dX10_isShared_156 2 rfl (nI_add j 1) (by decide) rfl ?_
                          refine j_goto (pc := 159) C 18 dX10_isShared_159 (by decide) ?_
                          exact J.to [0, 3, 1, 4, 5, 6, 7, 8] rfl (ih2 (j + 1) _ (by omega) (by omega) rfl)
                        · refine j_iconst (pc := 149) C (nI 1) dX10_isShared_149 (by decide) ?_
                          refine j_goto (pc := 150) C 154 dX10_isShared_150 (by decide) ?_
                          refine j_topi (bI (is9 || anyB (shP S l c a b v) (j + 1))) (by rw [st2]; rw [e1]; unfold shP; rw [decide_eq_true ⟨m1, m2, m3, m4, m5, m6, e3, e4, i1.mp e5⟩]; rfl) ?_
                          refine j_istore (pc := 154) C [(5, .int (bI (is9 || anyB (shP S l c a b v) (j + 1)))), (8, .int (bI (decide (hd9 S v = 1 ∧ hd9 S j = 1 ∧ ol S v = l ∧ ol S j = l ∧ cw S v = c ∧ cw S j = c)))), (7, .int (nI j)), (6, .int (nI v)), (0, .ref (x9 0)), (1, .int (nI l)), (2, .int (nI c)), (3, .int (nI a)), (4, .int (nI b))] dX10_isShared_154 (by decide) rfl ?_
                          refine j_iinc (pc := 156) C (nI (j + 1)) [(7, .int (nI (j + 1))), (5, .int (bI (is9 || anyB (shP S l c a b v) (j + 1)))), (8, .int (bI (decide (hd9 S v = 1 ∧ hd9 S j = 1 ∧ ol S v = l ∧ ol S j = l ∧ cw S v = c ∧ cw S j = c)))), (6, .int (nI v)), (0, .ref (x9 0)), (1, .int (nI l)), (2, .int (nI c)), (3, .int (nI a)), (4, .int (nI b))] dX10_isShared_156 2 rfl (nI_add j 1) (by decide) rfl ?_
                          refine j_goto (pc := 159) C 18 dX10_isShared_159 (by decide) ?_
                          exact J.to [0, 3, 1, 4, 5, 6, 7, 8] rfl (ih2 (j + 1) _ (by omega) (by omega) rfl)
              refine j_aload_n (pc := 27) C dX10_isShared_27 rfl 3 rfl ?_
              refine j_getA (pc := 28) C fp_X10_63 hs.2.1.1 rfl (f := 665) rfl (13, 25) (x9 25) ((hs.2.1.2 25 (by decide) (by decide)).1) ((hs.2.1.2 25 (by decide) (by decide)).2.1) dX10_isShared_28 ?_
              refine j_iload (pc := 31) C dX10_isShared_31 1 rfl ?_
              refine j_zald (pc := 33) C (p := v) (M := 40) ((hs.2.1.2 25 (by decide) (by decide)).2.1) rfl ((hs.2.1.2 25 (by decide) (by decide)).2.2) (by omega) (by decide) dX10_isShared_33 ?_
              refine j_topi (nI (hd9 S v)) (hs.rdI 832 25 v (by decide) (by decide)) ?_
              refine jn_if_eq (pc := 34) C 95 (a := hd9 S v) (by omega) dX10_isShared_34 (by decide) (fun k1 => ?_) (fun k1 => ?_)
              · refine j_iconst (pc := 95) C (nI 0) dX10_isShared_95 (by decide) ?_
                refine j_topi (bI (decide (hd9 S v = 1 ∧ hd9 S j = 1 ∧ ol S v = l ∧ ol S j = l ∧ cw S v = c ∧ cw S j = c))) (by rw [decide_eq_false (fun z => absurd z.1 (by omega))]; rfl) ?_
                refine j_istore (pc := 96) C [(8, .int (bI (decide (hd9 S v = 1 ∧ hd9 S j = 1 ∧ ol S v = l ∧ ol S j = l ∧ cw S v = c ∧ cw S j = c)))), (7, .int (nI j)), (6, .int (nI v)), (5, .int (bI is8)), (0, .ref (x9 0)), (1, .int (nI l)), (2, .int (nI c)), (3, .int (nI a)), (4, .int (nI b))] dX10_isShared_96 (by decide) rfl ?_
                exact J98
              · refine j_aload_n (pc := 37) C dX10_isShared_37 rfl 3 rfl ?_
                refine j_getA (pc := 38) C fp_X10_63 hs.2.1.1 rfl (f := 665) rfl (13, 25) (x9 25) ((hs.2.1.2 25 (by decide) (by decide)).1) ((hs.2.1.2 25 (by decide) (by decide)).2.1) dX10_isShared_38 ?_
                refine j_iload (pc := 41) C dX10_isShared_41 0 rfl ?_
                refine j_zald (pc := 43) C (p := j) (M := 40) ((hs.2.1.2 25 (by decide) (by decide)).2.1) rfl ((hs.2.1.2 25 (by decide) (by decide)).2.2) (by omega) (by decide) dX10_isShared_43 ?_
                refine j_topi (nI (hd9 S j)) (hs.rdI 832 25 j (by decide) (by decide)) ?_
                refine jn_if_eq (pc := 44) C 95 (a := hd9 S j) (by omega) dX10_isShared_44 (by decide) (fun k2 => ?_) (fun k2 => ?_)
                · refine j_iconst (pc := 95) C (nI 0) dX10_isShared_95 (by decide) ?_
                  refine j_topi (bI (decide (hd9 S v = 1 ∧ hd9 S j = 1 ∧ ol S v = l ∧ ol S j = l ∧ cw S v = c ∧ cw S j = c))) (by rw [decide_eq_false (fun z => absurd z.2.1 (by omega))]; rfl) ?_
                  refine j_istore (pc := 96) C [(8, .int (bI (decide (hd9 S v = 1 ∧ hd9 S j = 1 ∧ ol S v = l ∧ ol S j = l ∧ cw S v = c ∧ cw S j = c)))), (7, .int (nI j)), (6, .int (nI v)), (5, .int (bI is8)), (0, .ref (x9 0)), (1, .int (nI l)), (2, .int (nI c)), (3, .int (nI a)), (4, .int (nI b))] dX10_isShared_96 (by decide) rfl ?_
                  exact J98
                · refine j_aload_n (pc := 47) C dX10_isShared_47 rfl 3 rfl ?_
                  refine j_getA (pc := 48) C fp_X10_51 hs.2.1.1 rfl (f := 661) rfl (11, 31) (x9 21) ((hs.2.1.2 21 (by decide) (by decide)).1) ((hs.2.1.2 21 (by decide) (by decide)).2.1) dX10_isShared_48 ?_
                  refine j_iload (pc := 51) C dX10_isShared_51 1 rfl ?_
                  refine j_iald (pc := 53) C (p := v) (M := 40) ((hs.2.1.2 21 (by decide) (by decide)).2.1) rfl ((hs.2.1.2 21 (by decide) (by decide)).2.2) (by omega) (by decide) dX10_isShared_53 ?_
                  refine j_topi (nI (ol S v)) (hs.rdI 704 31 v (by decide) (by decide)) ?_
                  refine j_iload_n (pc := 54) C dX10_isShared_54 rfl 4 rfl ?_
                  refine jn_icmp_ne (pc := 55) C 95 (a := ol S v) (b := l) (by omega) (by omega) dX10_isShared_55 (by decide) (fun k3 => ?_) (fun k3 => ?_)
                  · refine j_iconst (pc := 95) C (nI 0) dX10_isShared_95 (by decide) ?_
                    refine j_topi (bI (decide (hd9 S v = 1 ∧ hd9 S j = 1 ∧ ol S v = l ∧ ol S j = l ∧ cw S v = c ∧ cw S j = c))) (by rw [decide_eq_false (fun z => k3 z.2.2.1)]; rfl) ?_
                    refine j_istore (pc := 96) C [(8, .int (bI (decide (hd9 S v = 1 ∧ hd9 S j = 1 ∧ ol S v = l ∧ ol S j = l ∧ cw S v = c ∧ cw S j = c)))), (7, .int (nI j)), (6, .int (nI v)), (5, .int (bI is8)), (0, .ref (x9 0)), (1, .int (nI l)), (2, .int (nI c)), (3, .int (nI a)), (4, .int (nI b))] dX10_isShared_96 (by decide) rfl ?_
                    exact J98
                  · refine j_aload_n (pc := 58) C dX10_isShared_58 rfl 3 rfl ?_
                    refine j_getA (pc := 59) C fp_X10_51 hs.2.1.1 rfl (f := 661) rfl (11, 31) (x9 21) ((hs.2.1.2 21 (by decide) (by decide)).1) ((hs.2.1.2 21 (by decide) (by decide)).2.1) dX10_isShared_59 ?_
                    refine j_iload (pc := 62) C dX10_isShared_62 0 rfl ?_
                    refine j_iald (pc := 64) C (p := j) (M := 40) ((hs.2.1.2 21 (by decide) (by decide)).2.1) rfl ((hs.2.1.2 21 (by decide) (by decide)).2.2) (by omega) (by decide) dX10_isShared_64 ?_
                    refine j_topi (nI (ol S j)) (hs.rdI 704 31 j (by decide) (by decide)) ?_
                    refine j_iload_n (pc := 65) C dX10_isShared_65 rfl 4 rfl ?_
                    refine jn_icmp_ne (pc := 66) C 95 (a := ol S j) (b := l) (by omega) (by omega) dX10_isShared_66 (by decide) (fun k4 => ?_) (fun k4 => ?_)
                    · refine j_iconst (pc := 95) C (nI 0) dX10_isShared_95 (by decide) ?_
                      refine j_topi (bI (decide (hd9 S v = 1 ∧ hd9 S j = 1 ∧ ol S v = l ∧ ol S j = l ∧ cw S v = c ∧ cw S j = c))) (by rw [decide_eq_false (fun z => k4 z.2.2.2.1)]; rfl) ?_
                      refine j_istore (pc := 96) C [(8, .int (bI (decide (hd9 S v = 1 ∧ hd9 S j = 1 ∧ ol S v = l ∧ ol S j = l ∧ cw S v = c ∧ cw S j = c)))), (7, .int (nI j)), (6, .int (nI v)), (5, .int (bI is8)), (0, .ref (x9 0)), (1, .int (nI l)), (2, .int (nI c)), (3, .int (nI a)), (4, .int (nI b))] dX10_isShared_96 (by decide) rfl ?_
                      exact J98
                    · refine j_aload_n (pc := 69) C dX10_isShared_69 rfl 3 rfl ?_
                      refine j_getA (pc := 70) C fp_X10_54 hs.2.1.1 rfl (f := 662) rfl (11, 32) (x9 22) ((hs.2.1.2 22 (by decide) (by decide)).1) ((hs.2.1.2 22 (by decide) (by decide)).2.1) dX10_isShared_70 ?_
                      refine j_iload (pc := 73) C dX10_isShared_73 1 rfl ?_
                      refine j_iald (pc := 75) C (p := v) (M := 40) ((hs.2.1.2 22 (by decide) (by decide)).2.1) rfl ((hs.2.1.2 22 (by decide) (by decide)).2.2) (by omega) (by decide) dX10_isShared_75 ?_
                      refine j_topi (nI (cw S v)) (hs.rdI 704 32 v (by decide) (by decide)) ?_
                      refine j_iload_n (pc := 76) C dX10_isShared_76 rfl 5 rfl ?_
                      refine jn_icmp_ne (pc := 77) C 95 (a := cw S v) (b := c) (by omega) (by omega) dX10_isShared_77 (by decide) (fun k5 => ?_) (fun k5 => ?_)
                      · refine j_iconst (pc := 95) C (nI 0) dX10_isShared_95 (by decide) ?_
                        refine j_topi (bI (decide (hd9 S v = 1 ∧ hd9 S j = 1 ∧ ol S v = l ∧ ol S j = l ∧ cw S v = c ∧ cw S j = c))) (by rw [decide_eq_false (fun z => k5 z.2.2.2.2.1)]; rfl) ?_
                        refine j_istore (pc := 96) C [(8, .int (bI (decide (hd9 S v = 1 ∧ hd9 S j = 1 ∧ ol S v = l ∧ ol S j = l ∧ cw S v = c ∧ cw S j = c)))), (7, .int (nI j)), (6, .int (nI v)), (5, .int (bI is8)), (0, .ref (x9 0)), (1, .int (nI l)), (2, .int (nI c)), (3, .int (nI a)), (4, .int (nI b))] dX10_isShared_96 (by decide) rfl ?_
                        exact J98
                      · refine j_aload_n (pc := 80) C dX10_isShared_80 rfl 3 rfl ?_
                        refine j_getA (pc := 81) C fp_X10_54 hs.2.1.1 rfl (f := 662) rfl (11, 32) (x9 22) ((hs.2.1.2 22 (by decide) (by decide)).1) ((hs.2.1.2 22 (by decide) (by decide)).2.1) dX10_isShared_81 ?_
                        refine j_iload (pc := 84) C dX10_isShared_84 0 rfl ?_
                        refine j_iald (pc := 86) C (p := j) (M := 40) ((hs.2.1.2 22 (by decide) (by decide)).2.1) rfl ((hs.2.1.2 22 (by decide) (by decide)).2.2) (by omega) (by decide) dX10_isShared_86 ?_
                        refine j_topi (nI (cw S j)) (hs.rdI 704 32 j (by decide) (by decide)) ?_
                        refine j_iload_n (pc := 87) C dX10_isShared_87 rfl 5 rfl ?_
                        refine jn_icmp_ne (pc := 88) C 95 (a := cw S j) (b := c) (by omega) (by omega) dX10_isShared_88 (by decide) (fun k6 => ?_) (fun k6 => ?_)
                        · refine j_iconst (pc := 95) C (nI 0) dX10_isShared_95 (by decide) ?_
                          refine j_topi (bI (decide (hd9 S v = 1 ∧ hd9 S j = 1 ∧ ol S v = l ∧ ol S j = l ∧ cw S v = c ∧ cw S j = c))) (by rw [decide_eq_false (fun z => k6 z.2.2.2.2.2)]; rfl) ?_
                          refine j_istore (pc := 96) C [(8, .int (bI (decide (hd9 S v = 1 ∧ hd9 S j = 1 ∧ ol S v = l ∧ ol S j = l ∧ cw S v = c ∧ cw S j = c)))), (7, .int (nI j)), (6, .int (nI v)), (5, .int (bI is8)), (0, .ref (x9 0)), (1, .int (nI l)), (2, .int (nI c)), (3, .int (nI a)), (4, .int (nI b))] dX10_isShared_96 (by decide) rfl ?_
                          exact J98
                        · refine j_iconst (pc := 91) C (nI 1) dX10_isShared_91 (by decide) ?_
                          refine j_goto (pc := 92) C 96 dX10_isShared_92 (by decide) ?_
                          refine j_topi (bI (decide (hd9 S v = 1 ∧ hd9 S j = 1 ∧ ol S v = l ∧ ol S j = l ∧ cw S v = c ∧ cw S j = c))) (by rw [decide_eq_true ⟨by omega, by omega, k3, k4, k5, k6⟩]; rfl) ?_
                          refine j_istore (pc := 96) C [(8, .int (bI (decide (hd9 S v = 1 ∧ hd9 S j = 1 ∧ ol S v = l ∧ ol S j = l ∧ cw S v = c ∧ cw S j = c)))), (7, .int (nI j)), (6, .int (nI v)), (5, .int (bI is8)), (0, .ref (x9 0)), (1, .int (nI l)), (2, .int (nI c)), (3, .int (nI a)), (4, .int (nI b))] dX10_isShared_96 (by decide) rfl ?_
                          exact J98
        exact J.to [0, 1, 2, 3, 4, 5, 6, 7] rfl (loop2 (nW S + 1) 0 is9 (Nat.zero_le _) (by omega) (by show is9 = (is9 || false); rw [Bool.or_false]))
  exact J.to [0, 1, 2, 3, 4, 5, 6] rfl (loop (nW S + 1) 0 false (Nat.zero_le _) (by omega) rfl)
