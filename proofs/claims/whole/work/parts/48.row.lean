set_option maxHeartbeats 4000000 in
set_option maxRecDepth 100000 in
theorem c_X6_changesBetween (L9 : Launch) (w9 : Wd) {σ : HS} {a b : List Nat} (ha : okR a) (hb : okR b) (hle : b.length ≤ a.length) : MJ L9 w9 yX6_changesBetween cX6_changesBetween 6 (some .int) ({ frames := 1, cells := 0, slots := 0, locals := 22 } : Room) [.long (enc5 a), .long (enc5 b)] σ (fun a9 σ' => a9 = some (.int (nI (chB a b))) ∧ σ' = σ) := by
  refine MJ.of (by decide +kernel) (Nat.le_of_ble_eq_true rfl) (fun X hX1 hX2 C Q hinit => ?_)
  subst hX1; subst hX2
  show J X 0 0 σ [(0, .long (enc5 a)), (2, .long (enc5 b))] [] 0
  have a8 := ha.1
  refine j_lload_n (pc := 0) C dX6_changesBetween_0 rfl 0 rfl ?_
  refine j_callS (pc := 1) C [.long (enc5 a)] [] (rm0 := ({ frames := 1, cells := 0, slots := 0, locals := 22 } : Room)) (k' := 0) (n' := 0) Q.1 (c_X6_sizeOf (xl X) (xw X) ha) mp_X6_sizeOf wm_289 rfl rfl (Nat.le_of_ble_eq_true rfl) dX6_changesBetween_1 ⟨by decide, by decide⟩ ⟨Nat.le_of_ble_eq_true rfl, Nat.le_of_ble_eq_true rfl⟩ rfl rfl (det1 ?_)
  refine j_lload_n (pc := 4) C dX6_changesBetween_4 rfl 1 rfl ?_
  refine j_callS (pc := 5) C [.long (enc5 b)] [.int (nI a.length)] (rm0 := ({ frames := 1, cells := 0, slots := 0, locals := 22 } : Room)) (k' := 0) (n' := 0) Q.1 (c_X6_sizeOf (xl X) (xw X) hb) mp_X6_sizeOf wm_289 rfl rfl (Nat.le_of_ble_eq_true rfl) dX6_changesBetween_5 ⟨by decide, by decide⟩ ⟨Nat.le_of_ble_eq_true rfl, Nat.le_of_ble_eq_true rfl⟩ rfl rfl (det1 ?_)
  refine j_isub (pc := 8) C dX6_changesBetween_8 ?_
  refine j_topi (nI (a.length - b.length)) (pk_sub hle) ?_
  refine j_istore (pc := 9) C [(4, .int (nI (a.length - b.length))), (0, .long (enc5 a)), (2, .long (enc5 b))] dX6_changesBetween_9 (by decide) rfl ?_
  refine j_iload (pc := 11) C dX6_changesBetween_11 0 rfl ?_
  refine jn_if_eq (pc := 13) C 19 (a := a.length - b.length) (by omega) dX6_changesBetween_13 (by decide) (fun c1 => ?_) (fun c1 => ?_)
  · have e0 : a.length = b.length := by omega
    have e1 : a.length - b.length = 0 := c1
    rw [e1]
    refine j_iconst (pc := 19) C (nI 0) dX6_changesBetween_19 (by decide) ?_
    refine j_istore (pc := 20) C [(5, .int (nI 0)), (4, .int (nI 0)), (0, .long (enc5 a)), (2, .long (enc5 b))] dX6_changesBetween_20 (by decide) rfl ?_
    have loop : ∀ (f : Nat) (k : Nat), (k ≤ 8) → (8 < k + f) → J X 0 0 σ [(5, .int (nI k)), (4, .int (nI (fb_ct (df5 a b) k))), (0, .long (enc5 a)), (2, .long (enc5 b))] [] 22 := by
      intro f
      induction f with
      | zero => intro k h1 h2; exact absurd h2 (by omega)
      | succ f ih =>
        intro k h1 h2
        refine j_iload (pc := 22) C dX6_changesBetween_22 0 rfl ?_
        refine j_bipush (pc := 24) C (nI 8) dX6_changesBetween_24 (by decide) ?_
        refine jn_icmp_ge (pc := 26) C 53 (a := k) (b := 8) (by omega) (by omega) dX6_changesBetween_26 (by decide) (fun d1 => ?_) (fun d1 => ?_)
        · have e : k = 8 := Nat.le_antisymm h1 d1
          rw [e]
          refine j_iload (pc := 53) C dX6_changesBetween_53 1 rfl ?_
          refine j_topi (nI (chB a b)) (by unfold chB; rw [if_pos e0]) ?_
          exact j_ireturn (pc := 55) C Q dX6_changesBetween_55 (Nat.le_of_ble_eq_true rfl) (Nat.le_of_ble_eq_true rfl) (⟨rfl, rfl⟩)
        · refine j_lload_n (pc := 29) C dX6_changesBetween_29 rfl 2 rfl ?_
          refine j_iload (pc := 30) C dX6_changesBetween_30 0 rfl ?_
          refine j_callS (pc := 32) C [.long (enc5 a), .int (nI k)] [] (rm0 := ({ frames := 1, cells := 0, slots := 0, locals := 22 } : Room)) (k' := 0) (n' := 0) Q.1 (c_X6_codeAt (xl X) (xw X) ha (by omega)) mp_X6_codeAt wm_950 rfl rfl (Nat.le_of_ble_eq_true rfl) dX6_changesBetween_32 ⟨by decide, by decide⟩ ⟨Nat.le_of_ble_eq_true rfl, Nat.le_of_ble_eq_true rfl⟩ rfl rfl (det1 ?_)
          refine j_lload_n (pc := 35) C dX6_changesBetween_35 rfl 3 rfl ?_
          refine j_iload (pc := 36) C dX6_changesBetween_36 0 rfl ?_
          refine j_callS (pc := 38) C [.long (enc5 b), .int (nI k)] [.int (nI (cd a k))] (rm0 := ({ frames := 1, cells := 0, slots := 0, locals := 22 } : Room)) (k' := 0) (n' := 0) Q.1 (c_X6_codeAt (xl X) (xw X) hb (by omega)) mp_X6_codeAt wm_950 rfl rfl (Nat.le_of_ble_eq_true rfl) dX6_changesBetween_38 ⟨by decide, by decide⟩ ⟨Nat.le_of_ble_eq_true rfl, Nat.le_of_ble_eq_true rfl⟩ rfl rfl (det1 ?_)
          have l1 := cd_lt ha.2 k
          have l2 := cd_lt hb.2 k
          refine jn_icmp_eq (pc := 41) C 47 (a := cd a k) (b := cd b k) (by omega) (by omega) dX6_changesBetween_41 (by decide) (fun d2 => ?_) (fun d2 => ?_)
          · have e9 : fb_ct (df5 a b) (k + 1) = fb_ct (df5 a b) k := by rw [fb_ct_succ, df5_f d2]; rfl
            refine j_iinc (pc := 47) C (nI (k + 1)) [(5, .int (nI (k + 1))), (4, .int (nI (fb_ct (df5 a b) k))), (0, .long (enc5 a)), (2, .long (enc5 b))] dX6_changesBetween_47 0 rfl (nI_add k 1) (by decide) rfl ?_
            refine j_goto (pc := 50) C 22 dX6_changesBetween_50 (by decide) ?_
            have l0 := ih (k + 1) (by omega) (by omega)
            rw [e9] at l0
            exact J.to [0, 1, 2, 3] rfl l0
          · have e9 : fb_ct (df5 a b) (k + 1) = fb_ct (df5 a b) k + 1 := by rw [fb_ct_succ, df5_t d2]; rfl
            refine j_iinc (pc := 44) C (nI (fb_ct (df5 a b) k + 1)) [(4, .int (nI (fb_ct (df5 a b) k + 1))), (5, .int (nI k)), (0, .long (enc5 a)), (2, .long (enc5 b))] dX6_changesBetween_44 1 rfl (nI_add (fb_ct (df5 a b) k) 1) (by decide) rfl ?_
            refine j_iinc (pc := 47) C (nI (k + 1)) [(5, .int (nI (k + 1))), (4, .int (nI (fb_ct (df5 a b) k + 1))), (0, .long (enc5 a)), (2, .long (enc5 b))] dX6_changesBetween_47 1 rfl (nI_add k 1) (by decide) rfl ?_
            refine j_goto (pc := 50) C 22 dX6_changesBetween_50 (by decide) ?_
            have l0 := ih (k + 1) (by omega) (by omega)
            rw [e9] at l0
            exact J.to [0, 1, 2, 3] rfl l0
    exact J.to [0, 1, 2, 3] rfl (loop 9 0 (Nat.zero_le _) (by omega))
  · refine j_iload (pc := 16) C dX6_changesBetween_16 0 rfl ?_
    refine j_topi (nI (chB a b)) (by unfold chB; rw [if_neg (by omega)]) ?_
    exact j_ireturn (pc := 18) C Q dX6_changesBetween_18 (Nat.le_of_ble_eq_true rfl) (Nat.le_of_ble_eq_true rfl) (⟨rfl, rfl⟩)
set_option maxHeartbeats 4000000 in
set_option maxRecDepth 100000 in
theorem c_X6_areApartBy (L9 : Launch) (w9 : Wd) {σ : HS} {a b : List Nat} (ha : okR a) (hb : okR b) {x y : Nat} (hx : x < 16) (hy : y < 16) : MJ L9 w9 yX6_areApartBy cX6_areApartBy 10 (some .boolean) ({ frames := 1, cells := 0, slots := 0, locals := 22 } : Room) [.long (enc5 a), .long (enc5 b), .int (nI (x + 1)), .int (nI (y + 1))] σ (fun a9 σ' => a9 = some (.int (bI (apB a b x y))) ∧ σ' = σ) := by
  refine MJ.of (by decide +kernel) (Nat.le_of_ble_eq_true rfl) (fun X hX1 hX2 C Q hinit => ?_)
  subst hX1; subst hX2
  show J X 0 0 σ [(0, .long (enc5 a)), (2, .long (enc5 b)), (4, .int (nI (x + 1))), (5, .int (nI (y + 1)))] [] 0
  refine j_iconst (pc := 0) C (nI 0) dX6_areApartBy_0 (by decide) ?_
  refine j_istore (pc := 1) C [(6, .int (nI 0)), (0, .long (enc5 a)), (2, .long (enc5 b)), (4, .int (nI (x + 1))), (5, .int (nI (y + 1)))] dX6_areApartBy_1 (by decide) rfl ?_
  refine j_iconst (pc := 3) C (nI 0) dX6_areApartBy_3 (by decide) ?_
  refine j_istore (pc := 4) C [(7, .int (nI 0)), (6, .int (nI 0)), (0, .long (enc5 a)), (2, .long (enc5 b)), (4, .int (nI (x + 1))), (5, .int (nI (y + 1)))] dX6_areApartBy_4 (by decide) rfl ?_
  have loop : ∀ (f : Nat) (k : Nat), (k ≤ 8) → (8 < k + f) → ((List.range k).all (ok5 a b x y) = true) → J X 0 0 σ [(7, .int (nI k)), (6, .int (nI (fb_ct (df5 a b) k))), (0, .long (enc5 a)), (2, .long (enc5 b)), (4, .int (nI (x + 1))), (5, .int (nI (y + 1)))] [] 6 := by
    intro f
    induction f with
    | zero => intro k h1 h2 h3; exact absurd h2 (by omega)
    | succ f ih =>
      intro k h1 h2 h3
      have hle := fb_ct_le (df5 a b) k
      refine j_iload (pc := 6) C dX6_areApartBy_6 0 rfl ?_
      refine j_bipush (pc := 8) C (nI 8) dX6_areApartBy_8 (by decide) ?_
      refine jn_icmp_ge (pc := 10) C 78 (a := k) (b := 8) (by omega) (by omega) dX6_areApartBy_10 (by decide) (fun d1 => ?_) (fun d1 => ?_)
      · have e : k = 8 := Nat.le_antisymm h1 d1
        rw [e] at h3 ⊢
        have hle := fb_ct_le (df5 a b) 8
        refine j_iload (pc := 78) C dX6_areApartBy_78 1 rfl ?_
        refine j_iconst (pc := 80) C (nI 1) dX6_areApartBy_80 (by decide) ?_
        refine jn_icmp_ne (pc := 81) C 88 (a := fb_ct (df5 a b) 8) (b := 1) (by omega) (by omega) dX6_areApartBy_81 (by decide) (fun d2 => ?_) (fun d2 => ?_)
        · refine j_iconst (pc := 88) C (nI 0) dX6_areApartBy_88 (by decide) ?_
          refine j_topi (bI (apB a b x y)) (by unfold apB; rw [h3, decide_eq_false d2]; rfl) ?_
          exact j_zreturn (pc := 89) C Q dX6_areApartBy_89 (bI_nar _) (Nat.le_of_ble_eq_true rfl) (Nat.le_of_ble_eq_true rfl) (⟨rfl, rfl⟩)
        · refine j_iconst (pc := 84) C (nI 1) dX6_areApartBy_84 (by decide) ?_
          refine j_goto (pc := 85) C 89 dX6_areApartBy_85 (by decide) ?_
          refine j_topi (bI (apB a b x y)) (by unfold apB; rw [h3, decide_eq_true d2]; rfl) ?_
          exact j_zreturn (pc := 89) C Q dX6_areApartBy_89 (bI_nar _) (Nat.le_of_ble_eq_true rfl) (Nat.le_of_ble_eq_true rfl) (⟨rfl, rfl⟩)
      · refine j_lload_n (pc := 13) C dX6_areApartBy_13 rfl 2 rfl ?_
        refine j_iload (pc := 14) C dX6_areApartBy_14 0 rfl ?_
        refine j_callS (pc := 16) C [.long (enc5 a), .int (nI k)] [] (rm0 := ({ frames := 1, cells := 0, slots := 0, locals := 22 } : Room)) (k' := 0) (n' := 0) Q.1 (c_X6_codeAt (xl X) (xw X) ha (by omega)) mp_X6_codeAt wm_950 rfl rfl (Nat.le_of_ble_eq_true rfl) dX6_areApartBy_16 ⟨by decide, by decide⟩ ⟨Nat.le_of_ble_eq_true rfl, Nat.le_of_ble_eq_true rfl⟩ rfl rfl (det1 ?_)
        refine j_istore (pc := 19) C [(8, .int (nI (cd a k))), (7, .int (nI k)), (6, .int (nI (fb_ct (df5 a b) k))), (0, .long (enc5 a)), (2, .long (enc5 b)), (4, .int (nI (x + 1))), (5, .int (nI (y + 1)))] dX6_areApartBy_19 (by decide) rfl ?_
        refine j_lload_n (pc := 21) C dX6_areApartBy_21 rfl 4 rfl ?_
        refine j_iload (pc := 22) C dX6_areApartBy_22 1 rfl ?_
        refine j_callS (pc := 24) C [.long (enc5 b), .int (nI k)] [] (rm0 := ({ frames := 1, cells := 0, slots := 0, locals := 22 } : Room)) (k' := 0) (n' := 0) Q.1 (c_X6_codeAt (xl X) (xw X) hb (by omega)) mp_X6_codeAt wm_950 rfl rfl (Nat.le_of_ble_eq_true rfl) dX6_areApartBy_24 ⟨by decide, by decide⟩ ⟨Nat.le_of_ble_eq_true rfl, Nat.le_of_ble_eq_true rfl⟩ rfl rfl (det1 ?_)
        have l1 := cd_lt ha.2 k
        have l2 := cd_lt hb.2 k
        refine j_istore (pc := 27) C [(9, .int (nI (cd b k))), (8, .int (nI (cd a k))), (7, .int (nI k)), (6, .int (nI (fb_ct (df5 a b) k))), (0, .long (enc5 a)), (2, .long (enc5 b)), (4, .int (nI (x + 1))), (5, .int (nI (y + 1)))] dX6_areApartBy_27 (by decide) rfl ?_
        refine j_iload (pc := 29) C dX6_areApartBy_29 1 rfl ?_
        refine j_iload (pc := 31) C dX6_areApartBy_31 0 rfl ?_
        refine jn_icmp_ne (pc := 33) C 39 (a := cd a k) (b := cd b k) (by omega) (by omega) dX6_areApartBy_33 (by decide) (fun d2 => ?_) (fun d2 => ?_)
        · refine j_iload (pc := 39) C dX6_areApartBy_39 1 rfl ?_
          refine j_iload (pc := 41) C dX6_areApartBy_41 6 rfl ?_
          refine jn_icmp_ne (pc := 43) C 53 (a := cd a k) (b := x + 1) (by omega) (by omega) dX6_areApartBy_43 (by decide) (fun f1 => ?_) (fun f1 => ?_)
          · refine j_iload (pc := 53) C dX6_areApartBy_53 1 rfl ?_
            refine j_iload (pc := 55) C dX6_areApartBy_55 7 rfl ?_
            refine jn_icmp_ne (pc := 57) C 67 (a := cd a k) (b := y + 1) (by omega) (by omega) dX6_areApartBy_57 (by decide) (fun g1 => ?_) (fun g1 => ?_)
            · refine j_iconst (pc := 67) C (nI 0) dX6_areApartBy_67 (by decide) ?_
              refine j_topi (bI (apB a b x y)) (by rw [ok5_no d1 (by unfold ok5; rw [df5_t d2, decide_eq_false (fun z => by omega)]; rfl)]; rfl) ?_
              exact j_zreturn (pc := 68) C Q dX6_areApartBy_68 (bI_nar _) (Nat.le_of_ble_eq_true rfl) (Nat.le_of_ble_eq_true rfl) (⟨rfl, rfl⟩)
            · refine j_iload (pc := 60) C dX6_areApartBy_60 0 rfl ?_
              refine j_iload (pc := 62) C dX6_areApartBy_62 6 rfl ?_
              refine jn_icmp_eq (pc := 64) C 69 (a := cd b k) (b := x + 1) (by omega) (by omega) dX6_areApartBy_64 (by decide) (fun g2 => ?_) (fun g2 => ?_)
              · have e9 : fb_ct (df5 a b) (k + 1) = fb_ct (df5 a b) k + 1 := by rw [fb_ct_succ, df5_t d2]; rfl
                refine j_iinc (pc := 69) C (nI (fb_ct (df5 a b) k + 1)) [(6, .int (nI (fb_ct (df5 a b) k + 1))), (9, .int (nI (cd b k))), (8, .int (nI (cd a k))), (7, .int (nI k)), (0, .long (enc5 a)), (2, .long (enc5 b)), (4, .int (nI (x + 1))), (5, .int (nI (y + 1)))] dX6_areApartBy_69 3 rfl (nI_add (fb_ct (df5 a b) k) 1) (by decide) rfl ?_
                refine j_iinc (pc := 72) C (nI (k + 1)) [(7, .int (nI (k + 1))), (6, .int (nI (fb_ct (df5 a b) k + 1))), (9, .int (nI (cd b k))), (8, .int (nI (cd a k))), (0, .long (enc5 a)), (2, .long (enc5 b)), (4, .int (nI (x + 1))), (5, .int (nI (y + 1)))] dX6_areApartBy_72 3 rfl (nI_add k 1) (by decide) rfl ?_
                refine j_goto (pc := 75) C 6 dX6_areApartBy_75 (by decide) ?_
                have l0 := ih (k + 1) (by omega) (by omega) (ok5_all h3 (by unfold ok5; rw [df5_t d2, decide_eq_true (Or.inr ⟨g1, g2⟩)]; rfl))
                rw [e9] at l0
                exact J.to [0, 1, 4, 5, 6, 7] rfl l0
              · refine j_iconst (pc := 67) C (nI 0) dX6_areApartBy_67 (by decide) ?_
                refine j_topi (bI (apB a b x y)) (by rw [ok5_no d1 (by unfold ok5; rw [df5_t d2, decide_eq_false (fun z => by omega)]; rfl)]; rfl) ?_
                exact j_zreturn (pc := 68) C Q dX6_areApartBy_68 (bI_nar _) (Nat.le_of_ble_eq_true rfl) (Nat.le_of_ble_eq_true rfl) (⟨rfl, rfl⟩)
          · refine j_iload (pc := 46) C dX6_areApartBy_46 0 rfl ?_
            refine j_iload (pc := 48) C dX6_areApartBy_48 7 rfl ?_
            refine jn_icmp_eq (pc := 50) C 69 (a := cd b k) (b := y + 1) (by omega) (by omega) dX6_areApartBy_50 (by decide) (fun f2 => ?_) (fun f2 => ?_)
            · have e9 : fb_ct (df5 a b) (k + 1) = fb_ct (df5 a b) k + 1 := by rw [fb_ct_succ, df5_t d2]; rfl
              refine j_iinc (pc := 69) C (nI (fb_ct (df5 a b) k + 1)) [(6, .int (nI (fb_ct (df5 a b) k + 1))), (9, .int (nI (cd b k))), (8, .int (nI (cd a k))), (7, .int (nI k)), (0, .long (enc5 a)), (2, .long (enc5 b)), (4, .int (nI (x + 1))), (5, .int (nI (y + 1)))] dX6_areApartBy_69 3 rfl (nI_add (fb_ct (df5 a b) k) 1) (by decide) rfl ?_
              refine j_iinc (pc := 72) C (nI (k + 1)) [(7, .int (nI (k + 1))), (6, .int (nI (fb_ct (df5 a b) k + 1))), (9, .int (nI (cd b k))), (8, .int (nI (cd a k))), (0, .long (enc5 a)), (2, .long (enc5 b)), (4, .int (nI (x + 1))), (5, .int (nI (y + 1)))] dX6_areApartBy_72 3 rfl (nI_add k 1) (by decide) rfl ?_
              refine j_goto (pc := 75) C 6 dX6_areApartBy_75 (by decide) ?_
              have l0 := ih (k + 1) (by omega) (by omega) (ok5_all h3 (by unfold ok5; rw [df5_t d2, decide_eq_true (Or.inl ⟨f1, f2⟩)]; rfl))
              rw [e9] at l0
              exact J.to [0, 1, 4, 5, 6, 7] rfl l0
            · refine j_iload (pc := 53) C dX6_areApartBy_53 1 rfl ?_
              refine j_iload (pc := 55) C dX6_areApartBy_55 7 rfl ?_
              refine jn_icmp_ne (pc := 57) C 67 (a := cd a k) (b := y + 1) (by omega) (by omega) dX6_areApartBy_57 (by decide) (fun g1 => ?_) (fun g1 => ?_)
              · refine j_iconst (pc := 67) C (nI 0) dX6_areApartBy_67 (by decide) ?_
                refine j_topi (bI (apB a b x y)) (by rw [ok5_no d1 (by unfold ok5; rw [df5_t d2, decide_eq_false (fun z => by omega)]; rfl)]; rfl) ?_
                exact j_zreturn (pc := 68) C Q dX6_areApartBy_68 (bI_nar _) (Nat.le_of_ble_eq_true rfl) (Nat.le_of_ble_eq_true rfl) (⟨rfl, rfl⟩)
              · refine j_iload (pc := 60) C dX6_areApartBy_60 0 rfl ?_
                refine j_iload (pc := 62) C dX6_areApartBy_62 6 rfl ?_
                refine jn_icmp_eq (pc := 64) C 69 (a := cd b k) (b := x + 1) (by omega) (by omega) dX6_areApartBy_64 (by decide) (fun g2 => ?_) (fun g2 => ?_)
                · have e9 : fb_ct (df5 a b) (k + 1) = fb_ct (df5 a b) k + 1 := by rw [fb_ct_succ, df5_t d2]; rfl
                  refine j_iinc (pc := 69) C (nI (fb_ct (df5 a b) k + 1)) [(6, .int (nI (fb_ct (df5 a b) k + 1))), (9, .int (nI (cd b k))), (8, .int (nI (cd a k))), (7, .int (nI k)), (0, .long (enc5 a)), (2, .long (enc5 b)), (4, .int (nI (x + 1))), (5, .int (nI (y + 1)))] dX6_areApartBy_69 3 rfl (nI_add (fb_ct (df5 a b) k) 1) (by decide) rfl ?_
                  refine j_iinc (pc := 72) C (nI (k + 1)) [(7, .int (nI (k + 1))), (6, .int (nI (fb_ct (df5 a b) k + 1))), (9, .int (nI (cd b k))), (8, .int (nI (cd a k))), (0, .long (enc5 a)), (2, .long (enc5 b)), (4, .int (nI (x + 1))), (5, .int (nI (y + 1)))] dX6_areApartBy_72 3 rfl (nI_add k 1) (by decide) rfl ?_
                  refine j_goto (pc := 75) C 6 dX6_areApartBy_75 (by decide) ?_
                  have l0 := ih (k + 1) (by omega) (by omega) (ok5_all h3 (by unfold ok5; rw [df5_t d2, decide_eq_true (Or.inr ⟨g1, g2⟩)]; rfl))
                  rw [e9] at l0
                  exact J.to [0, 1, 4, 5, 6, 7] rfl l0
                · refine j_iconst (pc := 67) C (nI 0) dX6_areApartBy_67 (by decide) ?_
                  refine j_topi (bI (apB a b x y)) (by rw [ok5_no d1 (by unfold ok5; rw [df5_t d2, decide_eq_false (fun z => by omega)]; rfl)]; rfl) ?_
                  exact j_zreturn (pc := 68) C Q dX6_areApartBy_68 (bI_nar _) (Nat.le_of_ble_eq_true rfl) (Nat.le_of_ble_eq_true rfl) (⟨rfl, rfl⟩)
        · have e9 : fb_ct (df5 a b) (k + 1) = fb_ct (df5 a b) k := by rw [fb_ct_succ, df5_f d2]; rfl
          refine j_goto (pc := 36) C 72 dX6_areApartBy_36 (by decide) ?_
          refine j_iinc (pc := 72) C (nI (k + 1)) [(7, .int (nI (k + 1))), (9, .int (nI (cd b k))), (8, .int (nI (cd a k))), (6, .int (nI (fb_ct (df5 a b) k))), (0, .long (enc5 a)), (2, .long (enc5 b)), (4, .int (nI (x + 1))), (5, .int (nI (y + 1)))] dX6_areApartBy_72 2 rfl (nI_add k 1) (by decide) rfl ?_
          refine j_goto (pc := 75) C 6 dX6_areApartBy_75 (by decide) ?_
          have l0 := ih (k + 1) (by omega) (by omega) (ok5_all h3 (by unfold ok5; rw [df5_f d2]; rfl))
          rw [e9] at l0
          exact J.to [0, 3, 4, 5, 6, 7] rfl l0
  exact J.to [0, 1, 2, 3, 4, 5] rfl (loop 9 0 (Nat.zero_le _) (by omega) rfl)
