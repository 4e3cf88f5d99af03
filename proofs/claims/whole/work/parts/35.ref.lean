set_option maxHeartbeats 4000000 in
set_option maxRecDepth 100000 in
theorem c_X10_wipe (L9 : Launch) (w9 : Wd) {σ : HS} {S : SP} {x9 : Nat → Nat} {k9 : Int32} (hs : RS S x9 k9 σ) (hw : WF S) : MJ L9 w9 yX10_wipe cX10_wipe 1 (some .int) ({ frames := 1, cells := 0, slots := 0, locals := 22 } : Room) [.ref (x9 0)] σ (fun a9 σ' => a9 = some (.int (s_wipe S).2.1) ∧ RS (s_wipe S).2.2 x9 (nI (s_wipe S).1) σ' ∧ ME σ σ') := by
  refine MJ.of (by decide +kernel) (Nat.le_of_ble_eq_true rfl) (fun X hX1 hX2 C Q hinit => ?_)
  subst hX1; subst hX2
  show J X 0 0 σ [(0, .ref (x9 0))] [] 0
  have hme : ME σ σ := ME.rf
  refine j_aload_n (pc := 0) C dX10_wipe_0 rfl 0 rfl ?_
  refine j_iconst (pc := 1) C (nI 0) dX10_wipe_1 (by decide) ?_
  refine j_putI (pc := 2) C fp_X10_86 hs.2.1.1 rfl rfl (Or.inl rfl) rfl (by decide) (f := 640) rfl dX10_wipe_2 ?_
  have hs := hs.wT (nI 0); have hme := hme.sI (f := 640) (i := 0) (j := 0) (v := (nI 0)) rfl
  generalize sI σ 640 0 0 (nI 0) = σ1 at hs hme ⊢
  refine j_aload_n (pc := 5) C dX10_wipe_5 rfl 0 rfl ?_
  refine j_callV (pc := 6) C [] [] (rm0 := ({ frames := 1, cells := 0, slots := 0, locals := 22 } : Room)) (k' := 0) (n' := 0) Q.1 (c_X10_takesDraft (xl X) (xw X) hs) mp_X10_takesDraft wm_1183 hs.2.1.1 rfl rfl (by decide) rfl rfl (Nat.le_of_ble_eq_true rfl) dX10_wipe_6 ⟨by decide, by decide⟩ ⟨Nat.le_of_ble_eq_true rfl, Nat.le_of_ble_eq_true rfl⟩ rfl rfl (fun v9 σ2 hp9 => ?_)
  obtain ⟨rfl, hs, hme9⟩ := hp9
  have hme := hme.tr hme9
  show J X 0 0 σ2 [(0, .ref (x9 0))] [.long (enc4 (dr S))] 9
  refine j_callS (pc := 9) C [.long (enc4 (dr S))] [] (rm0 := ({ frames := 1, cells := 0, slots := 0, locals := 22 } : Room)) (k' := 0) (n' := 0) Q.1 (c_X10_size (xl X) (xw X) (WF_drR hw)) mp_X10_size wm_1172 rfl rfl (Nat.le_of_ble_eq_true rfl) dX10_wipe_9 ⟨by decide, by decide⟩ ⟨Nat.le_of_ble_eq_true rfl, Nat.le_of_ble_eq_true rfl⟩ rfl rfl (det1 ?_)
  exact j_ireturn (pc := 12) C Q dX10_wipe_12 (Nat.le_of_ble_eq_true rfl) (Nat.le_of_ble_eq_true rfl) (⟨rfl, hs, hme⟩)
set_option maxHeartbeats 4000000 in
set_option maxRecDepth 100000 in
theorem c_X10_sound (L9 : Launch) (w9 : Wd) {σ : HS} {S : SP} {x9 : Nat → Nat} {k9 : Int32} (hs : RS S x9 k9 σ) (hw : WF S) (x : Int32) : MJ L9 w9 yX10_sound cX10_sound 3 (some .int) ({ frames := 1, cells := 0, slots := 0, locals := 22 } : Room) [.ref (x9 0), .int x] σ (fun a9 σ' => a9 = some (.int (s_sound S x).2.1) ∧ RS (s_sound S x).2.2 x9 (nI (s_sound S x).1) σ' ∧ ME σ σ') := by
  refine MJ.of (by decide +kernel) (Nat.le_of_ble_eq_true rfl) (fun X hX1 hX2 C Q hinit => ?_)
  subst hX1; subst hX2
  show J X 0 0 σ [(0, .ref (x9 0)), (1, .int x)] [] 0
  have hme : ME σ σ := ME.rf
  have gS := hw.1.1
  refine j_iload_n (pc := 0) C dX10_sound_0 rfl 1 rfl ?_
  refine j_iconst (pc := 1) C (nI 0) dX10_sound_1 (by decide) ?_
  refine j_bipush (pc := 2) C (nI 63) dX10_sound_2 (by decide) ?_
  refine j_callS (pc := 4) C [.int x, .int (nI 0), .int (nI 63)] [] (rm0 := ({ frames := 1, cells := 0, slots := 0, locals := 22 } : Room)) (k' := 0) (n' := 0) Q.1 (c_X10_isIn (xl X) (xw X) _ _ _ _ (in_of x (by decide))) mp_X10_isIn wm_1153 rfl rfl (Nat.le_of_ble_eq_true rfl) dX10_sound_4 ⟨by decide, by decide⟩ ⟨Nat.le_of_ble_eq_true rfl, Nat.le_of_ble_eq_true rfl⟩ rfl rfl (det1 ?_)
  refine j_istore_n (pc := 7) C [(2, .int (bI (inI x 64))), (0, .ref (x9 0)), (1, .int x)] dX10_sound_7 rfl (by decide) rfl ?_
  refine j_aload_n (pc := 8) C dX10_sound_8 rfl 1 rfl ?_
  refine j_iload_n (pc := 9) C dX10_sound_9 rfl 0 rfl ?_
  refine jb_if_ne (pc := 10) C 17 (b := inI x 64) dX10_sound_10 (by decide) (fun c1 => ?_) (fun c1 => ?_)
  · obtain ⟨hx1, hx2⟩ := inI_t c1
    rw [hx2]
    have gw := (hw.1.2.1 _ hx1).1
    refine j_aload_n (pc := 17) C dX10_sound_17 rfl 1 rfl ?_
    refine j_getA (pc := 18) C fp_X10_13 hs.2.1.1 rfl (f := 642) rfl (11, 12) (x9 2) ((hs.2.1.2 2 (by decide) (by decide)).1) ((hs.2.1.2 2 (by decide) (by decide)).2.1) dX10_sound_18 ?_
    refine j_iload_n (pc := 21) C dX10_sound_21 rfl 2 rfl ?_
    refine j_iald (pc := 22) C (p := xN x) (M := 64) ((hs.2.1.2 2 (by decide) (by decide)).2.1) rfl ((hs.2.1.2 2 (by decide) (by decide)).2.2) (by omega) (by decide) dX10_sound_22 ?_
    refine j_topi (nI (wi S (xN x)) - nI 1) (hs.rdO 704 12 (xN x) (by decide)) ?_
    refine j_iconst (pc := 23) C (-1) dX10_sound_23 (by decide) ?_
    refine j_icmp_ne (pc := 24) C 36 dX10_sound_24 (by decide) (fun c2 => ?_) (fun c2 => ?_)
    · refine j_iconst (pc := 36) C (nI 2) dX10_sound_36 (by decide) ?_
      refine j_goto (pc := 37) C 41 dX10_sound_37 (by decide) ?_
      refine j_callV (pc := 41) C [.int (nI 2)] [] (rm0 := ({ frames := 1, cells := 0, slots := 0, locals := 22 } : Room)) (k' := 0) (n' := 0) Q.1 (c_X10_holds (xl X) (xw X) hs (nI 2)) mp_X10_holds wm_1156 hs.2.1.1 rfl rfl (by decide) rfl rfl (Nat.le_of_ble_eq_true rfl) dX10_sound_41 ⟨by decide, by decide⟩ ⟨Nat.le_of_ble_eq_true rfl, Nat.le_of_ble_eq_true rfl⟩ rfl rfl (fun v9 σ1 hp9 => ?_)
      obtain ⟨rfl, hs, hme9⟩ := hp9
      have hme := hme.tr hme9
      show J X 0 0 σ1 [(2, .int (bI (inI (nI (xN x)) 64))), (0, .ref (x9 0)), (1, .int (nI (xN x)))] [.int (bI (decide (nI 2 = 0)))] 44
      refine j_topi (bI false) (by decide) ?_
      refine j_if_ne (pc := 44) C 49 dX10_sound_44 (by decide) (fun q => absurd q (by decide)) (fun _ => ?_)
      refine j_iconst (pc := 47) C (nI 0) dX10_sound_47 (by decide) ?_
      exact j_ireturn (pc := 48) C Q dX10_sound_48 (Nat.le_of_ble_eq_true rfl) (Nat.le_of_ble_eq_true rfl) (by unfold s_sound; rw [if_neg (by rw [c1]; decide), if_pos (Or.inl (fun z => c2 ((wi_none (by omega)).mpr z)))]; exact ⟨rfl, hs, hme⟩)
    · have e2 := (wi_none (by omega)).mp c2
      refine j_aload_n (pc := 27) C dX10_sound_27 rfl 1 rfl ?_
      refine j_getI (pc := 28) C fp_X10_113 hs.2.1.1 rfl (f := 643) rfl dX10_sound_28 ?_
      refine j_topi (nI (nS S)) (hs.rdI 643 0 0 (by decide) (by decide)) ?_
      refine j_bipush (pc := 31) C (nI 16) dX10_sound_31 (by decide) ?_
      refine jn_icmp_ne (pc := 33) C 40 (a := nS S) (b := 16) (by omega) (by omega) dX10_sound_33 (by decide) (fun c3 => ?_) (fun c3 => ?_)
      · refine j_iconst (pc := 40) C (nI 0) dX10_sound_40 (by decide) ?_
        refine j_callV (pc := 41) C [.int (nI 0)] [] (rm0 := ({ frames := 1, cells := 0, slots := 0, locals := 22 } : Room)) (k' := 0) (n' := 0) Q.1 (c_X10_holds (xl X) (xw X) hs (nI 0)) mp_X10_holds wm_1156 hs.2.1.1 rfl rfl (by decide) rfl rfl (Nat.le_of_ble_eq_true rfl) dX10_sound_41 ⟨by decide, by decide⟩ ⟨Nat.le_of_ble_eq_true rfl, Nat.le_of_ble_eq_true rfl⟩ rfl rfl (fun v9 σ2 hp9 => ?_)
        obtain ⟨rfl, hs, hme9⟩ := hp9
        have hme := hme.tr hme9
        show J X 0 0 σ2 [(2, .int (bI (inI (nI (xN x)) 64))), (0, .ref (x9 0)), (1, .int (nI (xN x)))] [.int (bI (decide (nI 0 = 0)))] 44
        refine j_topi (bI true) (by decide) ?_
        refine j_if_ne (pc := 44) C 49 dX10_sound_44 (by decide) (fun _ => ?_) (fun q => absurd q (by decide))
        refine j_aload_n (pc := 49) C dX10_sound_49 rfl 1 rfl ?_
        refine j_getA (pc := 50) C fp_X10_7 hs.2.1.1 rfl (f := 641) rfl (11, 11) (x9 1) ((hs.2.1.2 1 (by decide) (by decide)).1) ((hs.2.1.2 1 (by decide) (by decide)).2.1) dX10_sound_50 ?_
        refine j_aload_n (pc := 53) C dX10_sound_53 rfl 1 rfl ?_
        refine j_getI (pc := 54) C fp_X10_113 hs.2.1.1 rfl (f := 643) rfl dX10_sound_54 ?_
        refine j_topi (nI (nS S)) (hs.rdI 643 0 0 (by decide) (by decide)) ?_
        refine j_iload_n (pc := 57) C dX10_sound_57 rfl 2 rfl ?_
        refine j_iast (pc := 58) C (p := nS S) (M := 16) ((hs.2.1.2 1 (by decide) (by decide)).2.1) rfl ((hs.2.1.2 1 (by decide) (by decide)).2.2) (by omega) (by decide) dX10_sound_58 ?_
        have hs := hs.wI 704 11 (nS S) (xN x) (by decide) (by decide)
        have hme := hme.sI (f := 704) (i := 11) (j := (nS S)) (v := (nI (xN x))) rfl
        generalize sI σ2 704 11 (nS S) (nI (xN x)) = σ3 at hs hme ⊢
        refine j_aload_n (pc := 59) C dX10_sound_59 rfl 1 rfl ?_
        refine j_getA (pc := 60) C fp_X10_13 hs.2.1.1 rfl (f := 642) rfl (11, 12) (x9 2) ((hs.2.1.2 2 (by decide) (by decide)).1) ((hs.2.1.2 2 (by decide) (by decide)).2.1) dX10_sound_60 ?_
        refine j_iload_n (pc := 63) C dX10_sound_63 rfl 2 rfl ?_
        refine j_aload_n (pc := 64) C dX10_sound_64 rfl 1 rfl ?_
        refine j_getI (pc := 65) C fp_X10_113 hs.2.1.1 rfl (f := 643) rfl dX10_sound_65 ?_
        refine j_topi (nI (nS S)) (hs.rdI 643 0 0 (by decide) (by decide)) ?_
        refine j_iast (pc := 68) C (p := xN x) (M := 64) ((hs.2.1.2 2 (by decide) (by decide)).2.1) rfl ((hs.2.1.2 2 (by decide) (by decide)).2.2) (by omega) (by decide) dX10_sound_68 ?_
        have hs := hs.wO 704 12 (xN x) (nS S + 1) (nI (nS S)) (by decide) ((pk_sub (a := nS S + 1) (b := 1) (by omega)).symm)
        have hme := hme.sI (f := 704) (i := 12) (j := (xN x)) (v := (nI (nS S))) rfl
        generalize sI σ3 704 12 (xN x) (nI (nS S)) = σ4 at hs hme ⊢
        refine j_aload_n (pc := 69) C dX10_sound_69 rfl 1 rfl ?_
        refine j_dup (pc := 70) C dX10_sound_70 rfl ?_
        refine j_getI (pc := 71) C fp_X10_113 hs.2.1.1 rfl (f := 643) rfl dX10_sound_71 ?_
        refine j_topi (nI (nS S)) (hs.rdI 643 0 0 (by decide) (by decide)) ?_
        refine j_iconst (pc := 74) C (nI 1) dX10_sound_74 (by decide) ?_
        refine j_iadd (pc := 75) C dX10_sound_75 ?_
        refine j_topi (nI (nS S + 1)) (nI_add (nS S) 1) ?_
        refine j_putI (pc := 76) C fp_X10_113 hs.2.1.1 rfl rfl (Or.inl rfl) rfl (by decide) (f := 643) rfl dX10_sound_76 ?_
        have hs := hs.wI 643 0 0 (nS S + 1) (by decide) (by decide)
        have hme := hme.sI (f := 643) (i := 0) (j := 0) (v := (nI (nS S + 1))) rfl
        generalize sI σ4 643 0 0 (nI (nS S + 1)) = σ5 at hs hme ⊢
        refine j_aload_n (pc := 79) C dX10_sound_79 rfl 1 rfl ?_
        refine j_getI (pc := 80) C fp_X10_113 hs.2.1.1 rfl (f := 643) rfl dX10_sound_80 ?_
        refine j_topi (nI (nS S + 1)) ((hs.rdI 643 0 0 (by decide) (by decide)).trans (congrArg nI zN_eq)) ?_
        refine j_iconst (pc := 83) C (nI 1) dX10_sound_83 (by decide) ?_
        refine j_isub (pc := 84) C dX10_sound_84 ?_
        refine j_topi (nI (nS S)) (pk_sub (a := nS S + 1) (b := 1) (by omega)) ?_
        exact j_ireturn (pc := 85) C Q dX10_sound_85 (Nat.le_of_ble_eq_true rfl) (Nat.le_of_ble_eq_true rfl) (by unfold s_sound; rw [if_neg (by rw [c1]; decide), if_neg (fun z => z.elim (fun q => q e2) c3)]; exact ⟨rfl, hs, hme⟩)
      · refine j_iconst (pc := 36) C (nI 2) dX10_sound_36 (by decide) ?_
        refine j_goto (pc := 37) C 41 dX10_sound_37 (by decide) ?_
        refine j_callV (pc := 41) C [.int (nI 2)] [] (rm0 := ({ frames := 1, cells := 0, slots := 0, locals := 22 } : Room)) (k' := 0) (n' := 0) Q.1 (c_X10_holds (xl X) (xw X) hs (nI 2)) mp_X10_holds wm_1156 hs.2.1.1 rfl rfl (by decide) rfl rfl (Nat.le_of_ble_eq_true rfl) dX10_sound_41 ⟨by decide, by decide⟩ ⟨Nat.le_of_ble_eq_true rfl, Nat.le_of_ble_eq_true rfl⟩ rfl rfl (fun v9 σ6 hp9 => ?_)
        obtain ⟨rfl, hs, hme9⟩ := hp9
        have hme := hme.tr hme9
        show J X 0 0 σ6 [(2, .int (bI (inI (nI (xN x)) 64))), (0, .ref (x9 0)), (1, .int (nI (xN x)))] [.int (bI (decide (nI 2 = 0)))] 44
        refine j_topi (bI false) (by decide) ?_
        refine j_if_ne (pc := 44) C 49 dX10_sound_44 (by decide) (fun q => absurd q (by decide)) (fun _ => ?_)
        refine j_iconst (pc := 47) C (nI 0) dX10_sound_47 (by decide) ?_
        exact j_ireturn (pc := 48) C Q dX10_sound_48 (Nat.le_of_ble_eq_true rfl) (Nat.le_of_ble_eq_true rfl) (by unfold s_sound; rw [if_neg (by rw [c1]; decide), if_pos (Or.inr c3)]; exact ⟨rfl, hs, hme⟩)
  · refine j_iconst (pc := 13) C (nI 1) dX10_sound_13 (by decide) ?_
    refine j_goto (pc := 14) C 41 dX10_sound_14 (by decide) ?_
    refine j_callV (pc := 41) C [.int (nI 1)] [] (rm0 := ({ frames := 1, cells := 0, slots := 0, locals := 22 } : Room)) (k' := 0) (n' := 0) Q.1 (c_X10_holds (xl X) (xw X) hs (nI 1)) mp_X10_holds wm_1156 hs.2.1.1 rfl rfl (by decide) rfl rfl (Nat.le_of_ble_eq_true rfl) dX10_sound_41 ⟨by decide, by decide⟩ ⟨Nat.le_of_ble_eq_true rfl, Nat.le_of_ble_eq_true rfl⟩ rfl rfl (fun v9 σ7 hp9 => ?_)
    obtain ⟨rfl, hs, hme9⟩ := hp9
    have hme := hme.tr hme9
    show J X 0 0 σ7 [(2, .int (bI (inI x 64))), (0, .ref (x9 0)), (1, .int x)] [.int (bI (decide (nI 1 = 0)))] 44
    refine j_topi (bI false) (by decide) ?_
    refine j_if_ne (pc := 44) C 49 dX10_sound_44 (by decide) (fun q => absurd q (by decide)) (fun _ => ?_)
    refine j_iconst (pc := 47) C (nI 0) dX10_sound_47 (by decide) ?_
    exact j_ireturn (pc := 48) C Q dX10_sound_48 (Nat.le_of_ble_eq_true rfl) (Nat.le_of_ble_eq_true rfl) (by unfold s_sound; rw [if_pos c1]; exact ⟨rfl, hs, hme⟩)
set_option maxHeartbeats 4000000 in
set_option maxRecDepth 100000 in
theorem c_X10_kind (L9 : Launch) (w9 : Wd) {σ : HS} {S : SP} {x9 : Nat → Nat} {k9 : Int32} (hs : RS S x9 k9 σ) (hw : WF S) (x y : Int32) : MJ L9 w9 yX10_kind cX10_kind 3 (some .int) ({ frames := 1, cells := 0, slots := 0, locals := 22 } : Room) [.ref (x9 0), .int x, .int y] σ (fun a9 σ' => a9 = some (.int (s_kind S x y).2.1) ∧ RS (s_kind S x y).2.2 x9 (nI (s_kind S x y).1) σ' ∧ ME σ σ') := by
  refine MJ.of (by decide +kernel) (Nat.le_of_ble_eq_true rfl) (fun X hX1 hX2 C Q hinit => ?_)
  subst hX1; subst hX2
  show J X 0 0 σ [(0, .ref (x9 0)), (1, .int x), (2, .int y)] [] 0
  have hme : ME σ σ := ME.rf
  have gC := hw.1.2.2.2.1
  refine j_aload_n (pc := 0) C dX10_kind_0 rfl 0 rfl ?_
  refine j_iload_n (pc := 1) C dX10_kind_1 rfl 1 rfl ?_
  refine j_iconst (pc := 2) C (nI 0) dX10_kind_2 (by decide) ?_
  refine j_bipush (pc := 3) C (nI 63) dX10_kind_3 (by decide) ?_
  refine j_callS (pc := 5) C [.int x, .int (nI 0), .int (nI 63)] [.ref (x9 0)] (rm0 := ({ frames := 1, cells := 0, slots := 0, locals := 22 } : Room)) (k' := 0) (n' := 0) Q.1 (c_X10_isIn (xl X) (xw X) _ _ _ _ (in_of x (by decide))) mp_X10_isIn wm_1153 rfl rfl (Nat.le_of_ble_eq_true rfl) dX10_kind_5 ⟨by decide, by decide⟩ ⟨Nat.le_of_ble_eq_true rfl, Nat.le_of_ble_eq_true rfl⟩ rfl rfl (det1 ?_)
  refine jb_if_eq (pc := 8) C 21 (b := inI x 64) dX10_kind_8 (by decide) (fun c1 => ?_) (fun c1 => ?_)
  · refine j_iconst (pc := 21) C (nI 1) dX10_kind_21 (by decide) ?_
    refine j_goto (pc := 22) C 39 dX10_kind_22 (by decide) ?_
    refine j_callV (pc := 39) C [.int (nI 1)] [] (rm0 := ({ frames := 1, cells := 0, slots := 0, locals := 22 } : Room)) (k' := 0) (n' := 0) Q.1 (c_X10_holds (xl X) (xw X) hs (nI 1)) mp_X10_holds wm_1156 hs.2.1.1 rfl rfl (by decide) rfl rfl (Nat.le_of_ble_eq_true rfl) dX10_kind_39 ⟨by decide, by decide⟩ ⟨Nat.le_of_ble_eq_true rfl, Nat.le_of_ble_eq_true rfl⟩ rfl rfl (fun v9 σ1 hp9 => ?_)
    obtain ⟨rfl, hs, hme9⟩ := hp9
    have hme := hme.tr hme9
    show J X 0 0 σ1 [(0, .ref (x9 0)), (1, .int x), (2, .int y)] [.int (bI (decide (nI 1 = 0)))] 42
    refine j_topi (bI false) (by decide) ?_
    refine j_if_ne (pc := 42) C 47 dX10_kind_42 (by decide) (fun q => absurd q (by decide)) (fun _ => ?_)
    refine j_iconst (pc := 45) C (nI 0) dX10_kind_45 (by decide) ?_
    exact j_ireturn (pc := 46) C Q dX10_kind_46 (Nat.le_of_ble_eq_true rfl) (Nat.le_of_ble_eq_true rfl) (by unfold s_kind; rw [if_pos (by rw [c1]; rfl)]; exact ⟨rfl, hs, hme⟩)
  · obtain ⟨hx1, hx2⟩ := inI_t c1
    rw [hx2]
    refine j_iload_n (pc := 11) C dX10_kind_11 rfl 2 rfl ?_
    refine j_iconst (pc := 12) C (nI 0) dX10_kind_12 (by decide) ?_
    refine j_bipush (pc := 13) C (nI 63) dX10_kind_13 (by decide) ?_
    refine j_callS (pc := 15) C [.int y, .int (nI 0), .int (nI 63)] [.ref (x9 0)] (rm0 := ({ frames := 1, cells := 0, slots := 0, locals := 22 } : Room)) (k' := 0) (n' := 0) Q.1 (c_X10_isIn (xl X) (xw X) _ _ _ _ (in_of y (by decide))) mp_X10_isIn wm_1153 rfl rfl (Nat.le_of_ble_eq_true rfl) dX10_kind_15 ⟨by decide, by decide⟩ ⟨Nat.le_of_ble_eq_true rfl, Nat.le_of_ble_eq_true rfl⟩ rfl rfl (det1 ?_)
    refine jb_if_ne (pc := 18) C 25 (b := inI y 64) dX10_kind_18 (by decide) (fun c2 => ?_) (fun c2 => ?_)
    · obtain ⟨hy1, hy2⟩ := inI_t c2
      rw [hy2]
      refine j_aload_n (pc := 25) C dX10_kind_25 rfl 0 rfl ?_
      refine j_getI (pc := 26) C fp_X10_120 hs.2.1.1 rfl (f := 646) rfl dX10_kind_26 ?_
      refine j_topi (nI (nC S)) (hs.rdI 646 0 0 (by decide) (by decide)) ?_
      refine j_bipush (pc := 29) C (nI 12) dX10_kind_29 (by decide) ?_
      refine jn_icmp_ne (pc := 31) C 38 (a := nC S) (b := 12) (by omega) (by omega) dX10_kind_31 (by decide) (fun c3 => ?_) (fun c3 => ?_)
      · refine j_iconst (pc := 38) C (nI 0) dX10_kind_38 (by decide) ?_
        refine j_callV (pc := 39) C [.int (nI 0)] [] (rm0 := ({ frames := 1, cells := 0, slots := 0, locals := 22 } : Room)) (k' := 0) (n' := 0) Q.1 (c_X10_holds (xl X) (xw X) hs (nI 0)) mp_X10_holds wm_1156 hs.2.1.1 rfl rfl (by decide) rfl rfl (Nat.le_of_ble_eq_true rfl) dX10_kind_39 ⟨by decide, by decide⟩ ⟨Nat.le_of_ble_eq_true rfl, Nat.le_of_ble_eq_true rfl⟩ rfl rfl (fun v9 σ2 hp9 => ?_)
        obtain ⟨rfl, hs, hme9⟩ := hp9
        have hme := hme.tr hme9
        show J X 0 0 σ2 [(0, .ref (x9 0)), (1, .int (nI (xN x))), (2, .int (nI (xN y)))] [.int (bI (decide (nI 0 = 0)))] 42
        refine j_topi (bI true) (by decide) ?_
        refine j_if_ne (pc := 42) C 47 dX10_kind_42 (by decide) (fun _ => ?_) (fun q => absurd q (by decide))
        refine j_aload_n (pc := 47) C dX10_kind_47 rfl 0 rfl ?_
        refine j_getA (pc := 48) C fp_X10_16 hs.2.1.1 rfl (f := 644) rfl (11, 14) (x9 4) ((hs.2.1.2 4 (by decide) (by decide)).1) ((hs.2.1.2 4 (by decide) (by decide)).2.1) dX10_kind_48 ?_
        refine j_aload_n (pc := 51) C dX10_kind_51 rfl 0 rfl ?_
        refine j_getI (pc := 52) C fp_X10_120 hs.2.1.1 rfl (f := 646) rfl dX10_kind_52 ?_
        refine j_topi (nI (nC S)) (hs.rdI 646 0 0 (by decide) (by decide)) ?_
        refine j_iload_n (pc := 55) C dX10_kind_55 rfl 1 rfl ?_
        refine j_iast (pc := 56) C (p := nC S) (M := 12) ((hs.2.1.2 4 (by decide) (by decide)).2.1) rfl ((hs.2.1.2 4 (by decide) (by decide)).2.2) (by omega) (by decide) dX10_kind_56 ?_
        have hs := hs.wI 704 14 (nC S) (xN x) (by decide) (by decide)
        have hme := hme.sI (f := 704) (i := 14) (j := (nC S)) (v := (nI (xN x))) rfl
        generalize sI σ2 704 14 (nC S) (nI (xN x)) = σ3 at hs hme ⊢
        refine j_aload_n (pc := 57) C dX10_kind_57 rfl 0 rfl ?_
        refine j_getA (pc := 58) C fp_X10_19 hs.2.1.1 rfl (f := 645) rfl (11, 15) (x9 5) ((hs.2.1.2 5 (by decide) (by decide)).1) ((hs.2.1.2 5 (by decide) (by decide)).2.1) dX10_kind_58 ?_
        refine j_aload_n (pc := 61) C dX10_kind_61 rfl 0 rfl ?_
        refine j_getI (pc := 62) C fp_X10_120 hs.2.1.1 rfl (f := 646) rfl dX10_kind_62 ?_
        refine j_topi (nI (nC S)) (hs.rdI 646 0 0 (by decide) (by decide)) ?_
        refine j_iload_n (pc := 65) C dX10_kind_65 rfl 2 rfl ?_
        refine j_iast (pc := 66) C (p := nC S) (M := 12) ((hs.2.1.2 5 (by decide) (by decide)).2.1) rfl ((hs.2.1.2 5 (by decide) (by decide)).2.2) (by omega) (by decide) dX10_kind_66 ?_
        have hs := hs.wI 704 15 (nC S) (xN y) (by decide) (by decide)
        have hme := hme.sI (f := 704) (i := 15) (j := (nC S)) (v := (nI (xN y))) rfl
        generalize sI σ3 704 15 (nC S) (nI (xN y)) = σ4 at hs hme ⊢
        refine j_aload_n (pc := 67) C dX10_kind_67 rfl 0 rfl ?_
        refine j_dup (pc := 68) C dX10_kind_68 rfl ?_
        refine j_getI (pc := 69) C fp_X10_120 hs.2.1.1 rfl (f := 646) rfl dX10_kind_69 ?_
        refine j_topi (nI (nC S)) (hs.rdI 646 0 0 (by decide) (by decide)) ?_
        refine j_iconst (pc := 72) C (nI 1) dX10_kind_72 (by decide) ?_
        refine j_iadd (pc := 73) C dX10_kind_73 ?_
        refine j_topi (nI (nC S + 1)) (nI_add (nC S) 1) ?_
        refine j_putI (pc := 74) C fp_X10_120 hs.2.1.1 rfl rfl (Or.inl rfl) rfl (by decide) (f := 646) rfl dX10_kind_74 ?_
        have hs := hs.wI 646 0 0 (nC S + 1) (by decide) (by decide)
        have hme := hme.sI (f := 646) (i := 0) (j := 0) (v := (nI (nC S + 1))) rfl
        generalize sI σ4 646 0 0 (nI (nC S + 1)) = σ5 at hs hme ⊢
        refine j_aload_n (pc := 77) C dX10_kind_77 rfl 0 rfl ?_
        refine j_getI (pc := 78) C fp_X10_120 hs.2.1.1 rfl (f := 646) rfl dX10_kind_78 ?_
        refine j_topi (nI (nC S + 1)) ((hs.rdI 646 0 0 (by decide) (by decide)).trans (congrArg nI zN_eq)) ?_
        refine j_iconst (pc := 81) C (nI 1) dX10_kind_81 (by decide) ?_
        refine j_isub (pc := 82) C dX10_kind_82 ?_
        refine j_topi (nI (nC S)) (pk_sub (a := nC S + 1) (b := 1) (by omega)) ?_
        exact j_ireturn (pc := 83) C Q dX10_kind_83 (Nat.le_of_ble_eq_true rfl) (Nat.le_of_ble_eq_true rfl) (by unfold s_kind; rw [if_neg (by rw [c1, c2]; decide), if_neg c3]; exact ⟨rfl, hs, hme⟩)
      · refine j_iconst (pc := 34) C (nI 2) dX10_kind_34 (by decide) ?_
        refine j_goto (pc := 35) C 39 dX10_kind_35 (by decide) ?_
        refine j_callV (pc := 39) C [.int (nI 2)] [] (rm0 := ({ frames := 1, cells := 0, slots := 0, locals := 22 } : Room)) (k' := 0) (n' := 0) Q.1 (c_X10_holds (xl X) (xw X) hs (nI 2)) mp_X10_holds wm_1156 hs.2.1.1 rfl rfl (by decide) rfl rfl (Nat.le_of_ble_eq_true rfl) dX10_kind_39 ⟨by decide, by decide⟩ ⟨Nat.le_of_ble_eq_true rfl, Nat.le_of_ble_eq_true rfl⟩ rfl rfl (fun v9 σ6 hp9 => ?_)
        obtain ⟨rfl, hs, hme9⟩ := hp9
        have hme := hme.tr hme9
        show J X 0 0 σ6 [(0, .ref (x9 0)), (1, .int (nI (xN x))), (2, .int (nI (xN y)))] [.int (bI (decide (nI 2 = 0)))] 42
        refine j_topi (bI false) (by decide) ?_
        refine j_if_ne (pc := 42) C 47 dX10_kind_42 (by decide) (fun q => absurd q (by decide)) (fun _ => ?_)
        refine j_iconst (pc := 45) C (nI 0) dX10_kind_45 (by decide) ?_
        exact j_ireturn (pc := 46) C Q dX10_kind_46 (Nat.le_of_ble_eq_true rfl) (Nat.le_of_ble_eq_true rfl) (by unfold s_kind; rw [if_neg (by rw [c1, c2]; decide), if_pos c3]; exact ⟨rfl, hs, hme⟩)
    · refine j_iconst (pc := 21) C (nI 1) dX10_kind_21 (by decide) ?_
      refine j_goto (pc := 22) C 39 dX10_kind_22 (by decide) ?_
      refine j_callV (pc := 39) C [.int (nI 1)] [] (rm0 := ({ frames := 1, cells := 0, slots := 0, locals := 22 } : Room)) (k' := 0) (n' := 0) Q.1 (c_X10_holds (xl X) (xw X) hs (nI 1)) mp_X10_holds wm_1156 hs.2.1.1 rfl rfl (by decide) rfl rfl (Nat.le_of_ble_eq_true rfl) dX10_kind_39 ⟨by decide, by decide⟩ ⟨Nat.le_of_ble_eq_true rfl, Nat.le_of_ble_eq_true rfl⟩ rfl rfl (fun v9 σ7 hp9 => ?_)
      obtain ⟨rfl, hs, hme9⟩ := hp9
      have hme := hme.tr hme9
      show J X 0 0 σ7 [(0, .ref (x9 0)), (1, .int (nI (xN x))), (2, .int y)] [.int (bI (decide (nI 1 = 0)))] 42
      refine j_topi (bI false) (by decide) ?_
      refine j_if_ne (pc := 42) C 47 dX10_kind_42 (by decide) (fun q => absurd q (by decide)) (fun _ => ?_)
      refine j_iconst (pc := 45) C (nI 0) dX10_kind_45 (by decide) ?_
      exact j_ireturn (pc := 46) C Q dX10_kind_46 (Nat.le_of_ble_eq_true rfl) (Nat.le_of_ble_eq_true rfl) (by unfold s_kind; rw [if_pos (by rw [c1, c2]; rfl)]; exact ⟨rfl, hs, hme⟩)
set_option maxHeartbeats 4000000 in
set_option maxRecDepth 100000 in
theorem c_X10_put (L9 : Launch) (w9 : Wd) {σ : HS} {S : SP} {x9 : Nat → Nat} {k9 : Int32} (hs : RS S x9 k9 σ) (hw : WF S) (x : Int32) : MJ L9 w9 yX10_put cX10_put 2 (some .int) ({ frames := 2, cells := 0, slots := 0, locals := 43 } : Room) [.ref (x9 0), .int x] σ (fun a9 σ' => a9 = some (.int (s_put S x).2.1) ∧ RS (s_put S x).2.2 x9 (nI (s_put S x).1) σ' ∧ ME σ σ') := by
  refine MJ.of (by decide +kernel) (Nat.le_of_ble_eq_true rfl) (fun X hX1 hX2 C Q hinit => ?_)
  subst hX1; subst hX2
  show J X 0 0 σ [(0, .ref (x9 0)), (1, .int x)] [] 0
  have hme : ME σ σ := ME.rf
  have gS := hw.1.1
  have g8 := (WF_drR hw).1
  refine j_aload_n (pc := 0) C dX10_put_0 rfl 0 rfl ?_
  refine j_aload_n (pc := 1) C dX10_put_1 rfl 0 rfl ?_
  refine j_iload_n (pc := 2) C dX10_put_2 rfl 1 rfl ?_
  refine j_callV (pc := 3) C [.int x] [.ref (x9 0)] (rm0 := ({ frames := 2, cells := 0, slots := 0, locals := 43 } : Room)) (k' := 0) (n' := 0) Q.1 (c_X10_isSound (xl X) (xw X) hs hw x) mp_X10_isSound wm_1168 hs.2.1.1 rfl rfl (by decide) rfl rfl (Nat.le_of_ble_eq_true rfl) dX10_put_3 ⟨by decide, by decide⟩ ⟨Nat.le_of_ble_eq_true rfl, Nat.le_of_ble_eq_true rfl⟩ rfl rfl (det1 ?_)
  refine jb_if_ne (pc := 6) C 13 (b := inI x (nS S)) dX10_put_6 (by decide) (fun c1 => ?_) (fun c1 => ?_)
  · obtain ⟨hx1, hx2⟩ := inI_t c1
    rw [hx2]
    refine j_aload_n (pc := 13) C dX10_put_13 rfl 0 rfl ?_
    refine j_getL (pc := 14) C fp_X10_105 hs.2.1.1 rfl (f := 647) rfl dX10_put_14 ?_
    refine j_topl (enc4 (dr S)) (hs.rdL 647 0 0 (by decide) (by decide)) ?_
    refine j_callS (pc := 17) C [.long (enc4 (dr S))] [.ref (x9 0)] (rm0 := ({ frames := 2, cells := 0, slots := 0, locals := 43 } : Room)) (k' := 0) (n' := 0) Q.1 (c_X10_size (xl X) (xw X) (WF_drR hw)) mp_X10_size wm_1172 rfl rfl (Nat.le_of_ble_eq_true rfl) dX10_put_17 ⟨by decide, by decide⟩ ⟨Nat.le_of_ble_eq_true rfl, Nat.le_of_ble_eq_true rfl⟩ rfl rfl (det1 ?_)
    refine j_bipush (pc := 20) C (nI 8) dX10_put_20 (by decide) ?_
    refine jn_icmp_ne (pc := 22) C 29 (a := (dr S).length) (b := 8) (by omega) (by omega) dX10_put_22 (by decide) (fun c2 => ?_) (fun c2 => ?_)
    · refine j_iconst (pc := 29) C (nI 0) dX10_put_29 (by decide) ?_
      refine j_callV (pc := 30) C [.int (nI 0)] [] (rm0 := ({ frames := 2, cells := 0, slots := 0, locals := 43 } : Room)) (k' := 0) (n' := 0) Q.1 (c_X10_holds (xl X) (xw X) hs (nI 0)) mp_X10_holds wm_1156 hs.2.1.1 rfl rfl (by decide) rfl rfl (Nat.le_of_ble_eq_true rfl) dX10_put_30 ⟨by decide, by decide⟩ ⟨Nat.le_of_ble_eq_true rfl, Nat.le_of_ble_eq_true rfl⟩ rfl rfl (fun v9 σ1 hp9 => ?_)
      obtain ⟨rfl, hs, hme9⟩ := hp9
      have hme := hme.tr hme9
      show J X 0 0 σ1 [(0, .ref (x9 0)), (1, .int (nI (xN x)))] [.int (bI (decide (nI 0 = 0)))] 33
      refine j_topi (bI true) (by decide) ?_
      refine j_if_ne (pc := 33) C 38 dX10_put_33 (by decide) (fun _ => ?_) (fun q => absurd q (by decide))
      refine j_aload_n (pc := 38) C dX10_put_38 rfl 0 rfl ?_
      refine j_aload_n (pc := 39) C dX10_put_39 rfl 0 rfl ?_
      refine j_getL (pc := 40) C fp_X10_105 hs.2.1.1 rfl (f := 647) rfl dX10_put_40 ?_
      refine j_topl (enc4 (dr S)) (hs.rdL 647 0 0 (by decide) (by decide)) ?_
      refine j_iload_n (pc := 43) C dX10_put_43 rfl 1 rfl ?_
      refine j_callS (pc := 44) C [.long (enc4 (dr S)), .int (nI (xN x))] [.ref (x9 0)] (rm0 := ({ frames := 2, cells := 0, slots := 0, locals := 43 } : Room)) (k' := 0) (n' := 0) Q.1 (c_X10_with (xl X) (xw X) (WF_drR hw) (s := xN x) (by omega) (by omega)) mp_X10_with wm_1175 rfl rfl (Nat.le_of_ble_eq_true rfl) dX10_put_44 ⟨by decide, by decide⟩ ⟨Nat.le_of_ble_eq_true rfl, Nat.le_of_ble_eq_true rfl⟩ rfl rfl (det1 ?_)
      refine j_putL (pc := 47) C fp_X10_105 hs.2.1.1 rfl rfl (Or.inl rfl) rfl (by decide) (f := 647) rfl dX10_put_47 ?_
      have hs := hs.wL 647 0 0 (some (dr S ++ [xN x])) (enc4 (dr S ++ [xN x])) (by decide) (by decide) rfl; have hme := hme.sL (f := 647) (i := 0) (j := 0) (v := (enc4 (dr S ++ [xN x]))) rfl
      generalize sL σ1 647 0 0 (enc4 (dr S ++ [xN x])) = σ2 at hs hme ⊢
      refine j_aload_n (pc := 50) C dX10_put_50 rfl 0 rfl ?_
      refine j_getL (pc := 51) C fp_X10_105 hs.2.1.1 rfl (f := 647) rfl dX10_put_51 ?_
      refine j_topl (enc4 (dr S ++ [xN x])) ((hs.rdL 647 0 0 (by decide) (by decide)).trans (congrArg (fun z => enc4 (Option.getD z [])) (a₂ := some (dr S ++ [xN x])) zR_eq)) ?_
      refine j_callS (pc := 54) C [.long (enc4 (dr S ++ [xN x]))] [] (rm0 := ({ frames := 2, cells := 0, slots := 0, locals := 43 } : Room)) (k' := 0) (n' := 0) Q.1 (c_X10_size (xl X) (xw X) (okR_app (WF_drR hw).2 (fun s hs5 => by rw [List.mem_singleton.mp hs5]; omega) (by show _ + 1 ≤ 8; omega))) mp_X10_size wm_1172 rfl rfl (Nat.le_of_ble_eq_true rfl) dX10_put_54 ⟨by decide, by decide⟩ ⟨Nat.le_of_ble_eq_true rfl, Nat.le_of_ble_eq_true rfl⟩ rfl rfl (det1 ?_)
      refine j_topi (nI ((dr S).length + 1)) (by rw [List.length_append]; rfl) ?_
      exact j_ireturn (pc := 57) C Q dX10_put_57 (Nat.le_of_ble_eq_true rfl) (Nat.le_of_ble_eq_true rfl) (by unfold s_put; rw [if_neg (by rw [c1]; decide), if_neg c2]; exact ⟨rfl, hs, hme⟩)
    · refine j_iconst (pc := 25) C (nI 2) dX10_put_25 (by decide) ?_
      refine j_goto (pc := 26) C 30 dX10_put_26 (by decide) ?_
      refine j_callV (pc := 30) C [.int (nI 2)] [] (rm0 := ({ frames := 2, cells := 0, slots := 0, locals := 43 } : Room)) (k' := 0) (n' := 0) Q.1 (c_X10_holds (xl X) (xw X) hs (nI 2)) mp_X10_holds wm_1156 hs.2.1.1 rfl rfl (by decide) rfl rfl (Nat.le_of_ble_eq_true rfl) dX10_put_30 ⟨by decide, by decide⟩ ⟨Nat.le_of_ble_eq_true rfl, Nat.le_of_ble_eq_true rfl⟩ rfl rfl (fun v9 σ3 hp9 => ?_)
      obtain ⟨rfl, hs, hme9⟩ := hp9
      have hme := hme.tr hme9
      show J X 0 0 σ3 [(0, .ref (x9 0)), (1, .int (nI (xN x)))] [.int (bI (decide (nI 2 = 0)))] 33
      refine j_topi (bI false) (by decide) ?_
      refine j_if_ne (pc := 33) C 38 dX10_put_33 (by decide) (fun q => absurd q (by decide)) (fun _ => ?_)
      refine j_iconst (pc := 36) C (nI 0) dX10_put_36 (by decide) ?_
      exact j_ireturn (pc := 37) C Q dX10_put_37 (Nat.le_of_ble_eq_true rfl) (Nat.le_of_ble_eq_true rfl) (by unfold s_put; rw [if_neg (by rw [c1]; decide), if_pos c2]; exact ⟨rfl, hs, hme⟩)
  · refine j_iconst (pc := 9) C (nI 1) dX10_put_9 (by decide) ?_
    refine j_goto (pc := 10) C 30 dX10_put_10 (by decide) ?_
    refine j_callV (pc := 30) C [.int (nI 1)] [] (rm0 := ({ frames := 2, cells := 0, slots := 0, locals := 43 } : Room)) (k' := 0) (n' := 0) Q.1 (c_X10_holds (xl X) (xw X) hs (nI 1)) mp_X10_holds wm_1156 hs.2.1.1 rfl rfl (by decide) rfl rfl (Nat.le_of_ble_eq_true rfl) dX10_put_30 ⟨by decide, by decide⟩ ⟨Nat.le_of_ble_eq_true rfl, Nat.le_of_ble_eq_true rfl⟩ rfl rfl (fun v9 σ4 hp9 => ?_)
    obtain ⟨rfl, hs, hme9⟩ := hp9
    have hme := hme.tr hme9
    show J X 0 0 σ4 [(0, .ref (x9 0)), (1, .int x)] [.int (bI (decide (nI 1 = 0)))] 33
    refine j_topi (bI false) (by decide) ?_
    refine j_if_ne (pc := 33) C 38 dX10_put_33 (by decide) (fun q => absurd q (by decide)) (fun _ => ?_)
    refine j_iconst (pc := 36) C (nI 0) dX10_put_36 (by decide) ?_
    exact j_ireturn (pc := 37) C Q dX10_put_37 (Nat.le_of_ble_eq_true rfl) (Nat.le_of_ble_eq_true rfl) (by unfold s_put; rw [if_pos c1]; exact ⟨rfl, hs, hme⟩)
set_option maxHeartbeats 4000000 in
set_option maxRecDepth 100000 in
theorem c_X10_lexeme (L9 : Launch) (w9 : Wd) {σ : HS} {S : SP} {x9 : Nat → Nat} {k9 : Int32} (hs : RS S x9 k9 σ) (hw : WF S) : MJ L9 w9 yX10_lexeme cX10_lexeme 1 (some .int) ({ frames := 2, cells := 0, slots := 0, locals := 42 } : Room) [.ref (x9 0)] σ (fun a9 σ' => a9 = some (.int (s_lexeme S).2.1) ∧ RS (s_lexeme S).2.2 x9 (nI (s_lexeme S).1) σ' ∧ ME σ σ') := by
  refine MJ.of (by decide +kernel) (Nat.le_of_ble_eq_true rfl) (fun X hX1 hX2 C Q hinit => ?_)
  subst hX1; subst hX2
  show J X 0 0 σ [(0, .ref (x9 0))] [] 0
  have hme : ME σ σ := ME.rf
  have gL := hw.2.2.1.1
  refine j_aload_n (pc := 0) C dX10_lexeme_0 rfl 0 rfl ?_
  refine j_aload_n (pc := 1) C dX10_lexeme_1 rfl 0 rfl ?_
  refine j_getI (pc := 2) C fp_X10_130 hs.2.1.1 rfl (f := 650) rfl dX10_lexeme_2 ?_
  refine j_topi (nI (nL S)) (hs.rdI 650 0 0 (by decide) (by decide)) ?_
  refine j_bipush (pc := 5) C (nI 16) dX10_lexeme_5 (by decide) ?_
  refine jn_icmp_eq (pc := 7) C 17 (a := nL S) (b := 16) (by omega) (by omega) dX10_lexeme_7 (by decide) (fun c1 => ?_) (fun c1 => ?_)
  · refine j_iconst (pc := 17) C (nI 1) dX10_lexeme_17 (by decide) ?_
    refine j_goto (pc := 18) C 22 dX10_lexeme_18 (by decide) ?_
    refine j_callV (pc := 22) C [.int (nI 1)] [] (rm0 := ({ frames := 2, cells := 0, slots := 0, locals := 42 } : Room)) (k' := 0) (n' := 0) Q.1 (c_X10_holds (xl X) (xw X) hs (nI 1)) mp_X10_holds wm_1156 hs.2.1.1 rfl rfl (by decide) rfl rfl (Nat.le_of_ble_eq_true rfl) dX10_lexeme_22 ⟨by decide, by decide⟩ ⟨Nat.le_of_ble_eq_true rfl, Nat.le_of_ble_eq_true rfl⟩ rfl rfl (fun v9 σ1 hp9 => ?_)
    obtain ⟨rfl, hs, hme9⟩ := hp9
    have hme := hme.tr hme9
    show J X 0 0 σ1 [(0, .ref (x9 0))] [.int (bI (decide (nI 1 = 0)))] 25
    refine j_topi (bI false) (by decide) ?_
    refine j_if_eq (pc := 25) C 39 dX10_lexeme_25 (by decide) (fun _ => ?_) (fun q => absurd q (by decide))
    refine j_iconst (pc := 39) C (nI 0) dX10_lexeme_39 (by decide) ?_
    exact j_ireturn (pc := 40) C Q dX10_lexeme_40 (Nat.le_of_ble_eq_true rfl) (Nat.le_of_ble_eq_true rfl) (by unfold s_lexeme; rw [if_pos (Or.inl c1)]; exact ⟨rfl, hs, hme⟩)
  · refine j_aload_n (pc := 10) C dX10_lexeme_10 rfl 0 rfl ?_
    refine j_callV (pc := 11) C [] [.ref (x9 0)] (rm0 := ({ frames := 2, cells := 0, slots := 0, locals := 42 } : Room)) (k' := 0) (n' := 0) Q.1 (c_X10_isForm (xl X) (xw X) hs hw) mp_X10_isForm wm_1191 hs.2.1.1 rfl rfl (by decide) rfl rfl (Nat.le_of_ble_eq_true rfl) dX10_lexeme_11 ⟨by decide, by decide⟩ ⟨Nat.le_of_ble_eq_true rfl, Nat.le_of_ble_eq_true rfl⟩ rfl rfl (det1 ?_)
    refine jb_if_ne (pc := 14) C 21 (b := isForm9 S) dX10_lexeme_14 (by decide) (fun c2 => ?_) (fun c2 => ?_)
    · refine j_iconst (pc := 21) C (nI 0) dX10_lexeme_21 (by decide) ?_
      refine j_callV (pc := 22) C [.int (nI 0)] [] (rm0 := ({ frames := 2, cells := 0, slots := 0, locals := 42 } : Room)) (k' := 0) (n' := 0) Q.1 (c_X10_holds (xl X) (xw X) hs (nI 0)) mp_X10_holds wm_1156 hs.2.1.1 rfl rfl (by decide) rfl rfl (Nat.le_of_ble_eq_true rfl) dX10_lexeme_22 ⟨by decide, by decide⟩ ⟨Nat.le_of_ble_eq_true rfl, Nat.le_of_ble_eq_true rfl⟩ rfl rfl (fun v9 σ2 hp9 => ?_)
      obtain ⟨rfl, hs, hme9⟩ := hp9
      have hme := hme.tr hme9
      show J X 0 0 σ2 [(0, .ref (x9 0))] [.int (bI (decide (nI 0 = 0)))] 25
      refine j_topi (bI true) (by decide) ?_
      refine j_if_eq (pc := 25) C 39 dX10_lexeme_25 (by decide) (fun q => absurd q (by decide)) (fun _ => ?_)
      refine j_aload_n (pc := 28) C dX10_lexeme_28 rfl 0 rfl ?_
      refine j_aload_n (pc := 29) C dX10_lexeme_29 rfl 0 rfl ?_
      refine j_callV (pc := 30) C [] [.ref (x9 0)] (rm0 := ({ frames := 2, cells := 0, slots := 0, locals := 42 } : Room)) (k' := 0) (n' := 0) Q.1 (c_X10_takesDraft (xl X) (xw X) hs) mp_X10_takesDraft wm_1183 hs.2.1.1 rfl rfl (by decide) rfl rfl (Nat.le_of_ble_eq_true rfl) dX10_lexeme_30 ⟨by decide, by decide⟩ ⟨Nat.le_of_ble_eq_true rfl, Nat.le_of_ble_eq_true rfl⟩ rfl rfl (fun v9 σ3 hp9 => ?_)
      obtain ⟨rfl, hs, hme9⟩ := hp9
      have hme := hme.tr hme9
      show J X 0 0 σ3 [(0, .ref (x9 0))] [.long (enc4 (dr S)), .ref (x9 0)] 33
      refine j_callV (pc := 33) C [.long (enc4 (dr S))] [] (rm0 := ({ frames := 2, cells := 0, slots := 0, locals := 42 } : Room)) (k' := 0) (n' := 0) Q.1 (c_X10_makes (xl X) (xw X) hs (dr S) (show nL S < 16 by omega)) mp_X10_makes wm_1195 hs.2.1.1 rfl rfl (by decide) rfl rfl (Nat.le_of_ble_eq_true rfl) dX10_lexeme_33 ⟨by decide, by decide⟩ ⟨Nat.le_of_ble_eq_true rfl, Nat.le_of_ble_eq_true rfl⟩ rfl rfl (fun v9 σ4 hp9 => ?_)
      obtain ⟨rfl, hs, hme9⟩ := hp9
      have hme := hme.tr hme9
      show J X 0 0 σ4 [(0, .ref (x9 0))] [.int (nI (nL S))] 36
      refine j_goto (pc := 36) C 40 dX10_lexeme_36 (by decide) ?_
      exact j_ireturn (pc := 40) C Q dX10_lexeme_40 (Nat.le_of_ble_eq_true rfl) (Nat.le_of_ble_eq_true rfl) (by unfold s_lexeme; rw [if_neg (fun z => z.elim c1 (fun q => by rw [c2] at q; cases q))]; exact ⟨rfl, hs, hme⟩)
    · refine j_iconst (pc := 17) C (nI 1) dX10_lexeme_17 (by decide) ?_
      refine j_goto (pc := 18) C 22 dX10_lexeme_18 (by decide) ?_
      refine j_callV (pc := 22) C [.int (nI 1)] [] (rm0 := ({ frames := 2, cells := 0, slots := 0, locals := 42 } : Room)) (k' := 0) (n' := 0) Q.1 (c_X10_holds (xl X) (xw X) hs (nI 1)) mp_X10_holds wm_1156 hs.2.1.1 rfl rfl (by decide) rfl rfl (Nat.le_of_ble_eq_true rfl) dX10_lexeme_22 ⟨by decide, by decide⟩ ⟨Nat.le_of_ble_eq_true rfl, Nat.le_of_ble_eq_true rfl⟩ rfl rfl (fun v9 σ5 hp9 => ?_)
      obtain ⟨rfl, hs, hme9⟩ := hp9
      have hme := hme.tr hme9
      show J X 0 0 σ5 [(0, .ref (x9 0))] [.int (bI (decide (nI 1 = 0)))] 25
      refine j_topi (bI false) (by decide) ?_
      refine j_if_eq (pc := 25) C 39 dX10_lexeme_25 (by decide) (fun _ => ?_) (fun q => absurd q (by decide))
      refine j_iconst (pc := 39) C (nI 0) dX10_lexeme_39 (by decide) ?_
      exact j_ireturn (pc := 40) C Q dX10_lexeme_40 (Nat.le_of_ble_eq_true rfl) (Nat.le_of_ble_eq_true rfl) (by unfold s_lexeme; rw [if_pos (Or.inr c2)]; exact ⟨rfl, hs, hme⟩)
set_option maxHeartbeats 4000000 in
set_option maxRecDepth 100000 in
theorem c_X10_reform (L9 : Launch) (w9 : Wd) {σ : HS} {S : SP} {x9 : Nat → Nat} {k9 : Int32} (hs : RS S x9 k9 σ) (hw : WF S) (x : Int32) : MJ L9 w9 yX10_reform cX10_reform 2 none ({ frames := 2, cells := 0, slots := 0, locals := 43 } : Room) [.ref (x9 0), .int x] σ (fun a9 σ' => a9 = none ∧ RS (s_reform S x).2.2 x9 (nI (s_reform S x).1) σ' ∧ ME σ σ') := by
  refine MJ.of (by decide +kernel) (Nat.le_of_ble_eq_true rfl) (fun X hX1 hX2 C Q hinit => ?_)
  subst hX1; subst hX2
  show J X 0 0 σ [(0, .ref (x9 0)), (1, .int x)] [] 0
  have hme : ME σ σ := ME.rf
  have gL := hw.2.2.1.1
  refine j_aload_n (pc := 0) C dX10_reform_0 rfl 0 rfl ?_
  refine j_aload_n (pc := 1) C dX10_reform_1 rfl 0 rfl ?_
  refine j_iload_n (pc := 2) C dX10_reform_2 rfl 1 rfl ?_
  refine j_callV (pc := 3) C [.int x] [.ref (x9 0)] (rm0 := ({ frames := 2, cells := 0, slots := 0, locals := 43 } : Room)) (k' := 0) (n' := 0) Q.1 (c_X10_isLexeme (xl X) (xw X) hs hw x) mp_X10_isLexeme wm_1203 hs.2.1.1 rfl rfl (by decide) rfl rfl (Nat.le_of_ble_eq_true rfl) dX10_reform_3 ⟨by decide, by decide⟩ ⟨Nat.le_of_ble_eq_true rfl, Nat.le_of_ble_eq_true rfl⟩ rfl rfl (det1 ?_)
  refine jb_if_ne (pc := 6) C 13 (b := isLex S x) dX10_reform_6 (by decide) (fun c1 => ?_) (fun c1 => ?_)
  · have c1k := c1
    have hlx : inI x (nL S) = true ∧ th S (xN x) = 1 := by
      unfold isLex at c1
      rw [Bool.and_eq_true, decide_eq_true_iff] at c1
      exact c1
    obtain ⟨hx1, hx2⟩ := inI_t hlx.1
    rw [hx2]
    refine j_aload_n (pc := 13) C dX10_reform_13 rfl 0 rfl ?_
    refine j_callV (pc := 14) C [] [.ref (x9 0)] (rm0 := ({ frames := 2, cells := 0, slots := 0, locals := 43 } : Room)) (k' := 0) (n' := 0) Q.1 (c_X10_isForm (xl X) (xw X) hs hw) mp_X10_isForm wm_1191 hs.2.1.1 rfl rfl (by decide) rfl rfl (Nat.le_of_ble_eq_true rfl) dX10_reform_14 ⟨by decide, by decide⟩ ⟨Nat.le_of_ble_eq_true rfl, Nat.le_of_ble_eq_true rfl⟩ rfl rfl (det1 ?_)
    refine jb_if_ne (pc := 17) C 24 (b := isForm9 S) dX10_reform_17 (by decide) (fun c2 => ?_) (fun c2 => ?_)
    · refine j_iconst (pc := 24) C (nI 0) dX10_reform_24 (by decide) ?_
      refine j_callV (pc := 25) C [.int (nI 0)] [] (rm0 := ({ frames := 2, cells := 0, slots := 0, locals := 43 } : Room)) (k' := 0) (n' := 0) Q.1 (c_X10_holds (xl X) (xw X) hs (nI 0)) mp_X10_holds wm_1156 hs.2.1.1 rfl rfl (by decide) rfl rfl (Nat.le_of_ble_eq_true rfl) dX10_reform_25 ⟨by decide, by decide⟩ ⟨Nat.le_of_ble_eq_true rfl, Nat.le_of_ble_eq_true rfl⟩ rfl rfl (fun v9 σ1 hp9 => ?_)
      obtain ⟨rfl, hs, hme9⟩ := hp9
      have hme := hme.tr hme9
      show J X 0 0 σ1 [(0, .ref (x9 0)), (1, .int (nI (xN x)))] [.int (bI (decide (nI 0 = 0)))] 28
      refine j_topi (bI true) (by decide) ?_
      refine j_if_eq (pc := 28) C 41 dX10_reform_28 (by decide) (fun q => absurd q (by decide)) (fun _ => ?_)
      refine j_aload_n (pc := 31) C dX10_reform_31 rfl 0 rfl ?_
      refine j_getA (pc := 32) C fp_X10_22 hs.2.1.1 rfl (f := 648) rfl (12, 408) (x9 8) ((hs.2.1.2 8 (by decide) (by decide)).1) ((hs.2.1.2 8 (by decide) (by decide)).2.1) dX10_reform_32 ?_
      refine j_iload_n (pc := 35) C dX10_reform_35 rfl 1 rfl ?_
      refine j_aload_n (pc := 36) C dX10_reform_36 rfl 0 rfl ?_
      refine j_callV (pc := 37) C [] [.int (nI (xN x)), .ref (x9 8)] (rm0 := ({ frames := 2, cells := 0, slots := 0, locals := 43 } : Room)) (k' := 0) (n' := 0) Q.1 (c_X10_takesDraft (xl X) (xw X) hs) mp_X10_takesDraft wm_1183 hs.2.1.1 rfl rfl (by decide) rfl rfl (Nat.le_of_ble_eq_true rfl) dX10_reform_37 ⟨by decide, by decide⟩ ⟨Nat.le_of_ble_eq_true rfl, Nat.le_of_ble_eq_true rfl⟩ rfl rfl (fun v9 σ2 hp9 => ?_)
      obtain ⟨rfl, hs, hme9⟩ := hp9
      have hme := hme.tr hme9
      show J X 0 0 σ2 [(0, .ref (x9 0)), (1, .int (nI (xN x)))] [.long (enc4 (dr S)), .int (nI (xN x)), .ref (x9 8)] 40
      refine j_last (pc := 40) C (p := xN x) (M := 16) ((hs.2.1.2 8 (by decide) (by decide)).2.1) rfl ((hs.2.1.2 8 (by decide) (by decide)).2.2) (by omega) (by decide) dX10_reform_40 ?_
      have hs := hs.wL 768 408 (xN x) (some (dr S)) (enc4 (dr S)) (by decide) (by decide) rfl; have hme := hme.sL (f := 768) (i := 408) (j := (xN x)) (v := (enc4 (dr S))) rfl
      generalize sL σ2 768 408 (xN x) (enc4 (dr S)) = σ3 at hs hme ⊢
      exact j_vreturn (pc := 41) C Q dX10_reform_41 (Nat.le_of_ble_eq_true rfl) (Nat.le_of_ble_eq_true rfl) (by unfold s_reform; rw [if_neg (by rw [c1k]; decide), if_neg (by rw [c2]; decide)]; exact ⟨rfl, hs, hme⟩)
    · refine j_iconst (pc := 20) C (nI 2) dX10_reform_20 (by decide) ?_
      refine j_goto (pc := 21) C 25 dX10_reform_21 (by decide) ?_
      refine j_callV (pc := 25) C [.int (nI 2)] [] (rm0 := ({ frames := 2, cells := 0, slots := 0, locals := 43 } : Room)) (k' := 0) (n' := 0) Q.1 (c_X10_holds (xl X) (xw X) hs (nI 2)) mp_X10_holds wm_1156 hs.2.1.1 rfl rfl (by decide) rfl rfl (Nat.le_of_ble_eq_true rfl) dX10_reform_25 ⟨by decide, by decide⟩ ⟨Nat.le_of_ble_eq_true rfl, Nat.le_of_ble_eq_true rfl⟩ rfl rfl (fun v9 σ4 hp9 => ?_)
      obtain ⟨rfl, hs, hme9⟩ := hp9
      have hme := hme.tr hme9
      show J X 0 0 σ4 [(0, .ref (x9 0)), (1, .int (nI (xN x)))] [.int (bI (decide (nI 2 = 0)))] 28
      refine j_topi (bI false) (by decide) ?_
      refine j_if_eq (pc := 28) C 41 dX10_reform_28 (by decide) (fun _ => ?_) (fun q => absurd q (by decide))
      exact j_vreturn (pc := 41) C Q dX10_reform_41 (Nat.le_of_ble_eq_true rfl) (Nat.le_of_ble_eq_true rfl) (by unfold s_reform; rw [if_neg (by rw [c1k]; decide), if_pos c2]; exact ⟨rfl, hs, hme⟩)
  · refine j_iconst (pc := 9) C (nI 1) dX10_reform_9 (by decide) ?_
    refine j_goto (pc := 10) C 25 dX10_reform_10 (by decide) ?_
    refine j_callV (pc := 25) C [.int (nI 1)] [] (rm0 := ({ frames := 2, cells := 0, slots := 0, locals := 43 } : Room)) (k' := 0) (n' := 0) Q.1 (c_X10_holds (xl X) (xw X) hs (nI 1)) mp_X10_holds wm_1156 hs.2.1.1 rfl rfl (by decide) rfl rfl (Nat.le_of_ble_eq_true rfl) dX10_reform_25 ⟨by decide, by decide⟩ ⟨Nat.le_of_ble_eq_true rfl, Nat.le_of_ble_eq_true rfl⟩ rfl rfl (fun v9 σ5 hp9 => ?_)
    obtain ⟨rfl, hs, hme9⟩ := hp9
    have hme := hme.tr hme9
    show J X 0 0 σ5 [(0, .ref (x9 0)), (1, .int x)] [.int (bI (decide (nI 1 = 0)))] 28
    refine j_topi (bI false) (by decide) ?_
    refine j_if_eq (pc := 28) C 41 dX10_reform_28 (by decide) (fun _ => ?_) (fun q => absurd q (by decide))
    exact j_vreturn (pc := 41) C Q dX10_reform_41 (Nat.le_of_ble_eq_true rfl) (Nat.le_of_ble_eq_true rfl) (by unfold s_reform; rw [if_pos c1]; exact ⟨rfl, hs, hme⟩)
set_option maxHeartbeats 4000000 in
set_option maxRecDepth 100000 in
theorem c_X10_ending (L9 : Launch) (w9 : Wd) {σ : HS} {S : SP} {x9 : Nat → Nat} {k9 : Int32} (hs : RS S x9 k9 σ) (hw : WF S) (x : Int32) : MJ L9 w9 yX10_ending cX10_ending 2 none ({ frames := 2, cells := 0, slots := 0, locals := 42 } : Room) [.ref (x9 0), .int x] σ (fun a9 σ' => a9 = none ∧ RS (s_ending S x).2.2 x9 (nI (s_ending S x).1) σ' ∧ ME σ σ') := by
  refine MJ.of (by decide +kernel) (Nat.le_of_ble_eq_true rfl) (fun X hX1 hX2 C Q hinit => ?_)
  subst hX1; subst hX2
  show J X 0 0 σ [(0, .ref (x9 0)), (1, .int x)] [] 0
  have hme : ME σ σ := ME.rf
  have g8 := (WF_drR hw).1
  refine j_aload_n (pc := 0) C dX10_ending_0 rfl 0 rfl ?_
  refine j_iload_n (pc := 1) C dX10_ending_1 rfl 1 rfl ?_
  refine j_callS (pc := 2) C [.int x] [.ref (x9 0)] (rm0 := ({ frames := 2, cells := 0, slots := 0, locals := 42 } : Room)) (k' := 0) (n' := 0) Q.1 (c_X10_isCell (xl X) (xw X) x) mp_X10_isCell wm_1211 rfl rfl (Nat.le_of_ble_eq_true rfl) dX10_ending_2 ⟨by decide, by decide⟩ ⟨Nat.le_of_ble_eq_true rfl, Nat.le_of_ble_eq_true rfl⟩ rfl rfl (det1 ?_)
  refine jb_if_ne (pc := 5) C 12 (b := inI x 8) dX10_ending_5 (by decide) (fun c1 => ?_) (fun c1 => ?_)
  · obtain ⟨hx1, hx2⟩ := inI_t c1
    rw [hx2]
    refine j_aload_n (pc := 12) C dX10_ending_12 rfl 0 rfl ?_
    refine j_getL (pc := 13) C fp_X10_105 hs.2.1.1 rfl (f := 647) rfl dX10_ending_13 ?_
    refine j_topl (enc4 (dr S)) (hs.rdL 647 0 0 (by decide) (by decide)) ?_
    refine j_callS (pc := 16) C [.long (enc4 (dr S))] [.ref (x9 0)] (rm0 := ({ frames := 2, cells := 0, slots := 0, locals := 42 } : Room)) (k' := 0) (n' := 0) Q.1 (c_X10_size (xl X) (xw X) (WF_drR hw)) mp_X10_size wm_1172 rfl rfl (Nat.le_of_ble_eq_true rfl) dX10_ending_16 ⟨by decide, by decide⟩ ⟨Nat.le_of_ble_eq_true rfl, Nat.le_of_ble_eq_true rfl⟩ rfl rfl (det1 ?_)
    refine j_iconst (pc := 19) C (nI 2) dX10_ending_19 (by decide) ?_
    refine jn_icmp_le (pc := 20) C 27 (a := (dr S).length) (b := 2) (by omega) (by omega) dX10_ending_20 (by decide) (fun c2 => ?_) (fun c2 => ?_)
    · refine j_iconst (pc := 27) C (nI 0) dX10_ending_27 (by decide) ?_
      refine j_callV (pc := 28) C [.int (nI 0)] [] (rm0 := ({ frames := 2, cells := 0, slots := 0, locals := 42 } : Room)) (k' := 0) (n' := 0) Q.1 (c_X10_holds (xl X) (xw X) hs (nI 0)) mp_X10_holds wm_1156 hs.2.1.1 rfl rfl (by decide) rfl rfl (Nat.le_of_ble_eq_true rfl) dX10_ending_28 ⟨by decide, by decide⟩ ⟨Nat.le_of_ble_eq_true rfl, Nat.le_of_ble_eq_true rfl⟩ rfl rfl (fun v9 σ1 hp9 => ?_)
      obtain ⟨rfl, hs, hme9⟩ := hp9
      have hme := hme.tr hme9
      show J X 0 0 σ1 [(0, .ref (x9 0)), (1, .int (nI (xN x)))] [.int (bI (decide (nI 0 = 0)))] 31
      refine j_topi (bI true) (by decide) ?_
      refine j_if_eq (pc := 31) C 44 dX10_ending_31 (by decide) (fun q => absurd q (by decide)) (fun _ => ?_)
      refine j_aload_n (pc := 34) C dX10_ending_34 rfl 0 rfl ?_
      refine j_getA (pc := 35) C fp_X10_30 hs.2.1.1 rfl (f := 651) rfl (12, 411) (x9 11) ((hs.2.1.2 11 (by decide) (by decide)).1) ((hs.2.1.2 11 (by decide) (by decide)).2.1) dX10_ending_35 ?_
      refine j_iload_n (pc := 38) C dX10_ending_38 rfl 1 rfl ?_
      refine j_aload_n (pc := 39) C dX10_ending_39 rfl 0 rfl ?_
      refine j_callV (pc := 40) C [] [.int (nI (xN x)), .ref (x9 11)] (rm0 := ({ frames := 2, cells := 0, slots := 0, locals := 42 } : Room)) (k' := 0) (n' := 0) Q.1 (c_X10_takesDraft (xl X) (xw X) hs) mp_X10_takesDraft wm_1183 hs.2.1.1 rfl rfl (by decide) rfl rfl (Nat.le_of_ble_eq_true rfl) dX10_ending_40 ⟨by decide, by decide⟩ ⟨Nat.le_of_ble_eq_true rfl, Nat.le_of_ble_eq_true rfl⟩ rfl rfl (fun v9 σ2 hp9 => ?_)
      obtain ⟨rfl, hs, hme9⟩ := hp9
      have hme := hme.tr hme9
      show J X 0 0 σ2 [(0, .ref (x9 0)), (1, .int (nI (xN x)))] [.long (enc4 (dr S)), .int (nI (xN x)), .ref (x9 11)] 43
      refine j_last (pc := 43) C (p := xN x) (M := 8) ((hs.2.1.2 11 (by decide) (by decide)).2.1) rfl ((hs.2.1.2 11 (by decide) (by decide)).2.2) (by omega) (by decide) dX10_ending_43 ?_
      have hs := hs.wL 768 411 (xN x) (some (dr S)) (enc4 (dr S)) (by decide) (by decide) rfl; have hme := hme.sL (f := 768) (i := 411) (j := (xN x)) (v := (enc4 (dr S))) rfl
      generalize sL σ2 768 411 (xN x) (enc4 (dr S)) = σ3 at hs hme ⊢
      exact j_vreturn (pc := 44) C Q dX10_ending_44 (Nat.le_of_ble_eq_true rfl) (Nat.le_of_ble_eq_true rfl) (by unfold s_ending; rw [if_neg (by rw [c1]; decide), if_neg (by omega)]; exact ⟨rfl, hs, hme⟩)
    · refine j_iconst (pc := 23) C (nI 2) dX10_ending_23 (by decide) ?_
      refine j_goto (pc := 24) C 28 dX10_ending_24 (by decide) ?_
      refine j_callV (pc := 28) C [.int (nI 2)] [] (rm0 := ({ frames := 2, cells := 0, slots := 0, locals := 42 } : Room)) (k' := 0) (n' := 0) Q.1 (c_X10_holds (xl X) (xw X) hs (nI 2)) mp_X10_holds wm_1156 hs.2.1.1 rfl rfl (by decide) rfl rfl (Nat.le_of_ble_eq_true rfl) dX10_ending_28 ⟨by decide, by decide⟩ ⟨Nat.le_of_ble_eq_true rfl, Nat.le_of_ble_eq_true rfl⟩ rfl rfl (fun v9 σ4 hp9 => ?_)
      obtain ⟨rfl, hs, hme9⟩ := hp9
      have hme := hme.tr hme9
      show J X 0 0 σ4 [(0, .ref (x9 0)), (1, .int (nI (xN x)))] [.int (bI (decide (nI 2 = 0)))] 31
      refine j_topi (bI false) (by decide) ?_
      refine j_if_eq (pc := 31) C 44 dX10_ending_31 (by decide) (fun _ => ?_) (fun q => absurd q (by decide))
      exact j_vreturn (pc := 44) C Q dX10_ending_44 (Nat.le_of_ble_eq_true rfl) (Nat.le_of_ble_eq_true rfl) (by unfold s_ending; rw [if_neg (by rw [c1]; decide), if_pos c2]; exact ⟨rfl, hs, hme⟩)
  · refine j_iconst (pc := 8) C (nI 1) dX10_ending_8 (by decide) ?_
    refine j_goto (pc := 9) C 28 dX10_ending_9 (by decide) ?_
    refine j_callV (pc := 28) C [.int (nI 1)] [] (rm0 := ({ frames := 2, cells := 0, slots := 0, locals := 42 } : Room)) (k' := 0) (n' := 0) Q.1 (c_X10_holds (xl X) (xw X) hs (nI 1)) mp_X10_holds wm_1156 hs.2.1.1 rfl rfl (by decide) rfl rfl (Nat.le_of_ble_eq_true rfl) dX10_ending_28 ⟨by decide, by decide⟩ ⟨Nat.le_of_ble_eq_true rfl, Nat.le_of_ble_eq_true rfl⟩ rfl rfl (fun v9 σ5 hp9 => ?_)
    obtain ⟨rfl, hs, hme9⟩ := hp9
    have hme := hme.tr hme9
    show J X 0 0 σ5 [(0, .ref (x9 0)), (1, .int x)] [.int (bI (decide (nI 1 = 0)))] 31
    refine j_topi (bI false) (by decide) ?_
    refine j_if_eq (pc := 31) C 44 dX10_ending_31 (by decide) (fun _ => ?_) (fun q => absurd q (by decide))
    exact j_vreturn (pc := 44) C Q dX10_ending_44 (Nat.le_of_ble_eq_true rfl) (Nat.le_of_ble_eq_true rfl) (by unfold s_ending; rw [if_pos c1]; exact ⟨rfl, hs, hme⟩)
set_option maxHeartbeats 4000000 in
set_option maxRecDepth 100000 in
theorem c_X10_hear (L9 : Launch) (w9 : Wd) {σ : HS} {S : SP} {x9 : Nat → Nat} {k9 : Int32} (hs : RS S x9 k9 σ) (hw : WF S) (x c p : Int32) : MJ L9 w9 yX10_hear cX10_hear 5 (some .int) ({ frames := 2, cells := 0, slots := 0, locals := 43 } : Room) [.ref (x9 0), .int x, .int c, .int p] σ (fun a9 σ' => a9 = some (.int (s_hear S x c p).2.1) ∧ RS (s_hear S x c p).2.2 x9 (nI (s_hear S x c p).1) σ' ∧ ME σ σ') := by
  refine MJ.of (by decide +kernel) (Nat.le_of_ble_eq_true rfl) (fun X hX1 hX2 C Q hinit => ?_)
  subst hX1; subst hX2
  show J X 0 0 σ [(0, .ref (x9 0)), (1, .int x), (2, .int c), (3, .int p)] [] 0
  have hme : ME σ σ := ME.rf
  have gL := hw.2.2.1.1
  have gW := hw.2.2.2.1.1
  refine j_aload_n (pc := 0) C dX10_hear_0 rfl 0 rfl ?_
  refine j_iload_n (pc := 1) C dX10_hear_1 rfl 1 rfl ?_
  refine j_callV (pc := 2) C [.int x] [] (rm0 := ({ frames := 2, cells := 0, slots := 0, locals := 43 } : Room)) (k' := 0) (n' := 0) Q.1 (c_X10_isLexeme (xl X) (xw X) hs hw x) mp_X10_isLexeme wm_1203 hs.2.1.1 rfl rfl (by decide) rfl rfl (Nat.le_of_ble_eq_true rfl) dX10_hear_2 ⟨by decide, by decide⟩ ⟨Nat.le_of_ble_eq_true rfl, Nat.le_of_ble_eq_true rfl⟩ rfl rfl (det1 ?_)
  refine jb_if_eq (pc := 5) C 28 (b := isLex S x) dX10_hear_5 (by decide) (fun c1 => ?_) (fun c1 => ?_)
  · refine j_iconst (pc := 28) C (nI 0) dX10_hear_28 (by decide) ?_
    refine j_istore (pc := 29) C [(4, .int (nI 0)), (0, .ref (x9 0)), (1, .int x), (2, .int c), (3, .int p)] dX10_hear_29 (by decide) rfl ?_
    refine j_aload_n (pc := 31) C dX10_hear_31 rfl 1 rfl ?_
    refine j_iload (pc := 32) C dX10_hear_32 0 rfl ?_
    refine j_if_ne (pc := 34) C 41 dX10_hear_34 (by decide) (fun q => absurd q (by decide)) (fun _ => ?_)
    refine j_iconst (pc := 37) C (nI 1) dX10_hear_37 (by decide) ?_
    refine j_goto (pc := 38) C 55 dX10_hear_38 (by decide) ?_
    refine j_callV (pc := 55) C [.int (nI 1)] [] (rm0 := ({ frames := 2, cells := 0, slots := 0, locals := 43 } : Room)) (k' := 0) (n' := 0) Q.1 (c_X10_holds (xl X) (xw X) hs (nI 1)) mp_X10_holds wm_1156 hs.2.1.1 rfl rfl (by decide) rfl rfl (Nat.le_of_ble_eq_true rfl) dX10_hear_55 ⟨by decide, by decide⟩ ⟨Nat.le_of_ble_eq_true rfl, Nat.le_of_ble_eq_true rfl⟩ rfl rfl (fun v9 σ1 hp9 => ?_)
    obtain ⟨rfl, hs, hme9⟩ := hp9
    have hme := hme.tr hme9
    show J X 0 0 σ1 [(4, .int (nI 0)), (0, .ref (x9 0)), (1, .int x), (2, .int c), (3, .int p)] [.int (bI (decide (nI 1 = 0)))] 58
    refine j_topi (bI false) (by decide) ?_
    refine j_if_ne (pc := 58) C 63 dX10_hear_58 (by decide) (fun q => absurd q (by decide)) (fun _ => ?_)
    refine j_iconst (pc := 61) C (nI 0) dX10_hear_61 (by decide) ?_
    exact j_ireturn (pc := 62) C Q dX10_hear_62 (Nat.le_of_ble_eq_true rfl) (Nat.le_of_ble_eq_true rfl) (by unfold s_hear; rw [if_pos (by rw [c1]; rfl)]; exact ⟨rfl, hs, hme⟩)
  · have c1k := c1
    have hlx : inI x (nL S) = true ∧ th S (xN x) = 1 := by
      unfold isLex at c1
      rw [Bool.and_eq_true, decide_eq_true_iff] at c1
      exact c1
    obtain ⟨hx1, hx2⟩ := inI_t hlx.1
    rw [hx2]
    refine j_iload_n (pc := 8) C dX10_hear_8 rfl 2 rfl ?_
    refine j_callS (pc := 9) C [.int c] [] (rm0 := ({ frames := 2, cells := 0, slots := 0, locals := 43 } : Room)) (k' := 0) (n' := 0) Q.1 (c_X10_isCell (xl X) (xw X) c) mp_X10_isCell wm_1211 rfl rfl (Nat.le_of_ble_eq_true rfl) dX10_hear_9 ⟨by decide, by decide⟩ ⟨Nat.le_of_ble_eq_true rfl, Nat.le_of_ble_eq_true rfl⟩ rfl rfl (det1 ?_)
    refine jb_if_eq (pc := 12) C 28 (b := inI c 8) dX10_hear_12 (by decide) (fun c2 => ?_) (fun c2 => ?_)
    · refine j_iconst (pc := 28) C (nI 0) dX10_hear_28 (by decide) ?_
      refine j_istore (pc := 29) C [(4, .int (nI 0)), (0, .ref (x9 0)), (1, .int (nI (xN x))), (2, .int c), (3, .int p)] dX10_hear_29 (by decide) rfl ?_
      refine j_aload_n (pc := 31) C dX10_hear_31 rfl 1 rfl ?_
      refine j_iload (pc := 32) C dX10_hear_32 0 rfl ?_
      refine j_if_ne (pc := 34) C 41 dX10_hear_34 (by decide) (fun q => absurd q (by decide)) (fun _ => ?_)
      refine j_iconst (pc := 37) C (nI 1) dX10_hear_37 (by decide) ?_
      refine j_goto (pc := 38) C 55 dX10_hear_38 (by decide) ?_
      refine j_callV (pc := 55) C [.int (nI 1)] [] (rm0 := ({ frames := 2, cells := 0, slots := 0, locals := 43 } : Room)) (k' := 0) (n' := 0) Q.1 (c_X10_holds (xl X) (xw X) hs (nI 1)) mp_X10_holds wm_1156 hs.2.1.1 rfl rfl (by decide) rfl rfl (Nat.le_of_ble_eq_true rfl) dX10_hear_55 ⟨by decide, by decide⟩ ⟨Nat.le_of_ble_eq_true rfl, Nat.le_of_ble_eq_true rfl⟩ rfl rfl (fun v9 σ2 hp9 => ?_)
      obtain ⟨rfl, hs, hme9⟩ := hp9
      have hme := hme.tr hme9
      show J X 0 0 σ2 [(4, .int (nI 0)), (0, .ref (x9 0)), (1, .int (nI (xN x))), (2, .int c), (3, .int p)] [.int (bI (decide (nI 1 = 0)))] 58
      refine j_topi (bI false) (by decide) ?_
      refine j_if_ne (pc := 58) C 63 dX10_hear_58 (by decide) (fun q => absurd q (by decide)) (fun _ => ?_)
      refine j_iconst (pc := 61) C (nI 0) dX10_hear_61 (by decide) ?_
      exact j_ireturn (pc := 62) C Q dX10_hear_62 (Nat.le_of_ble_eq_true rfl) (Nat.le_of_ble_eq_true rfl) (by unfold s_hear; rw [if_pos (by rw [c1k, c2]; rfl)]; exact ⟨rfl, hs, hme⟩)
    · obtain ⟨hc1, hc2⟩ := inI_t c2
      rw [hc2]
      refine j_iload_n (pc := 15) C dX10_hear_15 rfl 3 rfl ?_
      refine j_iconst (pc := 16) C (nI 0) dX10_hear_16 (by decide) ?_
      refine j_iconst (pc := 17) C (nI 3) dX10_hear_17 (by decide) ?_
      refine j_callS (pc := 18) C [.int p, .int (nI 0), .int (nI 3)] [] (rm0 := ({ frames := 2, cells := 0, slots := 0, locals := 43 } : Room)) (k' := 0) (n' := 0) Q.1 (c_X10_isIn (xl X) (xw X) _ _ _ _ (in_of p (by decide))) mp_X10_isIn wm_1153 rfl rfl (Nat.le_of_ble_eq_true rfl) dX10_hear_18 ⟨by decide, by decide⟩ ⟨Nat.le_of_ble_eq_true rfl, Nat.le_of_ble_eq_true rfl⟩ rfl rfl (det1 ?_)
      refine jb_if_eq (pc := 21) C 28 (b := inI p 4) dX10_hear_21 (by decide) (fun c3 => ?_) (fun c3 => ?_)
      · refine j_iconst (pc := 28) C (nI 0) dX10_hear_28 (by decide) ?_
        refine j_istore (pc := 29) C [(4, .int (nI 0)), (0, .ref (x9 0)), (1, .int (nI (xN x))), (2, .int (nI (xN c))), (3, .int p)] dX10_hear_29 (by decide) rfl ?_
        refine j_aload_n (pc := 31) C dX10_hear_31 rfl 1 rfl ?_
        refine j_iload (pc := 32) C dX10_hear_32 0 rfl ?_
        refine j_if_ne (pc := 34) C 41 dX10_hear_34 (by decide) (fun q => absurd q (by decide)) (fun _ => ?_)
        refine j_iconst (pc := 37) C (nI 1) dX10_hear_37 (by decide) ?_
        refine j_goto (pc := 38) C 55 dX10_hear_38 (by decide) ?_
        refine j_callV (pc := 55) C [.int (nI 1)] [] (rm0 := ({ frames := 2, cells := 0, slots := 0, locals := 43 } : Room)) (k' := 0) (n' := 0) Q.1 (c_X10_holds (xl X) (xw X) hs (nI 1)) mp_X10_holds wm_1156 hs.2.1.1 rfl rfl (by decide) rfl rfl (Nat.le_of_ble_eq_true rfl) dX10_hear_55 ⟨by decide, by decide⟩ ⟨Nat.le_of_ble_eq_true rfl, Nat.le_of_ble_eq_true rfl⟩ rfl rfl (fun v9 σ3 hp9 => ?_)
        obtain ⟨rfl, hs, hme9⟩ := hp9
        have hme := hme.tr hme9
        show J X 0 0 σ3 [(4, .int (nI 0)), (0, .ref (x9 0)), (1, .int (nI (xN x))), (2, .int (nI (xN c))), (3, .int p)] [.int (bI (decide (nI 1 = 0)))] 58
        refine j_topi (bI false) (by decide) ?_
        refine j_if_ne (pc := 58) C 63 dX10_hear_58 (by decide) (fun q => absurd q (by decide)) (fun _ => ?_)
        refine j_iconst (pc := 61) C (nI 0) dX10_hear_61 (by decide) ?_
        exact j_ireturn (pc := 62) C Q dX10_hear_62 (Nat.le_of_ble_eq_true rfl) (Nat.le_of_ble_eq_true rfl) (by unfold s_hear; rw [if_pos (by rw [c1k, c2, c3]; rfl)]; exact ⟨rfl, hs, hme⟩)
      · obtain ⟨hp1, hp2⟩ := inI_t c3
        rw [hp2]
        refine j_iconst (pc := 24) C (nI 1) dX10_hear_24 (by decide) ?_
        refine j_goto (pc := 25) C 29 dX10_hear_25 (by decide) ?_
        refine j_istore (pc := 29) C [(4, .int (nI 1)), (0, .ref (x9 0)), (1, .int (nI (xN x))), (2, .int (nI (xN c))), (3, .int (nI (xN p)))] dX10_hear_29 (by decide) rfl ?_
        refine j_aload_n (pc := 31) C dX10_hear_31 rfl 1 rfl ?_
        refine j_iload (pc := 32) C dX10_hear_32 0 rfl ?_
        refine j_if_ne (pc := 34) C 41 dX10_hear_34 (by decide) (fun _ => ?_) (fun q => absurd q (by decide))
        refine j_aload_n (pc := 41) C dX10_hear_41 rfl 1 rfl ?_
        refine j_getI (pc := 42) C fp_X10_187 hs.2.1.1 rfl (f := 666) rfl dX10_hear_42 ?_
        refine j_topi (nI (nW S)) (hs.rdI 666 0 0 (by decide) (by decide)) ?_
        refine j_bipush (pc := 45) C (nI 40) dX10_hear_45 (by decide) ?_
        refine jn_icmp_ne (pc := 47) C 54 (a := nW S) (b := 40) (by omega) (by omega) dX10_hear_47 (by decide) (fun c4 => ?_) (fun c4 => ?_)
        · refine j_iconst (pc := 54) C (nI 0) dX10_hear_54 (by decide) ?_
          refine j_callV (pc := 55) C [.int (nI 0)] [] (rm0 := ({ frames := 2, cells := 0, slots := 0, locals := 43 } : Room)) (k' := 0) (n' := 0) Q.1 (c_X10_holds (xl X) (xw X) hs (nI 0)) mp_X10_holds wm_1156 hs.2.1.1 rfl rfl (by decide) rfl rfl (Nat.le_of_ble_eq_true rfl) dX10_hear_55 ⟨by decide, by decide⟩ ⟨Nat.le_of_ble_eq_true rfl, Nat.le_of_ble_eq_true rfl⟩ rfl rfl (fun v9 σ4 hp9 => ?_)
          obtain ⟨rfl, hs, hme9⟩ := hp9
          have hme := hme.tr hme9
          show J X 0 0 σ4 [(4, .int (nI 1)), (0, .ref (x9 0)), (1, .int (nI (xN x))), (2, .int (nI (xN c))), (3, .int (nI (xN p)))] [.int (bI (decide (nI 0 = 0)))] 58
          refine j_topi (bI true) (by decide) ?_
          refine j_if_ne (pc := 58) C 63 dX10_hear_58 (by decide) (fun _ => ?_) (fun q => absurd q (by decide))
          refine j_aload_n (pc := 63) C dX10_hear_63 rfl 1 rfl ?_
          refine j_getA (pc := 64) C fp_X10_51 hs.2.1.1 rfl (f := 661) rfl (11, 31) (x9 21) ((hs.2.1.2 21 (by decide) (by decide)).1) ((hs.2.1.2 21 (by decide) (by decide)).2.1) dX10_hear_64 ?_
          refine j_aload_n (pc := 67) C dX10_hear_67 rfl 1 rfl ?_
          refine j_getI (pc := 68) C fp_X10_187 hs.2.1.1 rfl (f := 666) rfl dX10_hear_68 ?_
          refine j_topi (nI (nW S)) (hs.rdI 666 0 0 (by decide) (by decide)) ?_
          refine j_iload_n (pc := 71) C dX10_hear_71 rfl 2 rfl ?_
          refine j_iast (pc := 72) C (p := nW S) (M := 40) ((hs.2.1.2 21 (by decide) (by decide)).2.1) rfl ((hs.2.1.2 21 (by decide) (by decide)).2.2) (by omega) (by decide) dX10_hear_72 ?_
          have hs := hs.wI 704 31 (nW S) (xN x) (by decide) (by decide)
          have hme := hme.sI (f := 704) (i := 31) (j := (nW S)) (v := (nI (xN x))) rfl
          generalize sI σ4 704 31 (nW S) (nI (xN x)) = σ5 at hs hme ⊢
          refine j_aload_n (pc := 73) C dX10_hear_73 rfl 1 rfl ?_
          refine j_getA (pc := 74) C fp_X10_54 hs.2.1.1 rfl (f := 662) rfl (11, 32) (x9 22) ((hs.2.1.2 22 (by decide) (by decide)).1) ((hs.2.1.2 22 (by decide) (by decide)).2.1) dX10_hear_74 ?_
          refine j_aload_n (pc := 77) C dX10_hear_77 rfl 1 rfl ?_
          refine j_getI (pc := 78) C fp_X10_187 hs.2.1.1 rfl (f := 666) rfl dX10_hear_78 ?_
          refine j_topi (nI (nW S)) (hs.rdI 666 0 0 (by decide) (by decide)) ?_
          refine j_iload_n (pc := 81) C dX10_hear_81 rfl 3 rfl ?_
          refine j_iast (pc := 82) C (p := nW S) (M := 40) ((hs.2.1.2 22 (by decide) (by decide)).2.1) rfl ((hs.2.1.2 22 (by decide) (by decide)).2.2) (by omega) (by decide) dX10_hear_82 ?_
          have hs := hs.wI 704 32 (nW S) (xN c) (by decide) (by decide)
          have hme := hme.sI (f := 704) (i := 32) (j := (nW S)) (v := (nI (xN c))) rfl
          generalize sI σ5 704 32 (nW S) (nI (xN c)) = σ6 at hs hme ⊢
          refine j_aload_n (pc := 83) C dX10_hear_83 rfl 1 rfl ?_
          refine j_getA (pc := 84) C fp_X10_57 hs.2.1.1 rfl (f := 663) rfl (11, 33) (x9 23) ((hs.2.1.2 23 (by decide) (by decide)).1) ((hs.2.1.2 23 (by decide) (by decide)).2.1) dX10_hear_84 ?_
          refine j_aload_n (pc := 87) C dX10_hear_87 rfl 1 rfl ?_
          refine j_getI (pc := 88) C fp_X10_187 hs.2.1.1 rfl (f := 666) rfl dX10_hear_88 ?_
          refine j_topi (nI (nW S)) (hs.rdI 666 0 0 (by decide) (by decide)) ?_
          refine j_iload_n (pc := 91) C dX10_hear_91 rfl 4 rfl ?_
          refine j_iast (pc := 92) C (p := nW S) (M := 40) ((hs.2.1.2 23 (by decide) (by decide)).2.1) rfl ((hs.2.1.2 23 (by decide) (by decide)).2.2) (by omega) (by decide) dX10_hear_92 ?_
          have hs := hs.wI 704 33 (nW S) (xN p) (by decide) (by decide)
          have hme := hme.sI (f := 704) (i := 33) (j := (nW S)) (v := (nI (xN p))) rfl
          generalize sI σ6 704 33 (nW S) (nI (xN p)) = σ7 at hs hme ⊢
          refine j_aload_n (pc := 93) C dX10_hear_93 rfl 1 rfl ?_
          refine j_getA (pc := 94) C fp_X10_60 hs.2.1.1 rfl (f := 664) rfl (12, 424) (x9 24) ((hs.2.1.2 24 (by decide) (by decide)).1) ((hs.2.1.2 24 (by decide) (by decide)).2.1) dX10_hear_94 ?_
          refine j_aload_n (pc := 97) C dX10_hear_97 rfl 1 rfl ?_
          refine j_getI (pc := 98) C fp_X10_187 hs.2.1.1 rfl (f := 666) rfl dX10_hear_98 ?_
          refine j_topi (nI (nW S)) (hs.rdI 666 0 0 (by decide) (by decide)) ?_
          refine j_aload_n (pc := 101) C dX10_hear_101 rfl 1 rfl ?_
          refine j_callV (pc := 102) C [] [.int (nI (nW S)), .ref (x9 24)] (rm0 := ({ frames := 2, cells := 0, slots := 0, locals := 43 } : Room)) (k' := 0) (n' := 0) Q.1 (c_X10_takesDraft (xl X) (xw X) hs) mp_X10_takesDraft wm_1183 hs.2.1.1 rfl rfl (by decide) rfl rfl (Nat.le_of_ble_eq_true rfl) dX10_hear_102 ⟨by decide, by decide⟩ ⟨Nat.le_of_ble_eq_true rfl, Nat.le_of_ble_eq_true rfl⟩ rfl rfl (fun v9 σ8 hp9 => ?_)
          obtain ⟨rfl, hs, hme9⟩ := hp9
          have hme := hme.tr hme9
          show J X 0 0 σ8 [(4, .int (nI 1)), (0, .ref (x9 0)), (1, .int (nI (xN x))), (2, .int (nI (xN c))), (3, .int (nI (xN p)))] [.long (enc4 (dr S)), .int (nI (nW S)), .ref (x9 24)] 105
          refine j_last (pc := 105) C (p := nW S) (M := 40) ((hs.2.1.2 24 (by decide) (by decide)).2.1) rfl ((hs.2.1.2 24 (by decide) (by decide)).2.2) (by omega) (by decide) dX10_hear_105 ?_
          have hs := hs.wL 768 424 (nW S) (some (dr S)) (enc4 (dr S)) (by decide) (by decide) rfl; have hme := hme.sL (f := 768) (i := 424) (j := (nW S)) (v := (enc4 (dr S))) rfl
          generalize sL σ8 768 424 (nW S) (enc4 (dr S)) = σ9 at hs hme ⊢
          refine j_aload_n (pc := 106) C dX10_hear_106 rfl 1 rfl ?_
          refine j_getA (pc := 107) C fp_X10_63 hs.2.1.1 rfl (f := 665) rfl (13, 25) (x9 25) ((hs.2.1.2 25 (by decide) (by decide)).1) ((hs.2.1.2 25 (by decide) (by decide)).2.1) dX10_hear_107 ?_
          refine j_aload_n (pc := 110) C dX10_hear_110 rfl 1 rfl ?_
          refine j_getI (pc := 111) C fp_X10_187 hs.2.1.1 rfl (f := 666) rfl dX10_hear_111 ?_
          refine j_topi (nI (nW S)) (hs.rdI 666 0 0 (by decide) (by decide)) ?_
          refine j_iconst (pc := 114) C (nI 1) dX10_hear_114 (by decide) ?_
          refine j_zast (pc := 115) C (p := nW S) (M := 40) ((hs.2.1.2 25 (by decide) (by decide)).2.1) rfl ((hs.2.1.2 25 (by decide) (by decide)).2.2) (by omega) (by decide) (by decide) dX10_hear_115 ?_
          have hs := hs.wI 832 25 (nW S) 1 (by decide) (by decide)
          have hme := hme.sI (f := 832) (i := 25) (j := (nW S)) (v := (nI 1)) rfl
          generalize sI σ9 832 25 (nW S) (nI 1) = σ10 at hs hme ⊢
          refine j_aload_n (pc := 116) C dX10_hear_116 rfl 1 rfl ?_
          refine j_dup (pc := 117) C dX10_hear_117 rfl ?_
          refine j_getI (pc := 118) C fp_X10_187 hs.2.1.1 rfl (f := 666) rfl dX10_hear_118 ?_
          refine j_topi (nI (nW S)) (hs.rdI 666 0 0 (by decide) (by decide)) ?_
          refine j_iconst (pc := 121) C (nI 1) dX10_hear_121 (by decide) ?_
          refine j_iadd (pc := 122) C dX10_hear_122 ?_
          refine j_topi (nI (nW S + 1)) (nI_add (nW S) 1) ?_
          refine j_putI (pc := 123) C fp_X10_187 hs.2.1.1 rfl rfl (Or.inl rfl) rfl (by decide) (f := 666) rfl dX10_hear_123 ?_
          have hs := hs.wI 666 0 0 (nW S + 1) (by decide) (by decide)
          have hme := hme.sI (f := 666) (i := 0) (j := 0) (v := (nI (nW S + 1))) rfl
          generalize sI σ10 666 0 0 (nI (nW S + 1)) = σ11 at hs hme ⊢
          refine j_aload_n (pc := 126) C dX10_hear_126 rfl 1 rfl ?_
          refine j_getI (pc := 127) C fp_X10_187 hs.2.1.1 rfl (f := 666) rfl dX10_hear_127 ?_
          refine j_topi (nI (nW S + 1)) ((hs.rdI 666 0 0 (by decide) (by decide)).trans (congrArg nI zN_eq)) ?_
          refine j_iconst (pc := 130) C (nI 1) dX10_hear_130 (by decide) ?_
          refine j_isub (pc := 131) C dX10_hear_131 ?_
          refine j_topi (nI (nW S)) (pk_sub (a := nW S + 1) (b := 1) (by omega)) ?_
          exact j_ireturn (pc := 132) C Q dX10_hear_132 (Nat.le_of_ble_eq_true rfl) (Nat.le_of_ble_eq_true rfl) (by unfold s_hear; rw [if_neg (by rw [c1k, c2, c3]; decide), if_neg c4]; exact ⟨rfl, hs, hme⟩)
        · refine j_iconst (pc := 50) C (nI 2) dX10_hear_50 (by decide) ?_
          refine j_goto (pc := 51) C 55 dX10_hear_51 (by decide) ?_
          refine j_callV (pc := 55) C [.int (nI 2)] [] (rm0 := ({ frames := 2, cells := 0, slots := 0, locals := 43 } : Room)) (k' := 0) (n' := 0) Q.1 (c_X10_holds (xl X) (xw X) hs (nI 2)) mp_X10_holds wm_1156 hs.2.1.1 rfl rfl (by decide) rfl rfl (Nat.le_of_ble_eq_true rfl) dX10_hear_55 ⟨by decide, by decide⟩ ⟨Nat.le_of_ble_eq_true rfl, Nat.le_of_ble_eq_true rfl⟩ rfl rfl (fun v9 σ12 hp9 => ?_)
          obtain ⟨rfl, hs, hme9⟩ := hp9
          have hme := hme.tr hme9
          show J X 0 0 σ12 [(4, .int (nI 1)), (0, .ref (x9 0)), (1, .int (nI (xN x))), (2, .int (nI (xN c))), (3, .int (nI (xN p)))] [.int (bI (decide (nI 2 = 0)))] 58
          refine j_topi (bI false) (by decide) ?_
          refine j_if_ne (pc := 58) C 63 dX10_hear_58 (by decide) (fun q => absurd q (by decide)) (fun _ => ?_)
          refine j_iconst (pc := 61) C (nI 0) dX10_hear_61 (by decide) ?_
          exact j_ireturn (pc := 62) C Q dX10_hear_62 (Nat.le_of_ble_eq_true rfl) (Nat.le_of_ble_eq_true rfl) (by unfold s_hear; rw [if_neg (by rw [c1k, c2, c3]; decide), if_pos c4]; exact ⟨rfl, hs, hme⟩)
