set_option maxHeartbeats 4000000 in
set_option maxRecDepth 100000 in
theorem c_J13_bitCount_95d88 (L9 : Launch) (w9 : Wd) {σ : HS} {n : Nat} (hn : n < 2 ^ 64) : MJ L9 w9 yJ13_bitCount_95d88 cJ13_bitCount_95d88 2 (some .int) ({ frames := 0, cells := 0, slots := 0, locals := 0 } : Room) [.long (lN n)] σ (fun a9 σ' => a9 = some (.int (nI (cnt n 64))) ∧ σ' = σ) := by
  refine MJ.of (by decide +kernel) (Nat.le_of_ble_eq_true rfl) (fun X hX1 hX2 C Q hinit => ?_)
  subst hX1; subst hX2
  show J X 0 0 σ [(0, .long (lN n))] [] 0
  obtain ⟨a1, a2⟩ := s1_eq 32 n (by omega)
  have a3 := f2_lt n 32
  have b2 := s2_eq 16 n
  have b3 := f4_lt n 16
  have b4 := rpb4
  have d2 := s3_eq 8 n
  have d3 := f8_lt n 8
  have d4 := rpb8
  have d5 := cnt_le n 64
  refine j_lload_n (pc := 0) C dJ13_bitCount_95d88_0 rfl 0 rfl ?_
  refine j_lload_n (pc := 1) C dJ13_bitCount_95d88_1 rfl 0 rfl ?_
  refine j_iconst (pc := 2) C (nI 1) dJ13_bitCount_95d88_2 (by decide) ?_
  refine j_lushr (pc := 3) C dJ13_bitCount_95d88_3 ?_
  refine j_topl (lN (n / 2)) (wb_shr (n := n) (k := 1) hn (by decide)) ?_
  refine j_ldc2 (pc := 4) C (v := 6148914691236517205) dJ13_bitCount_95d88_4 wm_325 ?_
  refine j_land (pc := 7) C dJ13_bitCount_95d88_7 ?_
  refine j_topl (lN ((n / 2) &&& rep 4 1 32)) (by rw [← fb_andL, rpb1]; rfl) ?_
  refine j_lsub (pc := 8) C dJ13_bitCount_95d88_8 ?_
  refine j_topl (lN (f2 n 32)) (by rw [← a2]; exact lN_subN a1) ?_
  refine j_lstore_n (pc := 9) C [(0, .long (lN (f2 n 32)))] dJ13_bitCount_95d88_9 rfl (by decide) rfl ?_
  refine j_lload_n (pc := 10) C dJ13_bitCount_95d88_10 rfl 0 rfl ?_
  refine j_ldc2 (pc := 11) C (v := 3689348814741910323) dJ13_bitCount_95d88_11 wm_326 ?_
  refine j_land (pc := 14) C dJ13_bitCount_95d88_14 ?_
  refine j_topl (lN (f2 n 32 &&& rep 16 3 16)) (by rw [← fb_andL, rpb2]; rfl) ?_
  refine j_lload_n (pc := 15) C dJ13_bitCount_95d88_15 rfl 0 rfl ?_
  refine j_iconst (pc := 16) C (nI 2) dJ13_bitCount_95d88_16 (by decide) ?_
  refine j_lushr (pc := 17) C dJ13_bitCount_95d88_17 ?_
  refine j_topl (lN (f2 n 32 / 4)) (wb_shr (n := f2 n 32) (k := 2) (Nat.lt_of_lt_of_le a3 (by decide)) (by decide)) ?_
  refine j_ldc2 (pc := 18) C (v := 3689348814741910323) dJ13_bitCount_95d88_18 wm_326 ?_
  refine j_land (pc := 21) C dJ13_bitCount_95d88_21 ?_
  refine j_topl (lN ((f2 n 32 / 4) &&& rep 16 3 16)) (by rw [← fb_andL, rpb2]; rfl) ?_
  refine j_ladd (pc := 22) C dJ13_bitCount_95d88_22 ?_
  refine j_topl (lN (f4 n 16)) (by rw [lN_add]; exact congrArg lN b2) ?_
  refine j_lstore_n (pc := 23) C [(0, .long (lN (f4 n 16)))] dJ13_bitCount_95d88_23 rfl (by decide) rfl ?_
  refine j_lload_n (pc := 24) C dJ13_bitCount_95d88_24 rfl 0 rfl ?_
  refine j_lload_n (pc := 25) C dJ13_bitCount_95d88_25 rfl 0 rfl ?_
  refine j_iconst (pc := 26) C (nI 4) dJ13_bitCount_95d88_26 (by decide) ?_
  refine j_lushr (pc := 27) C dJ13_bitCount_95d88_27 ?_
  refine j_topl (lN (f4 n 16 / 16)) (wb_shr (n := f4 n 16) (k := 4) (by omega) (by decide)) ?_
  refine j_ladd (pc := 28) C dJ13_bitCount_95d88_28 ?_
  refine j_topl (lN (f4 n 16 + f4 n 16 / 16)) (lN_add _ _) ?_
  refine j_ldc2 (pc := 29) C (v := 1085102592571150095) dJ13_bitCount_95d88_29 wm_327 ?_
  refine j_land (pc := 32) C dJ13_bitCount_95d88_32 ?_
  refine j_topl (lN (f8 n 8)) (by rw [← d2, ← fb_andL, rpb3]; rfl) ?_
  refine j_lstore_n (pc := 33) C [(0, .long (lN (f8 n 8)))] dJ13_bitCount_95d88_33 rfl (by decide) rfl ?_
  refine j_lload_n (pc := 34) C dJ13_bitCount_95d88_34 rfl 0 rfl ?_
  refine j_lload_n (pc := 35) C dJ13_bitCount_95d88_35 rfl 0 rfl ?_
  refine j_bipush (pc := 36) C (nI 8) dJ13_bitCount_95d88_36 (by decide) ?_
  refine j_lushr (pc := 38) C dJ13_bitCount_95d88_38 ?_
  refine j_topl (lN (f8 n 8 / 256)) (wb_shr (n := f8 n 8) (k := 8) (by omega) (by decide)) ?_
  refine j_ladd (pc := 39) C dJ13_bitCount_95d88_39 ?_
  refine j_topl (lN (f8 n 8 + f8 n 8 / 256)) (lN_add _ _) ?_
  refine j_lstore_n (pc := 40) C [(0, .long (lN (f8 n 8 + f8 n 8 / 256)))] dJ13_bitCount_95d88_40 rfl (by decide) rfl ?_
  refine j_lload_n (pc := 41) C dJ13_bitCount_95d88_41 rfl 0 rfl ?_
  refine j_lload_n (pc := 42) C dJ13_bitCount_95d88_42 rfl 0 rfl ?_
  refine j_bipush (pc := 43) C (nI 16) dJ13_bitCount_95d88_43 (by decide) ?_
  refine j_lushr (pc := 45) C dJ13_bitCount_95d88_45 ?_
  refine j_topl (lN ((f8 n 8 + f8 n 8 / 256) / 65536)) (wb_shr (n := (f8 n 8 + f8 n 8 / 256)) (k := 16) (by omega) (by decide)) ?_
  refine j_ladd (pc := 46) C dJ13_bitCount_95d88_46 ?_
  refine j_topl (lN (f8 n 8 + f8 n 8 / 256 + (f8 n 8 + f8 n 8 / 256) / 65536)) (lN_add _ _) ?_
  refine j_lstore_n (pc := 47) C [(0, .long (lN (f8 n 8 + f8 n 8 / 256 + (f8 n 8 + f8 n 8 / 256) / 65536)))] dJ13_bitCount_95d88_47 rfl (by decide) rfl ?_
  refine j_lload_n (pc := 48) C dJ13_bitCount_95d88_48 rfl 0 rfl ?_
  refine j_lload_n (pc := 49) C dJ13_bitCount_95d88_49 rfl 0 rfl ?_
  refine j_bipush (pc := 50) C (nI 32) dJ13_bitCount_95d88_50 (by decide) ?_
  refine j_lushr (pc := 52) C dJ13_bitCount_95d88_52 ?_
  refine j_topl (lN ((f8 n 8 + f8 n 8 / 256 + (f8 n 8 + f8 n 8 / 256) / 65536) / 4294967296)) (wb_shr (n := (f8 n 8 + f8 n 8 / 256 + (f8 n 8 + f8 n 8 / 256) / 65536)) (k := 32) (by omega) (by decide)) ?_
  refine j_ladd (pc := 53) C dJ13_bitCount_95d88_53 ?_
  refine j_topl (lN (f8 n 8 + f8 n 8 / 256 + (f8 n 8 + f8 n 8 / 256) / 65536 + (f8 n 8 + f8 n 8 / 256 + (f8 n 8 + f8 n 8 / 256) / 65536) / 4294967296)) (lN_add _ _) ?_
  refine j_lstore_n (pc := 54) C [(0, .long (lN (f8 n 8 + f8 n 8 / 256 + (f8 n 8 + f8 n 8 / 256) / 65536 + (f8 n 8 + f8 n 8 / 256 + (f8 n 8 + f8 n 8 / 256) / 65536) / 4294967296)))] dJ13_bitCount_95d88_54 rfl (by decide) rfl ?_
  refine j_lload_n (pc := 55) C dJ13_bitCount_95d88_55 rfl 0 rfl ?_
  refine j_l2i (pc := 56) C dJ13_bitCount_95d88_56 ?_
  refine j_topi (nI (f8 n 8 + f8 n 8 / 256 + (f8 n 8 + f8 n 8 / 256) / 65536 + (f8 n 8 + f8 n 8 / 256 + (f8 n 8 + f8 n 8 / 256) / 65536) / 4294967296)) (lN_i _) ?_
  refine j_bipush (pc := 57) C (nI 127) dJ13_bitCount_95d88_57 (by decide) ?_
  refine j_iand (pc := 59) C dJ13_bitCount_95d88_59 ?_
  refine j_topi (nI (cnt n 64)) ((nI_127 _).trans (congrArg nI (s5_eq n _ _ _ rfl rfl rfl))) ?_
  exact j_ireturn (pc := 60) C Q dJ13_bitCount_95d88_60 (Nat.le_of_ble_eq_true rfl) (Nat.le_of_ble_eq_true rfl) (⟨rfl, rfl⟩)
set_option maxHeartbeats 4000000 in
set_option maxRecDepth 100000 in
theorem c_J6_bitCount_0f7a4 (L9 : Launch) (w9 : Wd) {σ : HS} {n : Nat} (hn : n < 256) : MJ L9 w9 yJ6_bitCount_0f7a4 cJ6_bitCount_0f7a4 1 (some .int) ({ frames := 0, cells := 0, slots := 0, locals := 0 } : Room) [.int (nI n)] σ (fun a9 σ' => a9 = some (.int (nI (cnt n 8))) ∧ σ' = σ) := by
  refine MJ.of (by decide +kernel) (Nat.le_of_ble_eq_true rfl) (fun X hX1 hX2 C Q hinit => ?_)
  subst hX1; subst hX2
  show J X 0 0 σ [(0, .int (nI n))] [] 0
  obtain ⟨h1, h2, h3, h4⟩ := bc6 n hn
  refine j_iload_n (pc := 0) C dJ6_bitCount_0f7a4_0 rfl 0 rfl ?_
  refine j_iload_n (pc := 1) C dJ6_bitCount_0f7a4_1 rfl 0 rfl ?_
  refine j_iconst (pc := 2) C (nI 1) dJ6_bitCount_0f7a4_2 (by decide) ?_
  refine j_iushr (pc := 3) C dJ6_bitCount_0f7a4_3 ?_
  refine j_ldcw (pc := 4) C (v := 1431655765) dJ6_bitCount_0f7a4_4 wm_338 ?_
  refine j_iand (pc := 7) C dJ6_bitCount_0f7a4_7 ?_
  refine j_isub (pc := 8) C dJ6_bitCount_0f7a4_8 ?_
  refine j_topi (nI (g1 n)) (bc1 n hn) ?_
  refine j_istore_n (pc := 9) C [(0, .int (nI (g1 n)))] dJ6_bitCount_0f7a4_9 rfl (by decide) rfl ?_
  refine j_iload_n (pc := 10) C dJ6_bitCount_0f7a4_10 rfl 0 rfl ?_
  refine j_ldcw (pc := 11) C (v := 858993459) dJ6_bitCount_0f7a4_11 wm_339 ?_
  refine j_iand (pc := 14) C dJ6_bitCount_0f7a4_14 ?_
  refine j_iload_n (pc := 15) C dJ6_bitCount_0f7a4_15 rfl 0 rfl ?_
  refine j_iconst (pc := 16) C (nI 2) dJ6_bitCount_0f7a4_16 (by decide) ?_
  refine j_iushr (pc := 17) C dJ6_bitCount_0f7a4_17 ?_
  refine j_ldcw (pc := 18) C (v := 858993459) dJ6_bitCount_0f7a4_18 wm_339 ?_
  refine j_iand (pc := 21) C dJ6_bitCount_0f7a4_21 ?_
  refine j_iadd (pc := 22) C dJ6_bitCount_0f7a4_22 ?_
  refine j_topi (nI (g2 (g1 n))) (bc2 _ h1) ?_
  refine j_istore_n (pc := 23) C [(0, .int (nI (g2 (g1 n))))] dJ6_bitCount_0f7a4_23 rfl (by decide) rfl ?_
  refine j_iload_n (pc := 24) C dJ6_bitCount_0f7a4_24 rfl 0 rfl ?_
  refine j_iload_n (pc := 25) C dJ6_bitCount_0f7a4_25 rfl 0 rfl ?_
  refine j_iconst (pc := 26) C (nI 4) dJ6_bitCount_0f7a4_26 (by decide) ?_
  refine j_iushr (pc := 27) C dJ6_bitCount_0f7a4_27 ?_
  refine j_iadd (pc := 28) C dJ6_bitCount_0f7a4_28 ?_
  refine j_ldcw (pc := 29) C (v := 252645135) dJ6_bitCount_0f7a4_29 wm_340 ?_
  refine j_iand (pc := 32) C dJ6_bitCount_0f7a4_32 ?_
  refine j_topi (nI (g3 (g2 (g1 n)))) (bc3 _ h2) ?_
  refine j_istore_n (pc := 33) C [(0, .int (nI (g3 (g2 (g1 n)))))] dJ6_bitCount_0f7a4_33 rfl (by decide) rfl ?_
  refine j_iload_n (pc := 34) C dJ6_bitCount_0f7a4_34 rfl 0 rfl ?_
  refine j_iload_n (pc := 35) C dJ6_bitCount_0f7a4_35 rfl 0 rfl ?_
  refine j_bipush (pc := 36) C (nI 8) dJ6_bitCount_0f7a4_36 (by decide) ?_
  refine j_iushr (pc := 38) C dJ6_bitCount_0f7a4_38 ?_
  refine j_iadd (pc := 39) C dJ6_bitCount_0f7a4_39 ?_
  refine j_topi (nI (g3 (g2 (g1 n)))) (bc4 _ h3) ?_
  refine j_istore_n (pc := 40) C [(0, .int (nI (g3 (g2 (g1 n)))))] dJ6_bitCount_0f7a4_40 rfl (by decide) rfl ?_
  refine j_iload_n (pc := 41) C dJ6_bitCount_0f7a4_41 rfl 0 rfl ?_
  refine j_iload_n (pc := 42) C dJ6_bitCount_0f7a4_42 rfl 0 rfl ?_
  refine j_bipush (pc := 43) C (nI 16) dJ6_bitCount_0f7a4_43 (by decide) ?_
  refine j_iushr (pc := 45) C dJ6_bitCount_0f7a4_45 ?_
  refine j_iadd (pc := 46) C dJ6_bitCount_0f7a4_46 ?_
  refine j_topi (nI (g3 (g2 (g1 n)))) (bc5 _ h3) ?_
  refine j_istore_n (pc := 47) C [(0, .int (nI (g3 (g2 (g1 n)))))] dJ6_bitCount_0f7a4_47 rfl (by decide) rfl ?_
  refine j_iload_n (pc := 48) C dJ6_bitCount_0f7a4_48 rfl 0 rfl ?_
  refine j_bipush (pc := 49) C (nI 63) dJ6_bitCount_0f7a4_49 (by decide) ?_
  refine j_iand (pc := 51) C dJ6_bitCount_0f7a4_51 ?_
  refine j_topi (nI (cnt n 8)) h4 ?_
  exact j_ireturn (pc := 52) C Q dJ6_bitCount_0f7a4_52 (Nat.le_of_ble_eq_true rfl) (Nat.le_of_ble_eq_true rfl) (⟨rfl, rfl⟩)
