theorem gin_Jx4a65c : ∀ w ∈ u_ws RJx4a65c TJx4a65c 3, w ∈ gtb := by decide +kernel
theorem gin_X0 : ∀ w ∈ u_ws RX0 TX0 2, w ∈ gtb := by decide +kernel
theorem gin_X1 : ∀ w ∈ u_ws RX1 TX1 5, w ∈ gtb := by decide +kernel
theorem gin_X2 : ∀ w ∈ u_ws RX2 TX2 3, w ∈ gtb := by decide +kernel
theorem gin_X3 : ∀ w ∈ u_ws RX3 TX3 4, w ∈ gtb := by decide +kernel
theorem gin_X4 : ∀ w ∈ u_ws RX4 TX4 3, w ∈ gtb := by decide +kernel
theorem gin_X5 : ∀ w ∈ u_ws RX5 TX5 10, w ∈ gtb := by decide +kernel
theorem gin_X7 : ∀ w ∈ u_ws RX7 TX7 5, w ∈ gtb := by decide +kernel
theorem gin_X8 : ∀ w ∈ u_ws RX8 TX8 5, w ∈ gtb := by decide +kernel
theorem gin_X9 : ∀ w ∈ u_ws RX9 TX9 4, w ∈ gtb := by decide +kernel
theorem gin_X10 : ∀ w ∈ u_ws RX10 TX10 34, w ∈ gtb := by decide +kernel
theorem fp_Jx4a65c_9 : FP 0 1 RJx4a65c 9 (.array (.object "java/lang/Object")) 0 := ⟨RJx4a65c, TJx4a65c, 3, tyJx4a65c, "java/util/ArrayList", rfl, by decide, by decide, by decide, gin_Jx4a65c, tyJx4a65c_ok, nmJx4a65c, wm_109, Or.inl rfl, tyJx4a65c_ok 1 (by decide), fun z => rfl, fun z => absurd z (by decide)⟩
theorem fp_Jx4a65c_48 : FP 0 2 RJx4a65c 48 .int 0 := ⟨RJx4a65c, TJx4a65c, 3, tyJx4a65c, "java/util/ArrayList", rfl, by decide, by decide, by decide, gin_Jx4a65c, tyJx4a65c_ok, nmJx4a65c, wm_110, Or.inl rfl, tyJx4a65c_ok 2 (by decide), fun z => rfl, fun z => absurd z (by decide)⟩
theorem fp_Jx4a65c_63 : FP 0 0 RJx4a65c 63 .int 0 := ⟨RJx4a65c, TJx4a65c, 3, tyJx4a65c, "java/util/ArrayList", rfl, by decide, by decide, by decide, gin_Jx4a65c, tyJx4a65c_ok, nmJx4a65c, wm_112, Or.inr wm_113, tyJx4a65c_ok 0 (by decide), fun z => rfl, fun z => absurd z (by decide)⟩
theorem fp_X2_7 : FP 3 0 RX2 7 .int 1 := ⟨RX2, TX2, 3, tyX2, "Fieldgrammar$Kind", rfl, by decide, by decide, by decide, gin_X2, tyX2_ok, nmX2, wm_128, Or.inl rfl, tyX2_ok 0 (by decide), fun z => absurd z (by decide), fun z => rfl⟩
theorem fp_X2_13 : FP 3 1 RX2 13 .int 1 := ⟨RX2, TX2, 3, tyX2, "Fieldgrammar$Kind", rfl, by decide, by decide, by decide, gin_X2, tyX2_ok, nmX2, wm_129, Or.inl rfl, tyX2_ok 1 (by decide), fun z => absurd z (by decide), fun z => rfl⟩
theorem fp_X2_16 : FP 3 2 RX2 16 .int 0 := ⟨RX2, TX2, 3, tyX2, "Fieldgrammar$Kind", rfl, by decide, by decide, by decide, gin_X2, tyX2_ok, nmX2, wm_130, Or.inl rfl, tyX2_ok 2 (by decide), fun z => rfl, fun z => absurd z (by decide)⟩
theorem fp_X7_30 : FP 3 2 RX7 30 .int 0 := ⟨RX2, TX2, 3, tyX2, "Fieldgrammar$Kind", rfl, by decide, by decide, by decide, gin_X2, tyX2_ok, nmX2, wm_131, Or.inl rfl, tyX2_ok 2 (by decide), fun z => rfl, fun z => absurd z (by decide)⟩
theorem fp_X5_11 : FP 6 0 RX5 11 (.array .int) 1 := ⟨RX5, TX5, 10, tyX5, "Fieldgrammar$Phonology", rfl, by decide, by decide, by decide, gin_X5, tyX5_ok, nmX5, wm_139, Or.inl rfl, tyX5_ok 0 (by decide), fun z => absurd z (by decide), fun z => rfl⟩
theorem fp_X5_17 : FP 6 1 RX5 17 (.array .int) 1 := ⟨RX5, TX5, 10, tyX5, "Fieldgrammar$Phonology", rfl, by decide, by decide, by decide, gin_X5, tyX5_ok, nmX5, wm_140, Or.inl rfl, tyX5_ok 1 (by decide), fun z => absurd z (by decide), fun z => rfl⟩
theorem fp_X5_49 : FP 6 2 RX5 49 .int 0 := ⟨RX5, TX5, 10, tyX5, "Fieldgrammar$Phonology", rfl, by decide, by decide, by decide, gin_X5, tyX5_ok, nmX5, wm_141, Or.inl rfl, tyX5_ok 2 (by decide), fun z => rfl, fun z => absurd z (by decide)⟩
theorem fp_X5_23 : FP 6 3 RX5 23 (.object "java/util/ArrayList") 1 := ⟨RX5, TX5, 10, tyX5, "Fieldgrammar$Phonology", rfl, by decide, by decide, by decide, gin_X5, tyX5_ok, nmX5, wm_142, Or.inl rfl, tyX5_ok 3 (by decide), fun z => absurd z (by decide), fun z => rfl⟩
theorem fp_X5_32 : FP 6 4 RX5 32 (.object "Fieldgrammar$Kind") 1 := ⟨RX5, TX5, 10, tyX5, "Fieldgrammar$Phonology", rfl, by decide, by decide, by decide, gin_X5, tyX5_ok, nmX5, wm_143, Or.inl rfl, tyX5_ok 4 (by decide), fun z => absurd z (by decide), fun z => rfl⟩
theorem fp_X5_36 : FP 6 5 RX5 36 (.object "Fieldgrammar$Kind") 1 := ⟨RX5, TX5, 10, tyX5, "Fieldgrammar$Phonology", rfl, by decide, by decide, by decide, gin_X5, tyX5_ok, nmX5, wm_144, Or.inl rfl, tyX5_ok 5 (by decide), fun z => absurd z (by decide), fun z => rfl⟩
theorem fp_X5_39 : FP 6 6 RX5 39 (.object "java/util/ArrayList") 1 := ⟨RX5, TX5, 10, tyX5, "Fieldgrammar$Phonology", rfl, by decide, by decide, by decide, gin_X5, tyX5_ok, nmX5, wm_145, Or.inl rfl, tyX5_ok 6 (by decide), fun z => absurd z (by decide), fun z => rfl⟩
theorem fp_X5_42 : FP 6 7 RX5 42 (.object "java/util/ArrayList") 1 := ⟨RX5, TX5, 10, tyX5, "Fieldgrammar$Phonology", rfl, by decide, by decide, by decide, gin_X5, tyX5_ok, nmX5, wm_146, Or.inl rfl, tyX5_ok 7 (by decide), fun z => absurd z (by decide), fun z => rfl⟩
theorem fp_X5_57 : FP 6 8 RX5 57 .int 0 := ⟨RX5, TX5, 10, tyX5, "Fieldgrammar$Phonology", rfl, by decide, by decide, by decide, gin_X5, tyX5_ok, nmX5, wm_147, Or.inl rfl, tyX5_ok 8 (by decide), fun z => rfl, fun z => absurd z (by decide)⟩
theorem fp_X5_45 : FP 6 9 RX5 45 (.array .long) 1 := ⟨RX5, TX5, 10, tyX5, "Fieldgrammar$Phonology", rfl, by decide, by decide, by decide, gin_X5, tyX5_ok, nmX5, wm_148, Or.inl rfl, tyX5_ok 9 (by decide), fun z => absurd z (by decide), fun z => rfl⟩
theorem fp_X4_12 : FP 5 0 RX4 12 (.object "java/util/ArrayList") 1 := ⟨RX4, TX4, 3, tyX4, "Fieldgrammar$Lexicon", rfl, by decide, by decide, by decide, gin_X4, tyX4_ok, nmX4, wm_179, Or.inl rfl, tyX4_ok 0 (by decide), fun z => absurd z (by decide), fun z => rfl⟩
theorem fp_X4_18 : FP 5 1 RX4 18 (.object "java/util/ArrayList") 1 := ⟨RX4, TX4, 3, tyX4, "Fieldgrammar$Lexicon", rfl, by decide, by decide, by decide, gin_X4, tyX4_ok, nmX4, wm_180, Or.inl rfl, tyX4_ok 1 (by decide), fun z => absurd z (by decide), fun z => rfl⟩
theorem fp_X4_21 : FP 5 2 RX4 21 (.object "java/util/ArrayList") 1 := ⟨RX4, TX4, 3, tyX4, "Fieldgrammar$Lexicon", rfl, by decide, by decide, by decide, gin_X4, tyX4_ok, nmX4, wm_181, Or.inl rfl, tyX4_ok 2 (by decide), fun z => absurd z (by decide), fun z => rfl⟩
theorem fp_X0_9 : FP 1 0 RX0 9 (.array .long) 1 := ⟨RX0, TX0, 2, tyX0, "Fieldgrammar$CellRows", rfl, by decide, by decide, by decide, gin_X0, tyX0_ok, nmX0, wm_195, Or.inl rfl, tyX0_ok 0 (by decide), fun z => absurd z (by decide), fun z => rfl⟩
theorem fp_X0_19 : FP 1 1 RX0 19 .int 0 := ⟨RX0, TX0, 2, tyX0, "Fieldgrammar$CellRows", rfl, by decide, by decide, by decide, gin_X0, tyX0_ok, nmX0, wm_196, Or.inl rfl, tyX0_ok 1 (by decide), fun z => rfl, fun z => absurd z (by decide)⟩
theorem fp_X9_10 : FP 9 0 RX9 10 (.object "Fieldgrammar$Phonology") 1 := ⟨RX9, TX9, 4, tyX9, "Fieldgrammar", rfl, by decide, by decide, by decide, gin_X9, tyX9_ok, nmX9, wm_202, Or.inl rfl, tyX9_ok 0 (by decide), fun z => absurd z (by decide), fun z => rfl⟩
theorem fp_X9_19 : FP 9 1 RX9 19 (.object "Fieldgrammar$Lexicon") 1 := ⟨RX9, TX9, 4, tyX9, "Fieldgrammar", rfl, by decide, by decide, by decide, gin_X9, tyX9_ok, nmX9, wm_203, Or.inl rfl, tyX9_ok 1 (by decide), fun z => absurd z (by decide), fun z => rfl⟩
theorem fp_X9_26 : FP 9 2 RX9 26 (.object "Fieldgrammar$CellRows") 1 := ⟨RX9, TX9, 4, tyX9, "Fieldgrammar", rfl, by decide, by decide, by decide, gin_X9, tyX9_ok, nmX9, wm_204, Or.inl rfl, tyX9_ok 2 (by decide), fun z => absurd z (by decide), fun z => rfl⟩
theorem fp_X9_32 : FP 9 3 RX9 32 .long 0 := ⟨RX9, TX9, 4, tyX9, "Fieldgrammar", rfl, by decide, by decide, by decide, gin_X9, tyX9_ok, nmX9, wm_205, Or.inl rfl, tyX9_ok 3 (by decide), fun z => rfl, fun z => absurd z (by decide)⟩
theorem fp_X3_16 : FP 4 0 RX3 16 .int 1 := ⟨RX3, TX3, 4, tyX3, "Fieldgrammar$Lexeme", rfl, by decide, by decide, by decide, gin_X3, tyX3_ok, nmX3, wm_608, Or.inl rfl, tyX3_ok 0 (by decide), fun z => absurd z (by decide), fun z => rfl⟩
theorem fp_X9_90 : FP 4 0 RX9 90 .int 2 := ⟨RX3, TX3, 4, tyX3, "Fieldgrammar$Lexeme", rfl, by decide, by decide, by decide, gin_X3, tyX3_ok, nmX3, wm_609, Or.inl rfl, tyX3_ok 0 (by decide), fun z => absurd z (by decide), fun z => absurd z (by decide)⟩
theorem fp_X4_114 : FP 4 0 RX4 114 .int 2 := ⟨RX3, TX3, 4, tyX3, "Fieldgrammar$Lexeme", rfl, by decide, by decide, by decide, gin_X3, tyX3_ok, nmX3, wm_610, Or.inl rfl, tyX3_ok 0 (by decide), fun z => absurd z (by decide), fun z => absurd z (by decide)⟩
theorem fp_X3_20 : FP 4 1 RX3 20 .long 0 := ⟨RX3, TX3, 4, tyX3, "Fieldgrammar$Lexeme", rfl, by decide, by decide, by decide, gin_X3, tyX3_ok, nmX3, wm_611, Or.inl rfl, tyX3_ok 1 (by decide), fun z => rfl, fun z => absurd z (by decide)⟩
theorem fp_X9_100 : FP 4 1 RX9 100 .long 0 := ⟨RX3, TX3, 4, tyX3, "Fieldgrammar$Lexeme", rfl, by decide, by decide, by decide, gin_X3, tyX3_ok, nmX3, wm_612, Or.inl rfl, tyX3_ok 1 (by decide), fun z => rfl, fun z => absurd z (by decide)⟩
theorem fp_X4_105 : FP 4 1 RX4 105 .long 0 := ⟨RX3, TX3, 4, tyX3, "Fieldgrammar$Lexeme", rfl, by decide, by decide, by decide, gin_X3, tyX3_ok, nmX3, wm_613, Or.inl rfl, tyX3_ok 1 (by decide), fun z => rfl, fun z => absurd z (by decide)⟩
theorem fp_X4_34 : FP 4 2 RX4 34 .boolean 0 := ⟨RX3, TX3, 4, tyX3, "Fieldgrammar$Lexeme", rfl, by decide, by decide, by decide, gin_X3, tyX3_ok, nmX3, wm_614, Or.inl rfl, tyX3_ok 2 (by decide), fun z => rfl, fun z => absurd z (by decide)⟩
theorem fp_X3_10 : FP 4 3 RX3 10 (.object "Fieldgrammar$CellRows") 1 := ⟨RX3, TX3, 4, tyX3, "Fieldgrammar$Lexeme", rfl, by decide, by decide, by decide, gin_X3, tyX3_ok, nmX3, wm_615, Or.inl rfl, tyX3_ok 3 (by decide), fun z => absurd z (by decide), fun z => rfl⟩
theorem fp_X8_24 : FP 4 3 RX8 24 (.object "Fieldgrammar$CellRows") 2 := ⟨RX3, TX3, 4, tyX3, "Fieldgrammar$Lexeme", rfl, by decide, by decide, by decide, gin_X3, tyX3_ok, nmX3, wm_616, Or.inl rfl, tyX3_ok 3 (by decide), fun z => absurd z (by decide), fun z => absurd z (by decide)⟩
theorem fp_X4_80 : FP 4 3 RX4 80 (.object "Fieldgrammar$CellRows") 2 := ⟨RX3, TX3, 4, tyX3, "Fieldgrammar$Lexeme", rfl, by decide, by decide, by decide, gin_X3, tyX3_ok, nmX3, wm_617, Or.inl rfl, tyX3_ok 3 (by decide), fun z => absurd z (by decide), fun z => absurd z (by decide)⟩
theorem fp_X9_163 : FP 4 3 RX9 163 (.object "Fieldgrammar$CellRows") 2 := ⟨RX3, TX3, 4, tyX3, "Fieldgrammar$Lexeme", rfl, by decide, by decide, by decide, gin_X3, tyX3_ok, nmX3, wm_618, Or.inl rfl, tyX3_ok 3 (by decide), fun z => absurd z (by decide), fun z => absurd z (by decide)⟩
theorem fp_X7_7 : FP 7 0 RX7 7 .int 1 := ⟨RX7, TX7, 5, tyX7, "Fieldgrammar$Rule", rfl, by decide, by decide, by decide, gin_X7, tyX7_ok, nmX7, wm_680, Or.inl rfl, tyX7_ok 0 (by decide), fun z => absurd z (by decide), fun z => rfl⟩
theorem fp_X5_88 : FP 7 0 RX5 88 .int 2 := ⟨RX7, TX7, 5, tyX7, "Fieldgrammar$Rule", rfl, by decide, by decide, by decide, gin_X7, tyX7_ok, nmX7, wm_681, Or.inl rfl, tyX7_ok 0 (by decide), fun z => absurd z (by decide), fun z => absurd z (by decide)⟩
theorem fp_X7_13 : FP 7 1 RX7 13 (.object "Fieldgrammar$Kind") 1 := ⟨RX7, TX7, 5, tyX7, "Fieldgrammar$Rule", rfl, by decide, by decide, by decide, gin_X7, tyX7_ok, nmX7, wm_682, Or.inl rfl, tyX7_ok 1 (by decide), fun z => absurd z (by decide), fun z => rfl⟩
theorem fp_X7_17 : FP 7 2 RX7 17 .int 1 := ⟨RX7, TX7, 5, tyX7, "Fieldgrammar$Rule", rfl, by decide, by decide, by decide, gin_X7, tyX7_ok, nmX7, wm_683, Or.inl rfl, tyX7_ok 2 (by decide), fun z => absurd z (by decide), fun z => rfl⟩
theorem fp_X5_107 : FP 7 2 RX5 107 .int 2 := ⟨RX7, TX7, 5, tyX7, "Fieldgrammar$Rule", rfl, by decide, by decide, by decide, gin_X7, tyX7_ok, nmX7, wm_684, Or.inl rfl, tyX7_ok 2 (by decide), fun z => absurd z (by decide), fun z => absurd z (by decide)⟩
theorem fp_X7_20 : FP 7 3 RX7 20 (.object "Fieldgrammar$Kind") 1 := ⟨RX7, TX7, 5, tyX7, "Fieldgrammar$Rule", rfl, by decide, by decide, by decide, gin_X7, tyX7_ok, nmX7, wm_685, Or.inl rfl, tyX7_ok 3 (by decide), fun z => absurd z (by decide), fun z => rfl⟩
theorem fp_X7_23 : FP 7 4 RX7 23 (.object "Fieldgrammar$Kind") 1 := ⟨RX7, TX7, 5, tyX7, "Fieldgrammar$Rule", rfl, by decide, by decide, by decide, gin_X7, tyX7_ok, nmX7, wm_686, Or.inl rfl, tyX7_ok 4 (by decide), fun z => absurd z (by decide), fun z => rfl⟩
theorem fp_X8_7 : FP 8 0 RX8 7 (.object "Fieldgrammar$Lexeme") 0 := ⟨RX8, TX8, 5, tyX8, "Fieldgrammar$Word", rfl, by decide, by decide, by decide, gin_X8, tyX8_ok, nmX8, wm_756, Or.inl rfl, tyX8_ok 0 (by decide), fun z => rfl, fun z => absurd z (by decide)⟩
theorem fp_X4_57 : FP 8 0 RX4 57 (.object "Fieldgrammar$Lexeme") 0 := ⟨RX8, TX8, 5, tyX8, "Fieldgrammar$Word", rfl, by decide, by decide, by decide, gin_X8, tyX8_ok, nmX8, wm_757, Or.inl rfl, tyX8_ok 0 (by decide), fun z => rfl, fun z => absurd z (by decide)⟩
theorem fp_X9_211 : FP 8 0 RX9 211 (.object "Fieldgrammar$Lexeme") 0 := ⟨RX8, TX8, 5, tyX8, "Fieldgrammar$Word", rfl, by decide, by decide, by decide, gin_X8, tyX8_ok, nmX8, wm_758, Or.inl rfl, tyX8_ok 0 (by decide), fun z => rfl, fun z => absurd z (by decide)⟩
theorem fp_X8_13 : FP 8 1 RX8 13 .int 1 := ⟨RX8, TX8, 5, tyX8, "Fieldgrammar$Word", rfl, by decide, by decide, by decide, gin_X8, tyX8_ok, nmX8, wm_759, Or.inl rfl, tyX8_ok 1 (by decide), fun z => absurd z (by decide), fun z => rfl⟩
theorem fp_X4_61 : FP 8 1 RX4 61 .int 2 := ⟨RX8, TX8, 5, tyX8, "Fieldgrammar$Word", rfl, by decide, by decide, by decide, gin_X8, tyX8_ok, nmX8, wm_760, Or.inl rfl, tyX8_ok 1 (by decide), fun z => absurd z (by decide), fun z => absurd z (by decide)⟩
theorem fp_X9_215 : FP 8 1 RX9 215 .int 2 := ⟨RX8, TX8, 5, tyX8, "Fieldgrammar$Word", rfl, by decide, by decide, by decide, gin_X8, tyX8_ok, nmX8, wm_761, Or.inl rfl, tyX8_ok 1 (by decide), fun z => absurd z (by decide), fun z => absurd z (by decide)⟩
theorem fp_X8_17 : FP 8 2 RX8 17 .int 1 := ⟨RX8, TX8, 5, tyX8, "Fieldgrammar$Word", rfl, by decide, by decide, by decide, gin_X8, tyX8_ok, nmX8, wm_762, Or.inl rfl, tyX8_ok 2 (by decide), fun z => absurd z (by decide), fun z => rfl⟩
theorem fp_X4_65 : FP 8 2 RX4 65 .int 2 := ⟨RX8, TX8, 5, tyX8, "Fieldgrammar$Word", rfl, by decide, by decide, by decide, gin_X8, tyX8_ok, nmX8, wm_763, Or.inl rfl, tyX8_ok 2 (by decide), fun z => absurd z (by decide), fun z => absurd z (by decide)⟩
theorem fp_X9_218 : FP 8 2 RX9 218 .int 2 := ⟨RX8, TX8, 5, tyX8, "Fieldgrammar$Word", rfl, by decide, by decide, by decide, gin_X8, tyX8_ok, nmX8, wm_764, Or.inl rfl, tyX8_ok 2 (by decide), fun z => absurd z (by decide), fun z => absurd z (by decide)⟩
theorem fp_X8_20 : FP 8 3 RX8 20 .long 0 := ⟨RX8, TX8, 5, tyX8, "Fieldgrammar$Word", rfl, by decide, by decide, by decide, gin_X8, tyX8_ok, nmX8, wm_765, Or.inl rfl, tyX8_ok 3 (by decide), fun z => rfl, fun z => absurd z (by decide)⟩
theorem fp_X4_72 : FP 8 3 RX4 72 .long 0 := ⟨RX8, TX8, 5, tyX8, "Fieldgrammar$Word", rfl, by decide, by decide, by decide, gin_X8, tyX8_ok, nmX8, wm_766, Or.inl rfl, tyX8_ok 3 (by decide), fun z => rfl, fun z => absurd z (by decide)⟩
theorem fp_X9_153 : FP 8 3 RX9 153 .long 0 := ⟨RX8, TX8, 5, tyX8, "Fieldgrammar$Word", rfl, by decide, by decide, by decide, gin_X8, tyX8_ok, nmX8, wm_767, Or.inl rfl, tyX8_ok 3 (by decide), fun z => rfl, fun z => absurd z (by decide)⟩
theorem fp_X4_40 : FP 8 4 RX4 40 .boolean 0 := ⟨RX8, TX8, 5, tyX8, "Fieldgrammar$Word", rfl, by decide, by decide, by decide, gin_X8, tyX8_ok, nmX8, wm_768, Or.inl rfl, tyX8_ok 4 (by decide), fun z => rfl, fun z => absurd z (by decide)⟩
theorem fp_X9_156 : FP 8 4 RX9 156 .boolean 0 := ⟨RX8, TX8, 5, tyX8, "Fieldgrammar$Word", rfl, by decide, by decide, by decide, gin_X8, tyX8_ok, nmX8, wm_769, Or.inl rfl, tyX8_ok 4 (by decide), fun z => rfl, fun z => absurd z (by decide)⟩
theorem fp_X1_16 : FP 2 0 RX1 16 (.object "Fieldgrammar$Lexeme") 1 := ⟨RX1, TX1, 5, tyX1, "Fieldgrammar$Change", rfl, by decide, by decide, by decide, gin_X1, tyX1_ok, nmX1, wm_837, Or.inl rfl, tyX1_ok 0 (by decide), fun z => absurd z (by decide), fun z => rfl⟩
theorem fp_X4_137 : FP 2 0 RX4 137 (.object "Fieldgrammar$Lexeme") 2 := ⟨RX1, TX1, 5, tyX1, "Fieldgrammar$Change", rfl, by decide, by decide, by decide, gin_X1, tyX1_ok, nmX1, wm_838, Or.inl rfl, tyX1_ok 0 (by decide), fun z => absurd z (by decide), fun z => absurd z (by decide)⟩
theorem fp_X1_20 : FP 2 1 RX1 20 (.object "Fieldgrammar$Lexeme") 1 := ⟨RX1, TX1, 5, tyX1, "Fieldgrammar$Change", rfl, by decide, by decide, by decide, gin_X1, tyX1_ok, nmX1, wm_839, Or.inl rfl, tyX1_ok 1 (by decide), fun z => absurd z (by decide), fun z => rfl⟩
theorem fp_X4_134 : FP 2 1 RX4 134 (.object "Fieldgrammar$Lexeme") 2 := ⟨RX1, TX1, 5, tyX1, "Fieldgrammar$Change", rfl, by decide, by decide, by decide, gin_X1, tyX1_ok, nmX1, wm_840, Or.inl rfl, tyX1_ok 1 (by decide), fun z => absurd z (by decide), fun z => absurd z (by decide)⟩
theorem fp_X1_23 : FP 2 2 RX1 23 .boolean 1 := ⟨RX1, TX1, 5, tyX1, "Fieldgrammar$Change", rfl, by decide, by decide, by decide, gin_X1, tyX1_ok, nmX1, wm_841, Or.inl rfl, tyX1_ok 2 (by decide), fun z => absurd z (by decide), fun z => rfl⟩
theorem fp_X4_131 : FP 2 2 RX4 131 .boolean 2 := ⟨RX1, TX1, 5, tyX1, "Fieldgrammar$Change", rfl, by decide, by decide, by decide, gin_X1, tyX1_ok, nmX1, wm_842, Or.inl rfl, tyX1_ok 2 (by decide), fun z => absurd z (by decide), fun z => absurd z (by decide)⟩
theorem fp_X1_10 : FP 2 3 RX1 10 (.object "Fieldgrammar$CellRows") 1 := ⟨RX1, TX1, 5, tyX1, "Fieldgrammar$Change", rfl, by decide, by decide, by decide, gin_X1, tyX1_ok, nmX1, wm_843, Or.inl rfl, tyX1_ok 3 (by decide), fun z => absurd z (by decide), fun z => rfl⟩
theorem fp_X4_120 : FP 2 3 RX4 120 (.object "Fieldgrammar$CellRows") 2 := ⟨RX1, TX1, 5, tyX1, "Fieldgrammar$Change", rfl, by decide, by decide, by decide, gin_X1, tyX1_ok, nmX1, wm_844, Or.inl rfl, tyX1_ok 3 (by decide), fun z => absurd z (by decide), fun z => absurd z (by decide)⟩
theorem fp_X4_94 : FP 2 4 RX4 94 .long 0 := ⟨RX1, TX1, 5, tyX1, "Fieldgrammar$Change", rfl, by decide, by decide, by decide, gin_X1, tyX1_ok, nmX1, wm_845, Or.inl rfl, tyX1_ok 4 (by decide), fun z => rfl, fun z => absurd z (by decide)⟩
theorem fp_X10_86 : FP 10 0 RX10 86 .int 0 := ⟨RX10, TX10, 34, tyX10, "FieldgrammarModel", rfl, by decide, by decide, by decide, gin_X10, tyX10_ok, nmX10, wm_1041, Or.inl rfl, tyX10_ok 0 (by decide), fun z => rfl, fun z => absurd z (by decide)⟩
theorem fp_X10_7 : FP 10 1 RX10 7 (.array .int) 1 := ⟨RX10, TX10, 34, tyX10, "FieldgrammarModel", rfl, by decide, by decide, by decide, gin_X10, tyX10_ok, nmX10, wm_1042, Or.inl rfl, tyX10_ok 1 (by decide), fun z => absurd z (by decide), fun z => rfl⟩
theorem fp_X10_13 : FP 10 2 RX10 13 (.array .int) 1 := ⟨RX10, TX10, 34, tyX10, "FieldgrammarModel", rfl, by decide, by decide, by decide, gin_X10, tyX10_ok, nmX10, wm_1043, Or.inl rfl, tyX10_ok 2 (by decide), fun z => absurd z (by decide), fun z => rfl⟩
theorem fp_X10_113 : FP 10 3 RX10 113 .int 0 := ⟨RX10, TX10, 34, tyX10, "FieldgrammarModel", rfl, by decide, by decide, by decide, gin_X10, tyX10_ok, nmX10, wm_1044, Or.inl rfl, tyX10_ok 3 (by decide), fun z => rfl, fun z => absurd z (by decide)⟩
theorem fp_X10_16 : FP 10 4 RX10 16 (.array .int) 1 := ⟨RX10, TX10, 34, tyX10, "FieldgrammarModel", rfl, by decide, by decide, by decide, gin_X10, tyX10_ok, nmX10, wm_1045, Or.inl rfl, tyX10_ok 4 (by decide), fun z => absurd z (by decide), fun z => rfl⟩
theorem fp_X10_19 : FP 10 5 RX10 19 (.array .int) 1 := ⟨RX10, TX10, 34, tyX10, "FieldgrammarModel", rfl, by decide, by decide, by decide, gin_X10, tyX10_ok, nmX10, wm_1046, Or.inl rfl, tyX10_ok 5 (by decide), fun z => absurd z (by decide), fun z => rfl⟩
theorem fp_X10_120 : FP 10 6 RX10 120 .int 0 := ⟨RX10, TX10, 34, tyX10, "FieldgrammarModel", rfl, by decide, by decide, by decide, gin_X10, tyX10_ok, nmX10, wm_1047, Or.inl rfl, tyX10_ok 6 (by decide), fun z => rfl, fun z => absurd z (by decide)⟩
theorem fp_X10_105 : FP 10 7 RX10 105 .long 0 := ⟨RX10, TX10, 34, tyX10, "FieldgrammarModel", rfl, by decide, by decide, by decide, gin_X10, tyX10_ok, nmX10, wm_1048, Or.inl rfl, tyX10_ok 7 (by decide), fun z => rfl, fun z => absurd z (by decide)⟩
theorem fp_X10_22 : FP 10 8 RX10 22 (.array .long) 1 := ⟨RX10, TX10, 34, tyX10, "FieldgrammarModel", rfl, by decide, by decide, by decide, gin_X10, tyX10_ok, nmX10, wm_1049, Or.inl rfl, tyX10_ok 8 (by decide), fun z => absurd z (by decide), fun z => rfl⟩
theorem fp_X10_26 : FP 10 9 RX10 26 (.array .boolean) 1 := ⟨RX10, TX10, 34, tyX10, "FieldgrammarModel", rfl, by decide, by decide, by decide, gin_X10, tyX10_ok, nmX10, wm_1050, Or.inl rfl, tyX10_ok 9 (by decide), fun z => absurd z (by decide), fun z => rfl⟩
theorem fp_X10_130 : FP 10 10 RX10 130 .int 0 := ⟨RX10, TX10, 34, tyX10, "FieldgrammarModel", rfl, by decide, by decide, by decide, gin_X10, tyX10_ok, nmX10, wm_1051, Or.inl rfl, tyX10_ok 10 (by decide), fun z => rfl, fun z => absurd z (by decide)⟩
theorem fp_X10_30 : FP 10 11 RX10 30 (.array .long) 1 := ⟨RX10, TX10, 34, tyX10, "FieldgrammarModel", rfl, by decide, by decide, by decide, gin_X10, tyX10_ok, nmX10, wm_1052, Or.inl rfl, tyX10_ok 11 (by decide), fun z => absurd z (by decide), fun z => rfl⟩
theorem fp_X10_33 : FP 10 12 RX10 33 (.array .long) 1 := ⟨RX10, TX10, 34, tyX10, "FieldgrammarModel", rfl, by decide, by decide, by decide, gin_X10, tyX10_ok, nmX10, wm_1053, Or.inl rfl, tyX10_ok 12 (by decide), fun z => absurd z (by decide), fun z => rfl⟩
theorem fp_X10_36 : FP 10 13 RX10 36 (.array .int) 1 := ⟨RX10, TX10, 34, tyX10, "FieldgrammarModel", rfl, by decide, by decide, by decide, gin_X10, tyX10_ok, nmX10, wm_1054, Or.inl rfl, tyX10_ok 13 (by decide), fun z => absurd z (by decide), fun z => rfl⟩
theorem fp_X10_39 : FP 10 14 RX10 39 (.array .int) 1 := ⟨RX10, TX10, 34, tyX10, "FieldgrammarModel", rfl, by decide, by decide, by decide, gin_X10, tyX10_ok, nmX10, wm_1055, Or.inl rfl, tyX10_ok 14 (by decide), fun z => absurd z (by decide), fun z => rfl⟩
theorem fp_X10_42 : FP 10 15 RX10 42 (.array .int) 1 := ⟨RX10, TX10, 34, tyX10, "FieldgrammarModel", rfl, by decide, by decide, by decide, gin_X10, tyX10_ok, nmX10, wm_1056, Or.inl rfl, tyX10_ok 15 (by decide), fun z => absurd z (by decide), fun z => rfl⟩
theorem fp_X10_45 : FP 10 16 RX10 45 (.array .int) 1 := ⟨RX10, TX10, 34, tyX10, "FieldgrammarModel", rfl, by decide, by decide, by decide, gin_X10, tyX10_ok, nmX10, wm_1057, Or.inl rfl, tyX10_ok 16 (by decide), fun z => absurd z (by decide), fun z => rfl⟩
theorem fp_X10_48 : FP 10 17 RX10 48 (.array .int) 1 := ⟨RX10, TX10, 34, tyX10, "FieldgrammarModel", rfl, by decide, by decide, by decide, gin_X10, tyX10_ok, nmX10, wm_1058, Or.inl rfl, tyX10_ok 17 (by decide), fun z => absurd z (by decide), fun z => rfl⟩
theorem fp_X10_155 : FP 10 18 RX10 155 .int 0 := ⟨RX10, TX10, 34, tyX10, "FieldgrammarModel", rfl, by decide, by decide, by decide, gin_X10, tyX10_ok, nmX10, wm_1059, Or.inl rfl, tyX10_ok 18 (by decide), fun z => rfl, fun z => absurd z (by decide)⟩
theorem fp_X10_133 : FP 10 19 RX10 133 .int 0 := ⟨RX10, TX10, 34, tyX10, "FieldgrammarModel", rfl, by decide, by decide, by decide, gin_X10, tyX10_ok, nmX10, wm_1060, Or.inl rfl, tyX10_ok 19 (by decide), fun z => rfl, fun z => absurd z (by decide)⟩
theorem fp_X10_165 : FP 10 20 RX10 165 .int 0 := ⟨RX10, TX10, 34, tyX10, "FieldgrammarModel", rfl, by decide, by decide, by decide, gin_X10, tyX10_ok, nmX10, wm_1061, Or.inl rfl, tyX10_ok 20 (by decide), fun z => rfl, fun z => absurd z (by decide)⟩
theorem fp_X10_51 : FP 10 21 RX10 51 (.array .int) 1 := ⟨RX10, TX10, 34, tyX10, "FieldgrammarModel", rfl, by decide, by decide, by decide, gin_X10, tyX10_ok, nmX10, wm_1062, Or.inl rfl, tyX10_ok 21 (by decide), fun z => absurd z (by decide), fun z => rfl⟩
theorem fp_X10_54 : FP 10 22 RX10 54 (.array .int) 1 := ⟨RX10, TX10, 34, tyX10, "FieldgrammarModel", rfl, by decide, by decide, by decide, gin_X10, tyX10_ok, nmX10, wm_1063, Or.inl rfl, tyX10_ok 22 (by decide), fun z => absurd z (by decide), fun z => rfl⟩
theorem fp_X10_57 : FP 10 23 RX10 57 (.array .int) 1 := ⟨RX10, TX10, 34, tyX10, "FieldgrammarModel", rfl, by decide, by decide, by decide, gin_X10, tyX10_ok, nmX10, wm_1064, Or.inl rfl, tyX10_ok 23 (by decide), fun z => absurd z (by decide), fun z => rfl⟩
theorem fp_X10_60 : FP 10 24 RX10 60 (.array .long) 1 := ⟨RX10, TX10, 34, tyX10, "FieldgrammarModel", rfl, by decide, by decide, by decide, gin_X10, tyX10_ok, nmX10, wm_1065, Or.inl rfl, tyX10_ok 24 (by decide), fun z => absurd z (by decide), fun z => rfl⟩
theorem fp_X10_63 : FP 10 25 RX10 63 (.array .boolean) 1 := ⟨RX10, TX10, 34, tyX10, "FieldgrammarModel", rfl, by decide, by decide, by decide, gin_X10, tyX10_ok, nmX10, wm_1066, Or.inl rfl, tyX10_ok 25 (by decide), fun z => absurd z (by decide), fun z => rfl⟩
theorem fp_X10_187 : FP 10 26 RX10 187 .int 0 := ⟨RX10, TX10, 34, tyX10, "FieldgrammarModel", rfl, by decide, by decide, by decide, gin_X10, tyX10_ok, nmX10, wm_1067, Or.inl rfl, tyX10_ok 26 (by decide), fun z => rfl, fun z => absurd z (by decide)⟩
theorem fp_X10_66 : FP 10 27 RX10 66 (.array .boolean) 1 := ⟨RX10, TX10, 34, tyX10, "FieldgrammarModel", rfl, by decide, by decide, by decide, gin_X10, tyX10_ok, nmX10, wm_1068, Or.inl rfl, tyX10_ok 27 (by decide), fun z => absurd z (by decide), fun z => rfl⟩
theorem fp_X10_69 : FP 10 28 RX10 69 (.array .int) 1 := ⟨RX10, TX10, 34, tyX10, "FieldgrammarModel", rfl, by decide, by decide, by decide, gin_X10, tyX10_ok, nmX10, wm_1069, Or.inl rfl, tyX10_ok 28 (by decide), fun z => absurd z (by decide), fun z => rfl⟩
theorem fp_X10_72 : FP 10 29 RX10 72 (.array .int) 1 := ⟨RX10, TX10, 34, tyX10, "FieldgrammarModel", rfl, by decide, by decide, by decide, gin_X10, tyX10_ok, nmX10, wm_1070, Or.inl rfl, tyX10_ok 29 (by decide), fun z => absurd z (by decide), fun z => rfl⟩
theorem fp_X10_75 : FP 10 30 RX10 75 (.array .long) 1 := ⟨RX10, TX10, 34, tyX10, "FieldgrammarModel", rfl, by decide, by decide, by decide, gin_X10, tyX10_ok, nmX10, wm_1071, Or.inl rfl, tyX10_ok 30 (by decide), fun z => absurd z (by decide), fun z => rfl⟩
theorem fp_X10_78 : FP 10 31 RX10 78 (.array .long) 1 := ⟨RX10, TX10, 34, tyX10, "FieldgrammarModel", rfl, by decide, by decide, by decide, gin_X10, tyX10_ok, nmX10, wm_1072, Or.inl rfl, tyX10_ok 31 (by decide), fun z => absurd z (by decide), fun z => rfl⟩
theorem fp_X10_193 : FP 10 32 RX10 193 .int 0 := ⟨RX10, TX10, 34, tyX10, "FieldgrammarModel", rfl, by decide, by decide, by decide, gin_X10, tyX10_ok, nmX10, wm_1073, Or.inl rfl, tyX10_ok 32 (by decide), fun z => rfl, fun z => absurd z (by decide)⟩
theorem fp_X10_81 : FP 10 33 RX10 81 (.array .long) 1 := ⟨RX10, TX10, 34, tyX10, "FieldgrammarModel", rfl, by decide, by decide, by decide, gin_X10, tyX10_ok, nmX10, wm_1074, Or.inl rfl, tyX10_ok 33 (by decide), fun z => absurd z (by decide), fun z => rfl⟩
theorem mp_X9_init : MPI yX9_init cX9_init 1 0 := ⟨⟨wm_85, wm_53, by decide +kernel, by decide +kernel⟩, rfl, wm_84⟩
theorem mp_X5_init : MPI yX5_init cX5_init 1 0 := ⟨⟨wm_93, wm_54, by decide +kernel, by decide +kernel⟩, rfl, wm_92⟩
theorem mp_Jx4a65c_init_da8c8 : MPI yJx4a65c_init_da8c8 cJx4a65c_init_da8c8 1 0 := ⟨⟨wm_99, wm_57, by decide +kernel, by decide +kernel⟩, rfl, wm_98⟩
theorem mp_Jxc12de_init_da8c8 : MPI yJxc12de_init_da8c8 cJxc12de_init_da8c8 1 0 := ⟨⟨wm_102, wm_56, by decide +kernel, by decide +kernel⟩, rfl, wm_101⟩
theorem mp_Jxa1e45_init_da8c8 : MPI yJxa1e45_init_da8c8 cJxa1e45_init_da8c8 1 0 := ⟨⟨wm_105, wm_55, by decide +kernel, by decide +kernel⟩, rfl, wm_104⟩
theorem mp_X2_init : MPI yX2_init cX2_init 4 3 := ⟨⟨wm_126, wm_58, by decide +kernel, by decide +kernel⟩, rfl, wm_125⟩
theorem mp_X4_init : MPI yX4_init cX4_init 1 0 := ⟨⟨wm_175, wm_59, by decide +kernel, by decide +kernel⟩, rfl, wm_174⟩
theorem mp_X0_init : MPI yX0_init cX0_init 1 0 := ⟨⟨wm_193, wm_60, by decide +kernel, by decide +kernel⟩, rfl, wm_192⟩
theorem mp_X9_wipe : MPV yX9_wipe cX9_wipe 1 (some .int) 0 := ⟨⟨wm_218, wm_53, by decide +kernel, by decide +kernel⟩, wm_216, wm_217⟩
theorem mp_X9_takeDraft : MPV yX9_takeDraft cX9_takeDraft 3 (some .long) 0 := ⟨⟨wm_222, wm_53, by decide +kernel, by decide +kernel⟩, wm_221, wm_0⟩
theorem mp_X6_sizeOf : MPS yX6_sizeOf cX6_sizeOf 3 (some .int) 1 := ⟨⟨wm_225, wm_67, by decide +kernel, by decide +kernel⟩, wm_224⟩
theorem mp_X9_fitting : MPV yX9_fitting cX9_fitting 1 (some .int) 0 := ⟨⟨wm_229, wm_53, by decide +kernel, by decide +kernel⟩, wm_227, wm_228⟩
theorem mp_X9_fittingSets : MPV yX9_fittingSets cX9_fittingSets 7 (some .long) 0 := ⟨⟨wm_233, wm_53, by decide +kernel, by decide +kernel⟩, wm_232, wm_1⟩
theorem mp_X5_ruleCount : MPV yX5_ruleCount cX5_ruleCount 1 (some .int) 0 := ⟨⟨wm_237, wm_54, by decide +kernel, by decide +kernel⟩, wm_235, wm_236⟩
theorem mp_Jx4a65c_size_8abf5 : MPV yJx4a65c_size_8abf5 cJx4a65c_size_8abf5 1 (some .int) 0 := ⟨⟨wm_241, wm_57, by decide +kernel, by decide +kernel⟩, wm_239, wm_240⟩
theorem mp_X4_wordCount : MPV yX4_wordCount cX4_wordCount 1 (some .int) 0 := ⟨⟨wm_246, wm_59, by decide +kernel, by decide +kernel⟩, wm_244, wm_245⟩
theorem mp_X4_wordNumbered : MPV yX4_wordNumbered cX4_wordNumbered 3 (some (.object "Fieldgrammar$Word")) 1 := ⟨⟨wm_251, wm_59, by decide +kernel, by decide +kernel⟩, wm_249, wm_250⟩
theorem mp_Jx4a65c_get_915e3 : MPV yJx4a65c_get_915e3 cJx4a65c_get_915e3 2 (some (.object "java/lang/Object")) 1 := ⟨⟨wm_255, wm_57, by decide +kernel, by decide +kernel⟩, wm_253, wm_254⟩
theorem mp_J15_checkIndex_7cf53 : MPS yJ15_checkIndex_7cf53 cJ15_checkIndex_7cf53 2 (some .int) 2 := ⟨⟨wm_258, wm_68, by decide +kernel, by decide +kernel⟩, wm_257⟩
theorem mp_J3_checkIndex_8e157 : MPS yJ3_checkIndex_8e157 cJ3_checkIndex_8e157 3 (some .int) 3 := ⟨⟨wm_261, wm_69, by decide +kernel, by decide +kernel⟩, wm_260⟩
theorem mp_Jx4a65c_elementData_915e3 : MPV yJx4a65c_elementData_915e3 cJx4a65c_elementData_915e3 2 (some (.object "java/lang/Object")) 1 := ⟨⟨wm_265, wm_57, by decide +kernel, by decide +kernel⟩, wm_263, wm_264⟩
theorem mp_X8_isOfException : MPV yX8_isOfException cX8_isOfException 1 (some .boolean) 0 := ⟨⟨wm_270, wm_77, by decide +kernel, by decide +kernel⟩, wm_268, wm_269⟩
theorem mp_X0_has : MPV yX0_has cX0_has 2 (some .boolean) 1 := ⟨⟨wm_274, wm_60, by decide +kernel, by decide +kernel⟩, wm_272, wm_273⟩
theorem mp_X0_isCell : MPS yX0_isCell cX0_isCell 1 (some .boolean) 1 := ⟨⟨wm_277, wm_60, by decide +kernel, by decide +kernel⟩, wm_276⟩
theorem mp_X9_underlying : MPV yX9_underlying cX9_underlying 3 (some .long) 2 := ⟨⟨wm_281, wm_53, by decide +kernel, by decide +kernel⟩, wm_280, wm_2⟩
theorem mp_X0_in : MPV yX0_in cX0_in 2 (some .long) 1 := ⟨⟨wm_285, wm_60, by decide +kernel, by decide +kernel⟩, wm_283, wm_284⟩
theorem mp_X6_joined : MPS yX6_joined cX6_joined 5 (some .long) 2 := ⟨⟨wm_288, wm_67, by decide +kernel, by decide +kernel⟩, wm_287⟩
theorem mp_X5_deriveByAllSets : MPV yX5_deriveByAllSets cX5_deriveByAllSets 7 none 1 := ⟨⟨wm_293, wm_54, by decide +kernel, by decide +kernel⟩, wm_291, wm_292⟩
theorem mp_X7_bit : MPV yX7_bit cX7_bit 1 (some .int) 0 := ⟨⟨wm_299, wm_76, by decide +kernel, by decide +kernel⟩, wm_297, wm_298⟩
theorem mp_X5_goOver : MPV yX5_goOver cX5_goOver 10 (some .long) 2 := ⟨⟨wm_303, wm_54, by decide +kernel, by decide +kernel⟩, wm_302, wm_3⟩
theorem mp_X6_codeAt : MPS yX6_codeAt cX6_codeAt 3 (some .int) 2 := ⟨⟨wm_306, wm_67, by decide +kernel, by decide +kernel⟩, wm_305⟩
theorem mp_X7_meets : MPV yX7_meets cX7_meets 4 (some .boolean) 3 := ⟨⟨wm_310, wm_76, by decide +kernel, by decide +kernel⟩, wm_308, wm_309⟩
theorem mp_X5_turnedCode : MPV yX5_turnedCode cX5_turnedCode 5 (some .int) 2 := ⟨⟨wm_314, wm_54, by decide +kernel, by decide +kernel⟩, wm_313, wm_4⟩
theorem mp_X6_with : MPS yX6_with cX6_with 4 (some .long) 3 := ⟨⟨wm_317, wm_67, by decide +kernel, by decide +kernel⟩, wm_316⟩
theorem mp_X5_wordBySet : MPV yX5_wordBySet cX5_wordBySet 2 (some .long) 1 := ⟨⟨wm_321, wm_54, by decide +kernel, by decide +kernel⟩, wm_319, wm_320⟩
theorem mp_J13_bitCount_95d88 : MPS yJ13_bitCount_95d88 cJ13_bitCount_95d88 2 (some .int) 1 := ⟨⟨wm_324, wm_79, by decide +kernel, by decide +kernel⟩, wm_323⟩
theorem mp_X9_smallest : MPV yX9_smallest cX9_smallest 5 (some .int) 0 := ⟨⟨wm_331, wm_53, by decide +kernel, by decide +kernel⟩, wm_329, wm_330⟩
theorem mp_X9_isSetIn : MPS yX9_isSetIn cX9_isSetIn 3 (some .boolean) 2 := ⟨⟨wm_334, wm_53, by decide +kernel, by decide +kernel⟩, wm_333⟩
theorem mp_J6_bitCount_0f7a4 : MPS yJ6_bitCount_0f7a4 cJ6_bitCount_0f7a4 1 (some .int) 1 := ⟨⟨wm_337, wm_80, by decide +kernel, by decide +kernel⟩, wm_336⟩
theorem mp_X9_question : MPV yX9_question cX9_question 10 (some .int) 0 := ⟨⟨wm_344, wm_53, by decide +kernel, by decide +kernel⟩, wm_342, wm_343⟩
theorem mp_X4_lexemeCount : MPV yX4_lexemeCount cX4_lexemeCount 1 (some .int) 0 := ⟨⟨wm_348, wm_59, by decide +kernel, by decide +kernel⟩, wm_346, wm_347⟩
theorem mp_X4_lexemeNumbered : MPV yX4_lexemeNumbered cX4_lexemeNumbered 3 (some (.object "Fieldgrammar$Lexeme")) 1 := ⟨⟨wm_352, wm_59, by decide +kernel, by decide +kernel⟩, wm_350, wm_351⟩
theorem mp_X4_cellsHeard : MPV yX4_cellsHeard cX4_cellsHeard 5 (some .int) 1 := ⟨⟨wm_357, wm_59, by decide +kernel, by decide +kernel⟩, wm_355, wm_356⟩
theorem mp_X9_countUnlike : MPV yX9_countUnlike cX9_countUnlike 7 (some .int) 2 := ⟨⟨wm_363, wm_53, by decide +kernel, by decide +kernel⟩, wm_362, wm_5⟩
theorem mp_X9_isWordOfLowerSet : MPV yX9_isWordOfLowerSet cX9_isWordOfLowerSet 5 (some .boolean) 2 := ⟨⟨wm_367, wm_53, by decide +kernel, by decide +kernel⟩, wm_366, wm_6⟩
theorem mp_X9_sound : MPV yX9_sound cX9_sound 2 (some .int) 1 := ⟨⟨wm_376, wm_53, by decide +kernel, by decide +kernel⟩, wm_374, wm_375⟩
theorem mp_X9_checkFeatures : MPS yX9_checkFeatures cX9_checkFeatures 1 none 1 := ⟨⟨wm_379, wm_53, by decide +kernel, by decide +kernel⟩, wm_378⟩
theorem mp_X5_hasSoundWith : MPV yX5_hasSoundWith cX5_hasSoundWith 2 (some .boolean) 1 := ⟨⟨wm_446, wm_54, by decide +kernel, by decide +kernel⟩, wm_444, wm_445⟩
theorem mp_X5_soundCount : MPV yX5_soundCount cX5_soundCount 1 (some .int) 0 := ⟨⟨wm_450, wm_54, by decide +kernel, by decide +kernel⟩, wm_448, wm_449⟩
theorem mp_X5_addSound : MPV yX5_addSound cX5_addSound 5 (some .int) 1 := ⟨⟨wm_469, wm_54, by decide +kernel, by decide +kernel⟩, wm_467, wm_468⟩
theorem mp_X6_codeOf : MPS yX6_codeOf cX6_codeOf 1 (some .int) 1 := ⟨⟨wm_472, wm_67, by decide +kernel, by decide +kernel⟩, wm_471⟩
theorem mp_X2_look : MPV yX2_look cX2_look 3 none 2 := ⟨⟨wm_476, wm_58, by decide +kernel, by decide +kernel⟩, wm_474, wm_475⟩
theorem mp_X9_kind : MPV yX9_kind cX9_kind 3 (some .int) 2 := ⟨⟨wm_483, wm_53, by decide +kernel, by decide +kernel⟩, wm_481, wm_482⟩
theorem mp_X5_kindCount : MPV yX5_kindCount cX5_kindCount 1 (some .int) 0 := ⟨⟨wm_487, wm_54, by decide +kernel, by decide +kernel⟩, wm_485, wm_486⟩
theorem mp_X5_addKind : MPV yX5_addKind cX5_addKind 6 (some .int) 2 := ⟨⟨wm_491, wm_54, by decide +kernel, by decide +kernel⟩, wm_489, wm_490⟩
theorem mp_Jx4a65c_add_9ea2d : MPV yJx4a65c_add_9ea2d cJx4a65c_add_9ea2d 2 (some .boolean) 1 := ⟨⟨wm_495, wm_57, by decide +kernel, by decide +kernel⟩, wm_493, wm_494⟩
theorem mp_Jx4a65c_add_72be8 : MPV yJx4a65c_add_72be8 cJx4a65c_add_72be8 4 none 3 := ⟨⟨wm_499, wm_57, by decide +kernel, by decide +kernel⟩, wm_498, wm_8⟩
theorem mp_Jx4a65c_grow_d5877 : MPV yJx4a65c_grow_d5877 cJx4a65c_grow_d5877 1 (some (.array (.object "java/lang/Object"))) 0 := ⟨⟨wm_503, wm_57, by decide +kernel, by decide +kernel⟩, wm_502, wm_9⟩
theorem mp_Jx4a65c_grow_92f84 : MPV yJx4a65c_grow_92f84 cJx4a65c_grow_92f84 4 (some (.array (.object "java/lang/Object"))) 1 := ⟨⟨wm_507, wm_57, by decide +kernel, by decide +kernel⟩, wm_506, wm_10⟩
theorem mp_J8_newLength_cabcc : MPS yJ8_newLength_cabcc cJ8_newLength_cabcc 4 (some .int) 3 := ⟨⟨wm_510, wm_70, by decide +kernel, by decide +kernel⟩, wm_509⟩
theorem mp_J9_max_7cf53 : MPS yJ9_max_7cf53 cJ9_max_7cf53 2 (some .int) 2 := ⟨⟨wm_513, wm_71, by decide +kernel, by decide +kernel⟩, wm_512⟩
theorem mp_J8_hugeLength_7cf53 : MPS yJ8_hugeLength_7cf53 cJ8_hugeLength_7cf53 3 (some .int) 2 := ⟨⟨wm_517, wm_70, by decide +kernel, by decide +kernel⟩, wm_516⟩
theorem mp_J7_copyOf_1904c : MPS yJ7_copyOf_1904c cJ7_copyOf_1904c 2 (some (.array (.object "java/lang/Object"))) 2 := ⟨⟨wm_520, wm_72, by decide +kernel, by decide +kernel⟩, wm_519⟩
theorem mp_J7_copyOf_6403c : MPS yJ7_copyOf_6403c cJ7_copyOf_6403c 4 (some (.array (.object "java/lang/Object"))) 3 := ⟨⟨wm_541, wm_72, by decide +kernel, by decide +kernel⟩, wm_540⟩
theorem mp_J9_min_7cf53 : MPS yJ9_min_7cf53 cJ9_min_7cf53 2 (some .int) 2 := ⟨⟨wm_547, wm_71, by decide +kernel, by decide +kernel⟩, wm_546⟩
theorem mp_X9_put : MPV yX9_put cX9_put 3 (some .int) 1 := ⟨⟨wm_560, wm_53, by decide +kernel, by decide +kernel⟩, wm_558, wm_559⟩
theorem mp_X9_checkSound : MPV yX9_checkSound cX9_checkSound 2 none 1 := ⟨⟨wm_564, wm_53, by decide +kernel, by decide +kernel⟩, wm_563, wm_11⟩
theorem mp_X9_lexeme : MPV yX9_lexeme cX9_lexeme 1 (some .int) 0 := ⟨⟨wm_588, wm_53, by decide +kernel, by decide +kernel⟩, wm_586, wm_587⟩
theorem mp_X9_checkLexemesLeft : MPV yX9_checkLexemesLeft cX9_checkLexemesLeft 1 none 0 := ⟨⟨wm_592, wm_53, by decide +kernel, by decide +kernel⟩, wm_591, wm_12⟩
theorem mp_X9_checkDraftIsForm : MPV yX9_checkDraftIsForm cX9_checkDraftIsForm 2 none 0 := ⟨⟨wm_596, wm_53, by decide +kernel, by decide +kernel⟩, wm_595, wm_13⟩
theorem mp_X4_addLexeme : MPV yX4_addLexeme cX4_addLexeme 4 (some (.object "Fieldgrammar$Lexeme")) 1 := ⟨⟨wm_600, wm_59, by decide +kernel, by decide +kernel⟩, wm_598, wm_599⟩
theorem mp_X3_init : MPI yX3_init cX3_init 4 2 := ⟨⟨wm_604, wm_75, by decide +kernel, by decide +kernel⟩, rfl, wm_603⟩
theorem mp_X9_reform : MPV yX9_reform cX9_reform 3 none 1 := ⟨⟨wm_635, wm_53, by decide +kernel, by decide +kernel⟩, wm_633, wm_634⟩
theorem mp_X9_lexemeNumbered : MPV yX9_lexemeNumbered cX9_lexemeNumbered 3 (some (.object "Fieldgrammar$Lexeme")) 1 := ⟨⟨wm_639, wm_53, by decide +kernel, by decide +kernel⟩, wm_638, wm_14⟩
theorem mp_X9_ending : MPV yX9_ending cX9_ending 2 none 1 := ⟨⟨wm_646, wm_53, by decide +kernel, by decide +kernel⟩, wm_644, wm_645⟩
theorem mp_X9_checkCell : MPS yX9_checkCell cX9_checkCell 1 none 1 := ⟨⟨wm_649, wm_53, by decide +kernel, by decide +kernel⟩, wm_648⟩
theorem mp_X0_give : MPV yX0_give cX0_give 4 none 2 := ⟨⟨wm_654, wm_60, by decide +kernel, by decide +kernel⟩, wm_652, wm_653⟩
theorem mp_X9_rule : MPV yX9_rule cX9_rule 8 (some .int) 4 := ⟨⟨wm_661, wm_53, by decide +kernel, by decide +kernel⟩, wm_659, wm_660⟩
theorem mp_X5_kindNumbered : MPV yX5_kindNumbered cX5_kindNumbered 2 (some (.object "Fieldgrammar$Kind")) 1 := ⟨⟨wm_665, wm_54, by decide +kernel, by decide +kernel⟩, wm_663, wm_664⟩
theorem mp_X5_sideNumbered : MPV yX5_sideNumbered cX5_sideNumbered 2 (some (.object "Fieldgrammar$Kind")) 1 := ⟨⟨wm_669, wm_54, by decide +kernel, by decide +kernel⟩, wm_667, wm_668⟩
theorem mp_X5_addRule : MPV yX5_addRule cX5_addRule 6 (some .int) 4 := ⟨⟨wm_674, wm_54, by decide +kernel, by decide +kernel⟩, wm_672, wm_673⟩
theorem mp_X7_init : MPI yX7_init cX7_init 6 5 := ⟨⟨wm_678, wm_76, by decide +kernel, by decide +kernel⟩, rfl, wm_677⟩
theorem mp_X9_turn : MPV yX9_turn cX9_turn 3 (some .boolean) 2 := ⟨⟨wm_704, wm_53, by decide +kernel, by decide +kernel⟩, wm_702, wm_703⟩
theorem mp_X9_ruleNumbered : MPV yX9_ruleNumbered cX9_ruleNumbered 3 (some (.object "Fieldgrammar$Rule")) 1 := ⟨⟨wm_708, wm_53, by decide +kernel, by decide +kernel⟩, wm_707, wm_15⟩
theorem mp_X5_ruleNumbered : MPV yX5_ruleNumbered cX5_ruleNumbered 2 (some (.object "Fieldgrammar$Rule")) 1 := ⟨⟨wm_712, wm_54, by decide +kernel, by decide +kernel⟩, wm_710, wm_711⟩
theorem mp_X5_setOn : MPV yX5_setOn cX5_setOn 4 (some .boolean) 2 := ⟨⟨wm_716, wm_54, by decide +kernel, by decide +kernel⟩, wm_714, wm_715⟩
theorem mp_X7_isIn : MPV yX7_isIn cX7_isIn 2 (some .boolean) 1 := ⟨⟨wm_720, wm_76, by decide +kernel, by decide +kernel⟩, wm_718, wm_719⟩
theorem mp_X9_raise : MPV yX9_raise cX9_raise 2 (some .int) 1 := ⟨⟨wm_728, wm_53, by decide +kernel, by decide +kernel⟩, wm_726, wm_727⟩
theorem mp_X5_moveAhead : MPV yX5_moveAhead cX5_moveAhead 3 (some .int) 1 := ⟨⟨wm_732, wm_54, by decide +kernel, by decide +kernel⟩, wm_730, wm_731⟩
theorem mp_Jx4a65c_set_bcc79 : MPV yJx4a65c_set_bcc79 cJx4a65c_set_bcc79 4 (some (.object "java/lang/Object")) 2 := ⟨⟨wm_736, wm_57, by decide +kernel, by decide +kernel⟩, wm_734, wm_735⟩
theorem mp_X9_hear : MPV yX9_hear cX9_hear 5 (some .int) 3 := ⟨⟨wm_743, wm_53, by decide +kernel, by decide +kernel⟩, wm_741, wm_742⟩
theorem mp_X9_checkSpeaker : MPS yX9_checkSpeaker cX9_checkSpeaker 1 none 1 := ⟨⟨wm_746, wm_53, by decide +kernel, by decide +kernel⟩, wm_745⟩
theorem mp_X4_addWord : MPV yX4_addWord cX4_addWord 6 (some .int) 4 := ⟨⟨wm_750, wm_59, by decide +kernel, by decide +kernel⟩, wm_748, wm_749⟩
theorem mp_X8_init : MPI yX8_init cX8_init 6 4 := ⟨⟨wm_754, wm_77, by decide +kernel, by decide +kernel⟩, rfl, wm_753⟩
theorem mp_X9_correct : MPV yX9_correct cX9_correct 5 (some .boolean) 1 := ⟨⟨wm_787, wm_53, by decide +kernel, by decide +kernel⟩, wm_785, wm_786⟩
theorem mp_X9_wordNumbered : MPV yX9_wordNumbered cX9_wordNumbered 3 (some (.object "Fieldgrammar$Word")) 1 := ⟨⟨wm_791, wm_53, by decide +kernel, by decide +kernel⟩, wm_790, wm_16⟩
theorem mp_X9_forget : MPV yX9_forget cX9_forget 2 (some .int) 1 := ⟨⟨wm_798, wm_53, by decide +kernel, by decide +kernel⟩, wm_796, wm_797⟩
theorem mp_X4_wordsLeft : MPV yX4_wordsLeft cX4_wordsLeft 3 (some .int) 0 := ⟨⟨wm_802, wm_59, by decide +kernel, by decide +kernel⟩, wm_800, wm_801⟩
theorem mp_X9_except : MPV yX9_except cX9_except 6 (some .boolean) 3 := ⟨⟨wm_809, wm_53, by decide +kernel, by decide +kernel⟩, wm_807, wm_808⟩
theorem mp_X0_drop : MPV yX0_drop cX0_drop 2 none 1 := ⟨⟨wm_813, wm_60, by decide +kernel, by decide +kernel⟩, wm_811, wm_812⟩
theorem mp_X9_merge : MPV yX9_merge cX9_merge 5 (some .int) 2 := ⟨⟨wm_820, wm_53, by decide +kernel, by decide +kernel⟩, wm_818, wm_819⟩
theorem mp_X4_mergeInto : MPV yX4_mergeInto cX4_mergeInto 4 (some .int) 2 := ⟨⟨wm_824, wm_59, by decide +kernel, by decide +kernel⟩, wm_822, wm_823⟩
theorem mp_X4_begin : MPV yX4_begin cX4_begin 5 (some (.object "Fieldgrammar$Change")) 3 := ⟨⟨wm_828, wm_59, by decide +kernel, by decide +kernel⟩, wm_827, wm_17⟩
theorem mp_X1_init : MPI yX1_init cX1_init 4 3 := ⟨⟨wm_833, wm_78, by decide +kernel, by decide +kernel⟩, rfl, wm_832⟩
theorem mp_X1_staying : MPV yX1_staying cX1_staying 1 (some (.object "Fieldgrammar$Lexeme")) 0 := ⟨⟨wm_860, wm_78, by decide +kernel, by decide +kernel⟩, wm_858, wm_859⟩
theorem mp_X0_copyFrom : MPV yX0_copyFrom cX0_copyFrom 3 none 1 := ⟨⟨wm_864, wm_60, by decide +kernel, by decide +kernel⟩, wm_862, wm_863⟩
theorem mp_X0_fillGapsFrom : MPV yX0_fillGapsFrom cX0_fillGapsFrom 3 none 1 := ⟨⟨wm_869, wm_60, by decide +kernel, by decide +kernel⟩, wm_867, wm_868⟩
theorem mp_X4_moveWords : MPV yX4_moveWords cX4_moveWords 8 (some .long) 3 := ⟨⟨wm_875, wm_59, by decide +kernel, by decide +kernel⟩, wm_874, wm_18⟩
theorem mp_X9_split : MPV yX9_split cX9_split 4 (some .int) 2 := ⟨⟨wm_883, wm_53, by decide +kernel, by decide +kernel⟩, wm_881, wm_882⟩
theorem mp_X4_splitOff : MPV yX4_splitOff cX4_splitOff 5 (some .int) 2 := ⟨⟨wm_887, wm_59, by decide +kernel, by decide +kernel⟩, wm_885, wm_886⟩
theorem mp_X0_moveTo : MPV yX0_moveTo cX0_moveTo 4 none 2 := ⟨⟨wm_892, wm_60, by decide +kernel, by decide +kernel⟩, wm_890, wm_891⟩
theorem mp_X9_undo : MPV yX9_undo cX9_undo 1 (some .int) 0 := ⟨⟨wm_900, wm_53, by decide +kernel, by decide +kernel⟩, wm_898, wm_899⟩
theorem mp_X4_changesLeft : MPV yX4_changesLeft cX4_changesLeft 1 (some .int) 0 := ⟨⟨wm_904, wm_59, by decide +kernel, by decide +kernel⟩, wm_902, wm_903⟩
theorem mp_X4_takeBack : MPV yX4_takeBack cX4_takeBack 6 (some .int) 0 := ⟨⟨wm_908, wm_59, by decide +kernel, by decide +kernel⟩, wm_906, wm_907⟩
theorem mp_Jx4a65c_remove_915e3 : MPV yJx4a65c_remove_915e3 cJx4a65c_remove_915e3 4 (some (.object "java/lang/Object")) 1 := ⟨⟨wm_912, wm_57, by decide +kernel, by decide +kernel⟩, wm_910, wm_911⟩
theorem mp_Jx4a65c_fastRemove_b59b0 : MPV yJx4a65c_fastRemove_b59b0 cJx4a65c_fastRemove_b59b0 4 none 2 := ⟨⟨wm_916, wm_57, by decide +kernel, by decide +kernel⟩, wm_915, wm_19⟩
theorem mp_X9_length : MPV yX9_length cX9_length 4 (some .int) 2 := ⟨⟨wm_924, wm_53, by decide +kernel, by decide +kernel⟩, wm_922, wm_923⟩
theorem mp_X5_setOfOn : MPV yX5_setOfOn cX5_setOfOn 1 (some .int) 0 := ⟨⟨wm_928, wm_54, by decide +kernel, by decide +kernel⟩, wm_926, wm_927⟩
theorem mp_X9_wordOf : MPV yX9_wordOf cX9_wordOf 4 (some .long) 3 := ⟨⟨wm_932, wm_53, by decide +kernel, by decide +kernel⟩, wm_931, wm_20⟩
theorem mp_X5_derive : MPV yX5_derive cX5_derive 8 (some .long) 2 := ⟨⟨wm_936, wm_54, by decide +kernel, by decide +kernel⟩, wm_934, wm_935⟩
theorem mp_X9_at : MPV yX9_at cX9_at 5 (some .int) 3 := ⟨⟨wm_943, wm_53, by decide +kernel, by decide +kernel⟩, wm_941, wm_942⟩
theorem mp_X9_checkPlace : MPS yX9_checkPlace cX9_checkPlace 1 none 1 := ⟨⟨wm_946, wm_53, by decide +kernel, by decide +kernel⟩, wm_945⟩
theorem mp_X6_soundAt : MPS yX6_soundAt cX6_soundAt 4 (some .int) 2 := ⟨⟨wm_949, wm_67, by decide +kernel, by decide +kernel⟩, wm_948⟩
theorem mp_X9_step : MPV yX9_step cX9_step 5 (some .int) 3 := ⟨⟨wm_957, wm_53, by decide +kernel, by decide +kernel⟩, wm_955, wm_956⟩
theorem mp_X5_changesBy : MPV yX5_changesBy cX5_changesBy 10 (some .int) 2 := ⟨⟨wm_961, wm_54, by decide +kernel, by decide +kernel⟩, wm_959, wm_960⟩
theorem mp_X6_changesBetween : MPS yX6_changesBetween cX6_changesBetween 6 (some .int) 2 := ⟨⟨wm_964, wm_67, by decide +kernel, by decide +kernel⟩, wm_963⟩
theorem mp_X9_ofWord : MPV yX9_ofWord cX9_ofWord 4 (some .int) 2 := ⟨⟨wm_971, wm_53, by decide +kernel, by decide +kernel⟩, wm_969, wm_970⟩
theorem mp_X9_fits : MPV yX9_fits cX9_fits 3 (some .boolean) 2 := ⟨⟨wm_975, wm_53, by decide +kernel, by decide +kernel⟩, wm_974, wm_21⟩
theorem mp_X9_misfit : MPV yX9_misfit cX9_misfit 5 (some .int) 1 := ⟨⟨wm_982, wm_53, by decide +kernel, by decide +kernel⟩, wm_980, wm_981⟩
theorem mp_X9_claims : MPV yX9_claims cX9_claims 7 (some .int) 2 := ⟨⟨wm_989, wm_53, by decide +kernel, by decide +kernel⟩, wm_987, wm_988⟩
theorem mp_X9_isSupport : MPV yX9_isSupport cX9_isSupport 3 (some .boolean) 2 := ⟨⟨wm_993, wm_53, by decide +kernel, by decide +kernel⟩, wm_992, wm_22⟩
theorem mp_X9_isContradiction : MPV yX9_isContradiction cX9_isContradiction 4 (some .boolean) 2 := ⟨⟨wm_997, wm_53, by decide +kernel, by decide +kernel⟩, wm_996, wm_23⟩
theorem mp_X9_pairs : MPV yX9_pairs cX9_pairs 7 (some .int) 2 := ⟨⟨wm_1005, wm_53, by decide +kernel, by decide +kernel⟩, wm_1003, wm_1004⟩
theorem mp_X9_isPair : MPS yX9_isPair cX9_isPair 4 (some .boolean) 4 := ⟨⟨wm_1008, wm_53, by decide +kernel, by decide +kernel⟩, wm_1007⟩
theorem mp_X6_areApartBy : MPS yX6_areApartBy cX6_areApartBy 10 (some .boolean) 4 := ⟨⟨wm_1011, wm_67, by decide +kernel, by decide +kernel⟩, wm_1010⟩
theorem mp_X9_holes : MPV yX9_holes cX9_holes 2 (some .int) 1 := ⟨⟨wm_1018, wm_53, by decide +kernel, by decide +kernel⟩, wm_1016, wm_1017⟩
theorem mp_X9_shared : MPV yX9_shared cX9_shared 6 (some .int) 2 := ⟨⟨wm_1025, wm_53, by decide +kernel, by decide +kernel⟩, wm_1023, wm_1024⟩
theorem mp_X4_cellsShared : MPV yX4_cellsShared cX4_cellsShared 7 (some .int) 3 := ⟨⟨wm_1029, wm_59, by decide +kernel, by decide +kernel⟩, wm_1027, wm_1028⟩
theorem mp_X4_wasHeardBy : MPV yX4_wasHeardBy cX4_wasHeardBy 5 (some .boolean) 2 := ⟨⟨wm_1033, wm_59, by decide +kernel, by decide +kernel⟩, wm_1032, wm_24⟩
theorem mp_X10_init : MPI yX10_init cX10_init 2 0 := ⟨⟨wm_1038, wm_61, by decide +kernel, by decide +kernel⟩, rfl, wm_1037⟩
theorem mp_X10_thrown : MPV yX10_thrown cX10_thrown 1 (some .int) 0 := ⟨⟨wm_1148, wm_61, by decide +kernel, by decide +kernel⟩, wm_1146, wm_1147⟩
theorem mp_X10_sound : MPV yX10_sound cX10_sound 3 (some .int) 1 := ⟨⟨wm_1152, wm_61, by decide +kernel, by decide +kernel⟩, wm_1150, wm_1151⟩
theorem mp_X10_isIn : MPS yX10_isIn cX10_isIn 3 (some .boolean) 3 := ⟨⟨wm_1155, wm_61, by decide +kernel, by decide +kernel⟩, wm_1154⟩
theorem mp_X10_holds : MPV yX10_holds cX10_holds 2 (some .boolean) 1 := ⟨⟨wm_1159, wm_61, by decide +kernel, by decide +kernel⟩, wm_1158, wm_25⟩
theorem mp_X10_kind : MPV yX10_kind cX10_kind 3 (some .int) 2 := ⟨⟨wm_1163, wm_61, by decide +kernel, by decide +kernel⟩, wm_1161, wm_1162⟩
theorem mp_X10_put : MPV yX10_put cX10_put 2 (some .int) 1 := ⟨⟨wm_1167, wm_61, by decide +kernel, by decide +kernel⟩, wm_1165, wm_1166⟩
theorem mp_X10_isSound : MPV yX10_isSound cX10_isSound 2 (some .boolean) 1 := ⟨⟨wm_1171, wm_61, by decide +kernel, by decide +kernel⟩, wm_1170, wm_26⟩
theorem mp_X10_size : MPS yX10_size cX10_size 2 (some .int) 1 := ⟨⟨wm_1174, wm_61, by decide +kernel, by decide +kernel⟩, wm_1173⟩
theorem mp_X10_with : MPS yX10_with cX10_with 3 (some .long) 2 := ⟨⟨wm_1177, wm_61, by decide +kernel, by decide +kernel⟩, wm_1176⟩
theorem mp_X10_wipe : MPV yX10_wipe cX10_wipe 1 (some .int) 0 := ⟨⟨wm_1182, wm_61, by decide +kernel, by decide +kernel⟩, wm_1180, wm_1181⟩
theorem mp_X10_takesDraft : MPV yX10_takesDraft cX10_takesDraft 3 (some .long) 0 := ⟨⟨wm_1186, wm_61, by decide +kernel, by decide +kernel⟩, wm_1185, wm_27⟩
theorem mp_X10_lexeme : MPV yX10_lexeme cX10_lexeme 1 (some .int) 0 := ⟨⟨wm_1190, wm_61, by decide +kernel, by decide +kernel⟩, wm_1188, wm_1189⟩
theorem mp_X10_isForm : MPV yX10_isForm cX10_isForm 1 (some .boolean) 0 := ⟨⟨wm_1194, wm_61, by decide +kernel, by decide +kernel⟩, wm_1193, wm_28⟩
theorem mp_X10_makes : MPV yX10_makes cX10_makes 3 (some .int) 1 := ⟨⟨wm_1198, wm_61, by decide +kernel, by decide +kernel⟩, wm_1197, wm_29⟩
theorem mp_X10_reform : MPV yX10_reform cX10_reform 2 none 1 := ⟨⟨wm_1202, wm_61, by decide +kernel, by decide +kernel⟩, wm_1200, wm_1201⟩
theorem mp_X10_isLexeme : MPV yX10_isLexeme cX10_isLexeme 2 (some .boolean) 1 := ⟨⟨wm_1206, wm_61, by decide +kernel, by decide +kernel⟩, wm_1205, wm_30⟩
theorem mp_X10_ending : MPV yX10_ending cX10_ending 2 none 1 := ⟨⟨wm_1210, wm_61, by decide +kernel, by decide +kernel⟩, wm_1208, wm_1209⟩
theorem mp_X10_isCell : MPS yX10_isCell cX10_isCell 1 (some .boolean) 1 := ⟨⟨wm_1213, wm_61, by decide +kernel, by decide +kernel⟩, wm_1212⟩
theorem mp_X10_rule : MPV yX10_rule cX10_rule 7 (some .int) 4 := ⟨⟨wm_1217, wm_61, by decide +kernel, by decide +kernel⟩, wm_1215, wm_1216⟩
theorem mp_X10_isClass : MPV yX10_isClass cX10_isClass 2 (some .boolean) 1 := ⟨⟨wm_1221, wm_61, by decide +kernel, by decide +kernel⟩, wm_1220, wm_31⟩
theorem mp_X10_isSide : MPV yX10_isSide cX10_isSide 2 (some .boolean) 1 := ⟨⟨wm_1225, wm_61, by decide +kernel, by decide +kernel⟩, wm_1224, wm_32⟩
theorem mp_X10_turn : MPV yX10_turn cX10_turn 4 (some .boolean) 2 := ⟨⟨wm_1229, wm_61, by decide +kernel, by decide +kernel⟩, wm_1227, wm_1228⟩
theorem mp_X10_isRule : MPV yX10_isRule cX10_isRule 2 (some .boolean) 1 := ⟨⟨wm_1233, wm_61, by decide +kernel, by decide +kernel⟩, wm_1232, wm_33⟩
theorem mp_X10_raise : MPV yX10_raise cX10_raise 3 (some .int) 1 := ⟨⟨wm_1237, wm_61, by decide +kernel, by decide +kernel⟩, wm_1235, wm_1236⟩
theorem mp_X10_hear : MPV yX10_hear cX10_hear 5 (some .int) 3 := ⟨⟨wm_1241, wm_61, by decide +kernel, by decide +kernel⟩, wm_1239, wm_1240⟩
theorem mp_X10_correct : MPV yX10_correct cX10_correct 4 (some .boolean) 1 := ⟨⟨wm_1245, wm_61, by decide +kernel, by decide +kernel⟩, wm_1243, wm_1244⟩
theorem mp_X10_isWord : MPV yX10_isWord cX10_isWord 2 (some .boolean) 1 := ⟨⟨wm_1249, wm_61, by decide +kernel, by decide +kernel⟩, wm_1248, wm_34⟩
theorem mp_X10_forget : MPV yX10_forget cX10_forget 4 (some .int) 1 := ⟨⟨wm_1253, wm_61, by decide +kernel, by decide +kernel⟩, wm_1251, wm_1252⟩
theorem mp_X10_except : MPV yX10_except cX10_except 5 (some .boolean) 3 := ⟨⟨wm_1257, wm_61, by decide +kernel, by decide +kernel⟩, wm_1255, wm_1256⟩
theorem mp_X10_isException : MPV yX10_isException cX10_isException 3 (some .boolean) 2 := ⟨⟨wm_1261, wm_61, by decide +kernel, by decide +kernel⟩, wm_1260, wm_35⟩
theorem mp_X10_merge : MPV yX10_merge cX10_merge 7 (some .int) 2 := ⟨⟨wm_1265, wm_61, by decide +kernel, by decide +kernel⟩, wm_1263, wm_1264⟩
theorem mp_X10_keeps : MPV yX10_keeps cX10_keeps 5 none 3 := ⟨⟨wm_1269, wm_61, by decide +kernel, by decide +kernel⟩, wm_1268, wm_36⟩
theorem mp_X10_moves : MPV yX10_moves cX10_moves 6 (some .int) 3 := ⟨⟨wm_1273, wm_61, by decide +kernel, by decide +kernel⟩, wm_1272, wm_37⟩
theorem mp_X10_split : MPV yX10_split cX10_split 6 (some .int) 2 := ⟨⟨wm_1277, wm_61, by decide +kernel, by decide +kernel⟩, wm_1275, wm_1276⟩
theorem mp_X10_undo : MPV yX10_undo cX10_undo 5 (some .int) 0 := ⟨⟨wm_1281, wm_61, by decide +kernel, by decide +kernel⟩, wm_1279, wm_1280⟩
theorem mp_X10_length : MPV yX10_length cX10_length 3 (some .int) 2 := ⟨⟨wm_1285, wm_61, by decide +kernel, by decide +kernel⟩, wm_1283, wm_1284⟩
theorem mp_X10_word : MPV yX10_word cX10_word 3 (some .long) 2 := ⟨⟨wm_1289, wm_61, by decide +kernel, by decide +kernel⟩, wm_1288, wm_38⟩
theorem mp_X10_derived : MPV yX10_derived cX10_derived 9 (some .long) 4 := ⟨⟨wm_1293, wm_61, by decide +kernel, by decide +kernel⟩, wm_1292, wm_39⟩
theorem mp_X10_joined : MPS yX10_joined cX10_joined 7 (some .long) 2 := ⟨⟨wm_1296, wm_61, by decide +kernel, by decide +kernel⟩, wm_1295⟩
theorem mp_X10_soundAt : MPS yX10_soundAt cX10_soundAt 3 (some .int) 2 := ⟨⟨wm_1299, wm_61, by decide +kernel, by decide +kernel⟩, wm_1298⟩
theorem mp_X10_gone : MPV yX10_gone cX10_gone 11 (some .long) 2 := ⟨⟨wm_1304, wm_61, by decide +kernel, by decide +kernel⟩, wm_1303, wm_40⟩
theorem mp_X10_isMet : MPV yX10_isMet cX10_isMet 13 (some .boolean) 4 := ⟨⟨wm_1308, wm_61, by decide +kernel, by decide +kernel⟩, wm_1307, wm_41⟩
theorem mp_X10_isOf : MPV yX10_isOf cX10_isOf 3 (some .boolean) 2 := ⟨⟨wm_1312, wm_61, by decide +kernel, by decide +kernel⟩, wm_1311, wm_42⟩
theorem mp_X10_at : MPV yX10_at cX10_at 6 (some .int) 3 := ⟨⟨wm_1316, wm_61, by decide +kernel, by decide +kernel⟩, wm_1314, wm_1315⟩
theorem mp_X10_step : MPV yX10_step cX10_step 4 (some .int) 3 := ⟨⟨wm_1320, wm_61, by decide +kernel, by decide +kernel⟩, wm_1318, wm_1319⟩
theorem mp_X10_steps : MPV yX10_steps cX10_steps 4 (some .int) 3 := ⟨⟨wm_1324, wm_61, by decide +kernel, by decide +kernel⟩, wm_1323, wm_43⟩
theorem mp_X10_ofWord : MPV yX10_ofWord cX10_ofWord 4 (some .int) 2 := ⟨⟨wm_1328, wm_61, by decide +kernel, by decide +kernel⟩, wm_1326, wm_1327⟩
theorem mp_X10_fits : MPV yX10_fits cX10_fits 2 (some .boolean) 1 := ⟨⟨wm_1332, wm_61, by decide +kernel, by decide +kernel⟩, wm_1331, wm_44⟩
theorem mp_X10_misfit : MPV yX10_misfit cX10_misfit 4 (some .int) 1 := ⟨⟨wm_1336, wm_61, by decide +kernel, by decide +kernel⟩, wm_1334, wm_1335⟩
theorem mp_X10_claims : MPV yX10_claims cX10_claims 7 (some .int) 2 := ⟨⟨wm_1340, wm_61, by decide +kernel, by decide +kernel⟩, wm_1338, wm_1339⟩
theorem mp_X10_isBare : MPV yX10_isBare cX10_isBare 2 (some .boolean) 1 := ⟨⟨wm_1344, wm_61, by decide +kernel, by decide +kernel⟩, wm_1343, wm_45⟩
theorem mp_X10_fitsBy : MPV yX10_fitsBy cX10_fitsBy 3 (some .boolean) 2 := ⟨⟨wm_1348, wm_61, by decide +kernel, by decide +kernel⟩, wm_1347, wm_46⟩
theorem mp_X10_fitting : MPV yX10_fitting cX10_fitting 3 (some .int) 0 := ⟨⟨wm_1352, wm_61, by decide +kernel, by decide +kernel⟩, wm_1350, wm_1351⟩
theorem mp_X10_isFitting : MPV yX10_isFitting cX10_isFitting 4 (some .boolean) 1 := ⟨⟨wm_1356, wm_61, by decide +kernel, by decide +kernel⟩, wm_1355, wm_47⟩
theorem mp_X10_smallest : MPV yX10_smallest cX10_smallest 3 (some .int) 0 := ⟨⟨wm_1360, wm_61, by decide +kernel, by decide +kernel⟩, wm_1358, wm_1359⟩
theorem mp_X10_ones : MPS yX10_ones cX10_ones 3 (some .int) 1 := ⟨⟨wm_1363, wm_61, by decide +kernel, by decide +kernel⟩, wm_1362⟩
theorem mp_X10_question : MPV yX10_question cX10_question 9 (some .int) 0 := ⟨⟨wm_1367, wm_61, by decide +kernel, by decide +kernel⟩, wm_1365, wm_1366⟩
theorem mp_X10_heardIn : MPV yX10_heardIn cX10_heardIn 4 (some .int) 1 := ⟨⟨wm_1371, wm_61, by decide +kernel, by decide +kernel⟩, wm_1370, wm_48⟩
theorem mp_X10_unlikeWords : MPV yX10_unlikeWords cX10_unlikeWords 8 (some .int) 3 := ⟨⟨wm_1375, wm_61, by decide +kernel, by decide +kernel⟩, wm_1374, wm_49⟩
theorem mp_X10_pairs : MPV yX10_pairs cX10_pairs 7 (some .int) 2 := ⟨⟨wm_1379, wm_61, by decide +kernel, by decide +kernel⟩, wm_1377, wm_1378⟩
theorem mp_X10_isPair : MPV yX10_isPair cX10_isPair 10 (some .boolean) 4 := ⟨⟨wm_1383, wm_61, by decide +kernel, by decide +kernel⟩, wm_1382, wm_50⟩
theorem mp_X10_holes : MPV yX10_holes cX10_holes 2 (some .int) 1 := ⟨⟨wm_1387, wm_61, by decide +kernel, by decide +kernel⟩, wm_1385, wm_1386⟩
theorem mp_X10_shared : MPV yX10_shared cX10_shared 6 (some .int) 2 := ⟨⟨wm_1391, wm_61, by decide +kernel, by decide +kernel⟩, wm_1389, wm_1390⟩
theorem mp_X10_isShared : MPV yX10_isShared cX10_isShared 9 (some .boolean) 4 := ⟨⟨wm_1395, wm_61, by decide +kernel, by decide +kernel⟩, wm_1394, wm_51⟩
theorem np_L_8 : NP 9 4 RL 8 := ⟨RX9, TX9, tyX9, rfl, by decide, by decide, gin_X9, tyX9_ok, wm_81, wm_82, wm_53, by decide +kernel⟩
theorem cp_L_8 : CP 9 RL 8 := ⟨_, rfl, by decide, wm_81⟩
theorem np_X9_7 : NP 6 10 RX9 7 := ⟨RX5, TX5, tyX5, rfl, by decide, by decide, gin_X5, tyX5_ok, wm_89, wm_90, wm_54, by decide +kernel⟩
theorem cp_X9_7 : CP 6 RX9 7 := ⟨_, rfl, by decide, wm_89⟩
theorem np_X5_20 : NP 0 3 RX5 20 := ⟨RJx4a65c, TJx4a65c, tyJx4a65c, rfl, by decide, by decide, gin_Jx4a65c, tyJx4a65c_ok, wm_95, wm_96, wm_57, by decide +kernel⟩
theorem cp_X5_20 : CP 0 RX5 20 := ⟨_, rfl, by decide, wm_95⟩
theorem np_X5_27 : NP 3 3 RX5 27 := ⟨RX2, TX2, tyX2, rfl, by decide, by decide, gin_X2, tyX2_ok, wm_122, wm_123, wm_58, by decide +kernel⟩
theorem cp_X5_27 : CP 3 RX5 27 := ⟨_, rfl, by decide, wm_122⟩
theorem np_X9_16 : NP 5 3 RX9 16 := ⟨RX4, TX4, tyX4, rfl, by decide, by decide, gin_X4, tyX4_ok, wm_171, wm_172, wm_59, by decide +kernel⟩
theorem cp_X9_16 : CP 5 RX9 16 := ⟨_, rfl, by decide, wm_171⟩
theorem np_X4_9 : NP 0 3 RX4 9 := ⟨RJx4a65c, TJx4a65c, tyJx4a65c, rfl, by decide, by decide, gin_Jx4a65c, tyJx4a65c_ok, wm_177, wm_96, wm_57, by decide +kernel⟩
theorem cp_X4_9 : CP 0 RX4 9 := ⟨_, rfl, by decide, wm_177⟩
theorem np_X9_23 : NP 1 2 RX9 23 := ⟨RX0, TX0, tyX0, rfl, by decide, by decide, gin_X0, tyX0_ok, wm_189, wm_190, wm_60, by decide +kernel⟩
theorem cp_X9_23 : CP 1 RX9 23 := ⟨_, rfl, by decide, wm_189⟩
theorem np_X4_38 : NP 8 5 RX4 38 := ⟨RX8, TX8, tyX8, rfl, by decide, by decide, gin_X8, tyX8_ok, wm_266, wm_751, wm_77, by decide +kernel⟩
theorem cp_X4_38 : CP 8 RX4 38 := ⟨_, rfl, by decide, wm_266⟩
theorem np_X5_80 : NP 7 5 RX5 80 := ⟨RX7, TX7, tyX7, rfl, by decide, by decide, gin_X7, tyX7_ok, wm_295, wm_675, wm_76, by decide +kernel⟩
theorem cp_X5_80 : CP 7 RX5 80 := ⟨_, rfl, by decide, wm_295⟩
theorem np_X4_32 : NP 4 4 RX4 32 := ⟨RX3, TX3, tyX3, rfl, by decide, by decide, gin_X3, tyX3_ok, wm_353, wm_601, wm_75, by decide +kernel⟩
theorem cp_X4_32 : CP 4 RX4 32 := ⟨_, rfl, by decide, wm_353⟩
theorem tp_X9_172 : TP RX9 172 174 "java/lang/IllegalArgumentException" := ⟨by decide +kernel, wm_380, wm_65, by decide +kernel, by decide +kernel, by decide +kernel⟩
theorem tp_X9_48 : TP RX9 48 50 "java/lang/IllegalStateException" := ⟨by decide +kernel, wm_451, wm_66, by decide +kernel, by decide +kernel, by decide +kernel⟩
theorem tp_X9_117 : TP RX9 117 119 "java/lang/IndexOutOfBoundsException" := ⟨by decide +kernel, wm_565, wm_74, by decide +kernel, by decide +kernel, by decide +kernel⟩
theorem np_X3_7 : NP 1 2 RX3 7 := ⟨RX0, TX0, tyX0, rfl, by decide, by decide, gin_X0, tyX0_ok, wm_606, wm_190, wm_60, by decide +kernel⟩
theorem cp_X3_7 : CP 1 RX3 7 := ⟨_, rfl, by decide, wm_606⟩
theorem np_X4_95 : NP 2 5 RX4 95 := ⟨RX1, TX1, tyX1, rfl, by decide, by decide, gin_X1, tyX1_ok, wm_829, wm_830, wm_78, by decide +kernel⟩
theorem cp_X4_95 : CP 2 RX4 95 := ⟨_, rfl, by decide, wm_829⟩
theorem np_X1_7 : NP 1 2 RX1 7 := ⟨RX0, TX0, tyX0, rfl, by decide, by decide, gin_X0, tyX0_ok, wm_835, wm_190, wm_60, by decide +kernel⟩
theorem cp_X1_7 : CP 1 RX1 7 := ⟨_, rfl, by decide, wm_835⟩
theorem np_L_101 : NP 10 34 RL 101 := ⟨RX10, TX10, tyX10, rfl, by decide, by decide, gin_X10, tyX10_ok, wm_1034, wm_1035, wm_61, by decide +kernel⟩
theorem cp_L_101 : CP 10 RL 101 := ⟨_, rfl, by decide, wm_1034⟩
