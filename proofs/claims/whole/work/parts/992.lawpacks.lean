theorem mp_L_sound : MPW yL_sound cL_sound 4 (some .int) [(0, 9, 12, 13), (0, 9, 15, 15)] 3 := ⟨wm_370, wm_52, by decide +kernel, by decide +kernel, wm_369⟩
theorem mp_L_kind : MPW yL_kind cL_kind 5 (some .int) [(0, 10, 13, 13), (0, 10, 17, 15)] 4 := ⟨wm_479, wm_52, by decide +kernel, by decide +kernel, wm_478⟩
theorem mp_L_put : MPW yL_put cL_put 4 (some .int) [(0, 9, 12, 24), (0, 9, 15, 15)] 3 := ⟨wm_555, wm_52, by decide +kernel, by decide +kernel, wm_554⟩
theorem mp_L_lexeme : MPW yL_lexeme cL_lexeme 3 (some .int) [(0, 8, 11, 15)] 2 := ⟨wm_584, wm_52, by decide +kernel, by decide +kernel, wm_583⟩
theorem mp_L_reform : MPW yL_reform cL_reform 3 (some .int) [(0, 5, 8, 24), (0, 5, 11, 15)] 2 := ⟨wm_631, wm_52, by decide +kernel, by decide +kernel, wm_630⟩
theorem mp_L_ending : MPW yL_ending cL_ending 3 (some .int) [(0, 5, 8, 24), (0, 5, 11, 15)] 2 := ⟨wm_642, wm_52, by decide +kernel, by decide +kernel, wm_641⟩
theorem mp_L_rule : MPW yL_rule cL_rule 7 (some .int) [(0, 14, 17, 24), (0, 14, 21, 13), (0, 14, 25, 15)] 6 := ⟨wm_657, wm_52, by decide +kernel, by decide +kernel, wm_656⟩
theorem mp_L_turn : MPW yL_turn cL_turn 5 (some .int) [(0, 17, 20, 24)] 4 := ⟨wm_700, wm_52, by decide +kernel, by decide +kernel, wm_699⟩
theorem mp_L_raise : MPW yL_raise cL_raise 4 (some .int) [(0, 9, 12, 24)] 3 := ⟨wm_724, wm_52, by decide +kernel, by decide +kernel, wm_723⟩
theorem mp_L_hear : MPW yL_hear cL_hear 6 (some .int) [(0, 12, 15, 24), (0, 12, 19, 15)] 5 := ⟨wm_739, wm_52, by decide +kernel, by decide +kernel, wm_738⟩
theorem mp_L_correct : MPW yL_correct cL_correct 4 (some .int) [(0, 16, 19, 24)] 3 := ⟨wm_783, wm_52, by decide +kernel, by decide +kernel, wm_782⟩
theorem mp_L_forget : MPW yL_forget cL_forget 4 (some .int) [(0, 9, 12, 24)] 3 := ⟨wm_794, wm_52, by decide +kernel, by decide +kernel, wm_793⟩
theorem mp_L_except : MPW yL_except cL_except 6 (some .int) [(0, 19, 22, 24)] 5 := ⟨wm_805, wm_52, by decide +kernel, by decide +kernel, wm_804⟩
theorem mp_L_merge : MPW yL_merge cL_merge 5 (some .int) [(0, 10, 13, 24), (0, 10, 17, 13)] 4 := ⟨wm_816, wm_52, by decide +kernel, by decide +kernel, wm_815⟩
theorem mp_L_split : MPW yL_split cL_split 5 (some .int) [(0, 10, 13, 24), (0, 10, 17, 13), (0, 10, 21, 15)] 4 := ⟨wm_879, wm_52, by decide +kernel, by decide +kernel, wm_878⟩
theorem mp_L_undo : MPW yL_undo cL_undo 3 (some .int) [(0, 8, 11, 15)] 2 := ⟨wm_896, wm_52, by decide +kernel, by decide +kernel, wm_895⟩
theorem mp_L_length : MPW yL_length cL_length 5 (some .int) [(0, 10, 13, 24)] 4 := ⟨wm_920, wm_52, by decide +kernel, by decide +kernel, wm_919⟩
theorem mp_L_at : MPW yL_at cL_at 6 (some .int) [(0, 12, 15, 24)] 5 := ⟨wm_939, wm_52, by decide +kernel, by decide +kernel, wm_938⟩
theorem mp_L_step : MPW yL_step cL_step 6 (some .int) [(0, 12, 15, 24)] 5 := ⟨wm_953, wm_52, by decide +kernel, by decide +kernel, wm_952⟩
theorem mp_L_ofWord : MPW yL_ofWord cL_ofWord 5 (some .int) [(0, 10, 13, 24), (0, 10, 17, 13)] 4 := ⟨wm_967, wm_52, by decide +kernel, by decide +kernel, wm_966⟩
theorem mp_L_misfit : MPW yL_misfit cL_misfit 4 (some .int) [(0, 9, 12, 24)] 3 := ⟨wm_978, wm_52, by decide +kernel, by decide +kernel, wm_977⟩
theorem mp_L_claims : MPW yL_claims cL_claims 5 (some .int) [(0, 10, 13, 24)] 4 := ⟨wm_985, wm_52, by decide +kernel, by decide +kernel, wm_984⟩
theorem mp_L_pairs : MPW yL_pairs cL_pairs 5 (some .int) [(0, 10, 13, 24), (0, 10, 17, 13)] 4 := ⟨wm_1001, wm_52, by decide +kernel, by decide +kernel, wm_1000⟩
theorem mp_L_holes : MPW yL_holes cL_holes 4 (some .int) [(0, 9, 12, 24)] 3 := ⟨wm_1014, wm_52, by decide +kernel, by decide +kernel, wm_1013⟩
theorem mp_L_shared : MPW yL_shared cL_shared 5 (some .int) [(0, 10, 13, 24)] 4 := ⟨wm_1021, wm_52, by decide +kernel, by decide +kernel, wm_1020⟩
theorem c_X9_merge_2y (L9 : Launch) (w9 : Wd) (hst9 : L9.stackTraces = false) {σ : HS} {S : SP} (hw : WF S) (hc : CI S σ) {a0 : Nat} (ha0 : At σ (9, 0) a0) {a : Nat} (n1 : a < nL S) (n2 : th S a = 1) {b : Nat} (e : a = b) : MX L9 w9 yX9_merge cX9_merge 5 (some .int) ({ frames := 6, cells := 1, slots := 6, locals := 108 } : Room) [.ref a0, .int (nI a), .int (nI b)] σ (fun _ _ => False) (fun E σ' => E = "java/lang/IllegalArgumentException" ∧ σ' = σ) := by
  subst e
  exact c_X9_merge_2 L9 w9 hst9 hw hc ha0 n1 n2
theorem c_X9_pairs_2y (L9 : Launch) (w9 : Wd) (hst9 : L9.stackTraces = false) {σ : HS} {S : SP} (hw : WF S) (hc : CI S σ) {a0 : Nat} (ha0 : At σ (9, 0) a0) {a : Nat} (ha : a < nS S) {b : Nat} (e : a = b) : MX L9 w9 yX9_pairs cX9_pairs 7 (some .int) ({ frames := 6, cells := 1, slots := 6, locals := 81 } : Room) [.ref a0, .int (nI a), .int (nI b)] σ (fun _ _ => False) (fun E σ' => E = "java/lang/IllegalArgumentException" ∧ σ' = σ) := by
  subst e
  exact c_X9_pairs_2 L9 w9 hst9 hw hc ha0 ha
