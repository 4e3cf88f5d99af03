theorem fp_Jxc12de_7 : FP 0 0 RJxc12de 7 .int 0 := ⟨RJx4a65c, TJx4a65c, 3, tyJx4a65c, "java/util/AbstractList", rfl, by decide, by decide, by decide, gin_Jx4a65c, tyJx4a65c_ok, nmJx4a65c, wm_111, Or.inl rfl, tyJx4a65c_ok 0 (by decide), fun z => rfl, fun z => absurd z (by decide)⟩
set_option maxHeartbeats 4000000 in
set_option maxRecDepth 100000 in
theorem c_Jxa1e45_init_da8c8 (L9 : Launch) (w9 : Wd) {σ : HS} {a : Nat} (h : hV σ (0, a) = true) : MJ L9 w9 yJxa1e45_init_da8c8 cJxa1e45_init_da8c8 1 none ({ frames := 1, cells := 0, slots := 0, locals := 12 } : Room) [.ref (hG σ (0, a))] σ (fun a9 σ' => a9 = none ∧ σ' = σ) := by
  refine MJ.of (by decide +kernel) (Nat.le_of_ble_eq_true rfl) (fun X hX1 hX2 C Q hinit => ?_)
  subst hX1; subst hX2
  show J X 0 0 σ [(0, .ref (hG σ (0, a)))] [] 0
  refine j_aload_n (pc := 0) C dJxa1e45_init_da8c8_0 rfl 0 rfl ?_
  refine j_objInit (pc := 1) C (rm0 := ({ frames := 1, cells := 0, slots := 0, locals := 12 } : Room)) Q.1 wm_106 wm_87 wm_88 rfl dJxa1e45_init_da8c8_1 ⟨by decide, by decide⟩ ?_
  exact j_vreturn (pc := 4) C Q dJxa1e45_init_da8c8_4 (Nat.le_of_ble_eq_true rfl) (Nat.le_of_ble_eq_true rfl) (⟨rfl, rfl⟩)
set_option maxHeartbeats 4000000 in
set_option maxRecDepth 100000 in
theorem c_Jxc12de_init_da8c8 (L9 : Launch) (w9 : Wd) {σ : HS} {a : Nat} (h : hV σ (0, a) = true) : MJ L9 w9 yJxc12de_init_da8c8 cJxc12de_init_da8c8 1 none ({ frames := 2, cells := 0, slots := 0, locals := 32 } : Room) [.ref (hG σ (0, a))] σ (fun a9 σ' => a9 = none ∧ σ' = sI σ 0 a 0 (nI 0)) := by
  refine MJ.of (by decide +kernel) (Nat.le_of_ble_eq_true rfl) (fun X hX1 hX2 C Q hinit => ?_)
  subst hX1; subst hX2
  show J X 0 0 σ [(0, .ref (hG σ (0, a)))] [] 0
  refine j_aload_n (pc := 0) C dJxc12de_init_da8c8_0 rfl 0 rfl ?_
  refine j_callI (pc := 1) C [] [] (rm0 := ({ frames := 2, cells := 0, slots := 0, locals := 32 } : Room)) (k' := 0) (n' := 0) Q.1 (c_Jxa1e45_init_da8c8 (xl X) (xw X) h) mp_Jxa1e45_init_da8c8 wm_103 rfl rfl (Nat.le_of_ble_eq_true rfl) dJxc12de_init_da8c8_1 ⟨by decide, by decide⟩ ⟨Nat.le_of_ble_eq_true rfl, Nat.le_of_ble_eq_true rfl⟩ rfl rfl (det0 ?_)
  refine j_aload_n (pc := 4) C dJxc12de_init_da8c8_4 rfl 0 rfl ?_
  refine j_iconst (pc := 5) C (nI 0) dJxc12de_init_da8c8_5 (by decide) ?_
  refine j_putI (pc := 6) C fp_Jxc12de_7 (⟨h, rfl⟩) rfl rfl (Or.inl rfl) rfl (by decide) (f := 0) rfl dJxc12de_init_da8c8_6 ?_
  exact j_vreturn (pc := 9) C Q dJxc12de_init_da8c8_9 (Nat.le_of_ble_eq_true rfl) (Nat.le_of_ble_eq_true rfl) (⟨rfl, rfl⟩)
set_option maxHeartbeats 4000000 in
set_option maxRecDepth 100000 in
theorem c_Jx4a65c_init_da8c8 (L9 : Launch) (w9 : Wd) {σ : HS} {a : Nat} (h : hV σ (0, a) = true) : MJ L9 w9 yJx4a65c_init_da8c8 cJx4a65c_init_da8c8 1 none ({ frames := 3, cells := 0, slots := 0, locals := 52 } : Room) [.ref (hG σ (0, a))] σ (fun a9 σ' => a9 = none ∧ σ' = sR (sI σ 0 a 0 (nI 0)) 1 a 0 (some (15, 0))) := by
  refine MJ.of (by decide +kernel) (Nat.le_of_ble_eq_true rfl) (fun X hX1 hX2 C Q hinit => ?_)
  subst hX1; subst hX2
  show J X 0 0 σ [(0, .ref (hG σ (0, a)))] [] 0
  refine j_aload_n (pc := 0) C dJx4a65c_init_da8c8_0 rfl 0 rfl ?_
  refine j_callI (pc := 1) C [] [] (rm0 := ({ frames := 3, cells := 0, slots := 0, locals := 52 } : Room)) (k' := 0) (n' := 0) Q.1 (c_Jxc12de_init_da8c8 (xl X) (xw X) h) mp_Jxc12de_init_da8c8 wm_100 rfl rfl (Nat.le_of_ble_eq_true rfl) dJx4a65c_init_da8c8_1 ⟨by decide, by decide⟩ ⟨Nat.le_of_ble_eq_true rfl, Nat.le_of_ble_eq_true rfl⟩ rfl rfl (det0 ?_)
  refine j_aload_n (pc := 4) C dJx4a65c_init_da8c8_4 rfl 0 rfl ?_
  refine j_gets (pc := 5) C wm_107 dJx4a65c_init_da8c8_5 ?_
  refine j_putR (pc := 8) C (15, 0) rfl (Or.inr rfl) fp_Jx4a65c_9 (⟨h, rfl⟩ : At _ (0, a) _) rfl rfl (Or.inl rfl) rfl (by decide) (f := 1) rfl dJx4a65c_init_da8c8_8 ?_
  show J X 0 0 (sR (sI σ 0 a 0 (nI 0)) 1 a 0 (some (15, 0))) [(0, .ref (hG σ (0, a)))] [] 11
  exact j_vreturn (pc := 11) C Q dJx4a65c_init_da8c8_11 (Nat.le_of_ble_eq_true rfl) (Nat.le_of_ble_eq_true rfl) (⟨rfl, rfl⟩)
