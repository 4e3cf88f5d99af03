set_option maxHeartbeats 4000000 in
set_option maxRecDepth 100000 in
theorem c_J3_checkIndex_8e157 (L9 : Launch) (w9 : Wd) {σ : HS} {i n : Nat} (hi : i < n) (hn : n < 2 ^ 31) : MJ L9 w9 yJ3_checkIndex_8e157 cJ3_checkIndex_8e157 3 (some .int) ({ frames := 0, cells := 0, slots := 0, locals := 0 } : Room) [.int (nI i), .int (nI n), .null] σ (fun a9 σ' => a9 = some (.int (nI i)) ∧ σ' = σ) := by
  refine MJ.of (by decide +kernel) (Nat.le_of_ble_eq_true rfl) (fun X hX1 hX2 C Q hinit => ?_)
  subst hX1; subst hX2
  show J X 0 0 σ [(0, .int (nI i)), (1, .int (nI n)), (2, .null)] [] 0
  refine j_iload_n (pc := 0) C dJ3_checkIndex_8e157_0 rfl 0 rfl ?_
  refine jn_if_lt (pc := 1) C 9 (a := i) (by omega) dJ3_checkIndex_8e157_1 (by decide) (fun c1 => ?_) (fun c1 => ?_)
  · exact c1.elim
  · refine j_iload_n (pc := 4) C dJ3_checkIndex_8e157_4 rfl 0 rfl ?_
    refine j_iload_n (pc := 5) C dJ3_checkIndex_8e157_5 rfl 1 rfl ?_
    refine jn_icmp_lt (pc := 6) C 16 (a := i) (b := n) (by omega) (by omega) dJ3_checkIndex_8e157_6 (by decide) (fun c2 => ?_) (fun c2 => ?_)
    · refine j_iload_n (pc := 16) C dJ3_checkIndex_8e157_16 rfl 0 rfl ?_
      exact j_ireturn (pc := 17) C Q dJ3_checkIndex_8e157_17 (Nat.le_of_ble_eq_true rfl) (Nat.le_of_ble_eq_true rfl) (⟨rfl, rfl⟩)
    · exact absurd hi (by omega)
set_option maxHeartbeats 4000000 in
set_option maxRecDepth 100000 in
theorem c_J15_checkIndex_7cf53 (L9 : Launch) (w9 : Wd) {σ : HS} {i n : Nat} (hi : i < n) (hn : n < 2 ^ 31) : MJ L9 w9 yJ15_checkIndex_7cf53 cJ15_checkIndex_7cf53 2 (some .int) ({ frames := 1, cells := 0, slots := 0, locals := 22 } : Room) [.int (nI i), .int (nI n)] σ (fun a9 σ' => a9 = some (.int (nI i)) ∧ σ' = σ) := by
  refine MJ.of (by decide +kernel) (Nat.le_of_ble_eq_true rfl) (fun X hX1 hX2 C Q hinit => ?_)
  subst hX1; subst hX2
  show J X 0 0 σ [(0, .int (nI i)), (1, .int (nI n))] [] 0
  refine j_iload_n (pc := 0) C dJ15_checkIndex_7cf53_0 rfl 0 rfl ?_
  refine j_iload_n (pc := 1) C dJ15_checkIndex_7cf53_1 rfl 1 rfl ?_
  refine j_null (pc := 2) C dJ15_checkIndex_7cf53_2 ?_
  refine j_callS (pc := 3) C [.int (nI i), .int (nI n), .null] [] (rm0 := ({ frames := 1, cells := 0, slots := 0, locals := 22 } : Room)) (k' := 0) (n' := 0) Q.1 (c_J3_checkIndex_8e157 (xl X) (xw X) hi hn) mp_J3_checkIndex_8e157 wm_259 rfl rfl (Nat.le_of_ble_eq_true rfl) dJ15_checkIndex_7cf53_3 ⟨by decide, by decide⟩ ⟨Nat.le_of_ble_eq_true rfl, Nat.le_of_ble_eq_true rfl⟩ rfl rfl (det1 ?_)
  exact j_ireturn (pc := 6) C Q dJ15_checkIndex_7cf53_6 (Nat.le_of_ble_eq_true rfl) (Nat.le_of_ble_eq_true rfl) (⟨rfl, rfl⟩)
set_option maxHeartbeats 4000000 in
set_option maxRecDepth 100000 in
theorem c_Jx4a65c_size_8abf5 (L9 : Launch) (w9 : Wd) {σ : HS} {a c : Nat} {xs : List Tg} (h : AL9 σ a xs c) : MJ L9 w9 yJx4a65c_size_8abf5 cJx4a65c_size_8abf5 1 (some .int) ({ frames := 0, cells := 0, slots := 0, locals := 0 } : Room) [.ref (hG σ (0, a))] σ (fun a9 σ' => a9 = some (.int (nI xs.length)) ∧ σ' = σ) := by
  refine MJ.of (by decide +kernel) (Nat.le_of_ble_eq_true rfl) (fun X hX1 hX2 C Q hinit => ?_)
  subst hX1; subst hX2
  show J X 0 0 σ [(0, .ref (hG σ (0, a)))] [] 0
  have hsz := h.2.1
  refine j_aload_n (pc := 0) C dJx4a65c_size_8abf5_0 rfl 0 rfl ?_
  refine j_getI (pc := 1) C fp_Jx4a65c_48 (⟨h.1, rfl⟩) rfl (f := 2) rfl dJx4a65c_size_8abf5_1 ?_
  refine j_topi (nI xs.length) hsz ?_
  exact j_ireturn (pc := 4) C Q dJx4a65c_size_8abf5_4 (Nat.le_of_ble_eq_true rfl) (Nat.le_of_ble_eq_true rfl) (⟨rfl, rfl⟩)
set_option maxHeartbeats 4000000 in
set_option maxRecDepth 100000 in
theorem c_Jx4a65c_elementData_915e3 (L9 : Launch) (w9 : Wd) {σ : HS} {a c : Nat} {xs : List Tg} (h : AL9 σ a xs c) {i : Nat} {x : Tg} (hx : xs[i]? = some x) : MJ L9 w9 yJx4a65c_elementData_915e3 cJx4a65c_elementData_915e3 2 (some (.object "java/lang/Object")) ({ frames := 0, cells := 0, slots := 0, locals := 0 } : Room) [.ref (hG σ (0, a)), .int (nI i)] σ (fun a9 σ' => a9 = some (.ref (hG σ x)) ∧ σ' = σ) := by
  refine MJ.of (by decide +kernel) (Nat.le_of_ble_eq_true rfl) (fun X hX1 hX2 C Q hinit => ?_)
  subst hX1; subst hX2
  show J X 0 0 σ [(0, .ref (hG σ (0, a))), (1, .int (nI i))] [] 0
  have hsz := h.2.1
  obtain ⟨hlt, hic, hrow, hat, hNc, hel, hxa, hxk⟩ := h.row hx
  have h64 := h.2.2.2.2.2.1
  have hlc := h.2.2.2.2.1
  refine j_aload_n (pc := 0) C dJx4a65c_elementData_915e3_0 rfl 0 rfl ?_
  refine j_getA (pc := 1) C fp_Jx4a65c_9 (⟨h.1, rfl⟩) rfl (f := 1) rfl (14, 64 * a + c) (hG σ (14, 64 * a + c)) hrow hat dJx4a65c_elementData_915e3_1 ?_
  refine j_iload_n (pc := 4) C dJx4a65c_elementData_915e3_4 rfl 1 rfl ?_
  refine j_aald (pc := 5) C (p := i) (M := c) hat rfl hNc hic (by omega) dJx4a65c_elementData_915e3_5 ?_
  rw [hel]
  show J X 0 0 σ [(0, .ref (hG σ (0, a))), (1, .int (nI i))] [.ref (hG σ x)] 6
  exact j_areturn (pc := 6) C Q (Or.inl ⟨_, rfl⟩) (Or.inr ⟨_, rfl⟩) dJx4a65c_elementData_915e3_6 (Nat.le_of_ble_eq_true rfl) (Nat.le_of_ble_eq_true rfl) (⟨rfl, rfl⟩)
set_option maxHeartbeats 4000000 in
set_option maxRecDepth 100000 in
theorem c_Jx4a65c_get_915e3 (L9 : Launch) (w9 : Wd) {σ : HS} {a c : Nat} {xs : List Tg} (h : AL9 σ a xs c) {i : Nat} {x : Tg} (hx : xs[i]? = some x) : MJ L9 w9 yJx4a65c_get_915e3 cJx4a65c_get_915e3 2 (some (.object "java/lang/Object")) ({ frames := 2, cells := 0, slots := 0, locals := 43 } : Room) [.ref (hG σ (0, a)), .int (nI i)] σ (fun a9 σ' => a9 = some (.ref (hG σ x)) ∧ σ' = σ) := by
  refine MJ.of (by decide +kernel) (Nat.le_of_ble_eq_true rfl) (fun X hX1 hX2 C Q hinit => ?_)
  subst hX1; subst hX2
  show J X 0 0 σ [(0, .ref (hG σ (0, a))), (1, .int (nI i))] [] 0
  have hsz := h.2.1
  obtain ⟨hlt, hic, hrow, hat, hNc, hel, hxa, hxk⟩ := h.row hx
  have h64 := h.2.2.2.2.2.1
  have hlc := h.2.2.2.2.1
  refine j_iload_n (pc := 0) C dJx4a65c_get_915e3_0 rfl 1 rfl ?_
  refine j_aload_n (pc := 1) C dJx4a65c_get_915e3_1 rfl 0 rfl ?_
  refine j_getI (pc := 2) C fp_Jx4a65c_48 (⟨h.1, rfl⟩) rfl (f := 2) rfl dJx4a65c_get_915e3_2 ?_
  refine j_topi (nI xs.length) hsz ?_
  refine j_callS (pc := 5) C [.int (nI i), .int (nI xs.length)] [] (rm0 := ({ frames := 2, cells := 0, slots := 0, locals := 43 } : Room)) (k' := 0) (n' := 0) Q.1 (c_J15_checkIndex_7cf53 (xl X) (xw X) hlt (by omega)) mp_J15_checkIndex_7cf53 wm_256 rfl rfl (Nat.le_of_ble_eq_true rfl) dJx4a65c_get_915e3_5 ⟨by decide, by decide⟩ ⟨Nat.le_of_ble_eq_true rfl, Nat.le_of_ble_eq_true rfl⟩ rfl rfl (det1 ?_)
  refine j_pop (pc := 8) C dJx4a65c_get_915e3_8 rfl ?_
  refine j_aload_n (pc := 9) C dJx4a65c_get_915e3_9 rfl 0 rfl ?_
  refine j_iload_n (pc := 10) C dJx4a65c_get_915e3_10 rfl 1 rfl ?_
  refine j_callV (pc := 11) C [.int (nI i)] [] (rm0 := ({ frames := 2, cells := 0, slots := 0, locals := 43 } : Room)) (k' := 0) (n' := 0) Q.1 (c_Jx4a65c_elementData_915e3 (xl X) (xw X) h hx) mp_Jx4a65c_elementData_915e3 wm_262 (⟨h.1, rfl⟩) rfl rfl (Nat.le_of_ble_eq_true rfl) rfl rfl (Nat.le_of_ble_eq_true rfl) dJx4a65c_get_915e3_11 ⟨by decide, by decide⟩ ⟨Nat.le_of_ble_eq_true rfl, Nat.le_of_ble_eq_true rfl⟩ rfl rfl (det1 ?_)
  exact j_areturn (pc := 14) C Q (Or.inl ⟨_, rfl⟩) (Or.inr ⟨_, rfl⟩) dJx4a65c_get_915e3_14 (Nat.le_of_ble_eq_true rfl) (Nat.le_of_ble_eq_true rfl) (⟨rfl, rfl⟩)
