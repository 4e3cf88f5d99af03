section JA0
variable {X : Cx} {cc : ByteArray} {nL : Nat} {own : String} {k n : Nat} {σ : HS} {lv : List (Nat × Value)} {st : List Value} {pc : Nat}
theorem j_alen0 (C : Ok X cc nL own) (hd : decode cc pc = .ok (.arraylength, 1)) (kk : J X k n σ lv (.int (nI 0) :: st) (pc + 1)) : J X k n σ lv (.ref (hG σ (15, 0)) :: st) pc := by
  intro H locs ls h1 h2 h3
  have e : hG σ (15, 0) = wE (xw X) := h1.2.2.2
  rw [e]
  exact va_tlen C.1 C.2.1 C.2.2.2.2.2.2.1.2.1 h2 rfl hd (kk H locs ls h1 h2 h3)
theorem j_mmax (C : Ok X cc nL own) {idx a b : Nat} {rm0 : Room} (hR : xR X = rm0) (hl : Cond.methodLink own idx yJ9_max_7cf53 ∈ gtb) (ha : a < 2 ^ 31) (hb : b < 2 ^ 31) (hd : decode cc pc = .ok (.invokestatic idx, 3)) (hf : 1 ≤ rm0.frames ∧ (st.map fun v => v.category).sum + 13 ≤ rm0.locals ∧ k ≤ rm0.cells ∧ n ≤ rm0.slots) (kk : J X k n σ lv (.int (nI (max a b)) :: st) (pc + 3)) : J X k n σ lv (.int (nI b) :: .int (nI a) :: st) pc := by
  intro H locs ls h1 h2 h3
  have hts := C.2.2.2.2.1
  refine va_mmax C.1 C.2.1 h3.1.symm C.2.2.2.1 (hts _ hl) (hts _ wm_512) (hts _ wm_71) (hts _ wm_513) (by rw [hR]; exact hf.1) (by rw [hR]; exact hf.2.1) (by rw [hR]; exact hf.2.2.1) (by rw [hR]; exact hf.2.2.2) hd ?_
  have e : (if nI a < nI b then nI b else nI a) = nI (max a b) := by
    by_cases q : a < b
    · rw [if_pos ((nI_ltI ha hb).mpr q)]; exact congrArg nI (by omega)
    · rw [if_neg (fun z => q ((nI_ltI ha hb).mp z))]; exact congrArg nI (by omega)
  rw [e]
  exact kk H locs ls h1 h2 h3
theorem j_mmin (C : Ok X cc nL own) {idx a b : Nat} {rm0 : Room} (hR : xR X = rm0) (hl : Cond.methodLink own idx yJ9_min_7cf53 ∈ gtb) (ha : a < 2 ^ 31) (hb : b < 2 ^ 31) (hd : decode cc pc = .ok (.invokestatic idx, 3)) (hf : 1 ≤ rm0.frames ∧ (st.map fun v => v.category).sum + 13 ≤ rm0.locals ∧ k ≤ rm0.cells ∧ n ≤ rm0.slots) (kk : J X k n σ lv (.int (nI (min a b)) :: st) (pc + 3)) : J X k n σ lv (.int (nI b) :: .int (nI a) :: st) pc := by
  intro H locs ls h1 h2 h3
  have hts := C.2.2.2.2.1
  refine va_mmin C.1 C.2.1 h3.1.symm C.2.2.2.1 (hts _ hl) (hts _ wm_546) (hts _ wm_71) (hts _ wm_547) (by rw [hR]; exact hf.1) (by rw [hR]; exact hf.2.1) (by rw [hR]; exact hf.2.2.1) (by rw [hR]; exact hf.2.2.2) hd ?_
  have e : (if nI b < nI a then nI b else nI a) = nI (min a b) := by
    by_cases q : b < a
    · rw [if_pos ((nI_ltI hb ha).mpr q)]; exact congrArg nI (by omega)
    · rw [if_neg (fun z => q ((nI_ltI hb ha).mp z))]; exact congrArg nI (by omega)
  rw [e]
  exact kk H locs ls h1 h2 h3
end JA0
set_option maxHeartbeats 4000000 in
set_option maxRecDepth 100000 in
theorem c_J8_newLength_cabcc (L9 : Launch) (w9 : Wd) {σ : HS} {o m p : Nat} (ho : o < 1000) (hm : m < 1000) (hp : p < 1000) (h0 : 0 < o + max m p) : MJ L9 w9 yJ8_newLength_cabcc cJ8_newLength_cabcc 4 (some .int) ({ frames := 1, cells := 0, slots := 0, locals := 14 } : Room) [.int (nI o), .int (nI m), .int (nI p)] σ (fun a9 σ' => a9 = some (.int (nI (o + max m p))) ∧ σ' = σ) := by
  refine MJ.of (by decide +kernel) (Nat.le_of_ble_eq_true rfl) (fun X hX1 hX2 C Q hinit => ?_)
  subst hX1; subst hX2
  show J X 0 0 σ [(0, .int (nI o)), (1, .int (nI m)), (2, .int (nI p))] [] 0
  refine j_iload_n (pc := 0) C dJ8_newLength_cabcc_0 rfl 0 rfl ?_
  refine j_iload_n (pc := 1) C dJ8_newLength_cabcc_1 rfl 1 rfl ?_
  refine j_iload_n (pc := 2) C dJ8_newLength_cabcc_2 rfl 2 rfl ?_
  refine j_mmax (pc := 3) C (a := m) (b := p) (rm0 := ({ frames := 1, cells := 0, slots := 0, locals := 14 } : Room)) Q.1 wm_511 (by omega) (by omega) dJ8_newLength_cabcc_3 ⟨Nat.le_of_ble_eq_true rfl, Nat.le_of_ble_eq_true rfl, Nat.le_of_ble_eq_true rfl, Nat.le_of_ble_eq_true rfl⟩ ?_
  show J X 0 0 σ [(0, .int (nI o)), (1, .int (nI m)), (2, .int (nI p))] [.int (nI (max m p)), .int (nI o)] 6
  refine j_iadd (pc := 6) C dJ8_newLength_cabcc_6 ?_
  refine j_topi (nI (o + max m p)) (nI_add o (max m p)) ?_
  refine j_istore_n (pc := 7) C [(3, .int (nI (o + max m p))), (0, .int (nI o)), (1, .int (nI m)), (2, .int (nI p))] dJ8_newLength_cabcc_7 rfl (by decide) rfl ?_
  refine j_iconst (pc := 8) C (nI 0) dJ8_newLength_cabcc_8 (by decide) ?_
  refine j_iload_n (pc := 9) C dJ8_newLength_cabcc_9 rfl 0 rfl ?_
  refine jn_icmp_ge (pc := 10) C 21 (a := 0) (b := o + max m p) (by omega) (by omega) dJ8_newLength_cabcc_10 (by decide) (fun c1 => ?_) (fun c1 => ?_)
  · exact absurd h0 (by omega)
  · refine j_iload_n (pc := 13) C dJ8_newLength_cabcc_13 rfl 0 rfl ?_
    refine j_ldc (pc := 14) C (v := 2147483639) dJ8_newLength_cabcc_14 wm_514 ?_
    refine j_topi (nI 2147483639) rfl ?_
    refine jn_icmp_gt (pc := 16) C 21 (a := o + max m p) (b := 2147483639) (by omega) (by omega) dJ8_newLength_cabcc_16 (by decide) (fun c2 => ?_) (fun c2 => ?_)
    · exact absurd c2 (by omega)
    · refine j_iload_n (pc := 19) C dJ8_newLength_cabcc_19 rfl 0 rfl ?_
      exact j_ireturn (pc := 20) C Q dJ8_newLength_cabcc_20 (Nat.le_of_ble_eq_true rfl) (Nat.le_of_ble_eq_true rfl) (⟨rfl, rfl⟩)
set_option maxHeartbeats 4000000 in
set_option maxRecDepth 100000 in
theorem c_Jx4a65c_set_bcc79 (L9 : Launch) (w9 : Wd) {σ : HS} {a c : Nat} {xs : List Tg} (h : AL9 σ a xs c) {i : Nat} {x : Tg} (hx : xs[i]? = some x) {y : Tg} {b : Nat} (hy : At σ y b) (hyk : y.1 < 11) : MJ L9 w9 yJx4a65c_set_bcc79 cJx4a65c_set_bcc79 4 (some (.object "java/lang/Object")) ({ frames := 2, cells := 0, slots := 0, locals := 43 } : Room) [.ref (hG σ (0, a)), .int (nI i), .ref b] σ (fun a9 σ' => a9 = some (.ref (hG σ x)) ∧ σ' = sR σ 896 (64 * a + c) i (some y)) := by
  refine MJ.of (by decide +kernel) (Nat.le_of_ble_eq_true rfl) (fun X hX1 hX2 C Q hinit => ?_)
  subst hX1; subst hX2
  show J X 0 0 σ [(0, .ref (hG σ (0, a))), (1, .int (nI i)), (2, .ref b)] [] 0
  have hsz := h.2.1
  obtain ⟨hlt, hic, hrow, hat, hNc, hel, hxa, hxk⟩ := h.row hx
  have h64 := h.2.2.2.2.2.1
  have hlc := h.2.2.2.2.1
  refine j_iload_n (pc := 0) C dJx4a65c_set_bcc79_0 rfl 1 rfl ?_
  refine j_aload_n (pc := 1) C dJx4a65c_set_bcc79_1 rfl 0 rfl ?_
  refine j_getI (pc := 2) C fp_Jx4a65c_48 (⟨h.1, rfl⟩) rfl (f := 2) rfl dJx4a65c_set_bcc79_2 ?_
  refine j_topi (nI xs.length) hsz ?_
  refine j_callS (pc := 5) C [.int (nI i), .int (nI xs.length)] [] (rm0 := ({ frames := 2, cells := 0, slots := 0, locals := 43 } : Room)) (k' := 0) (n' := 0) Q.1 (c_J15_checkIndex_7cf53 (xl X) (xw X) hlt (by omega)) mp_J15_checkIndex_7cf53 wm_256 rfl rfl (Nat.le_of_ble_eq_true rfl) dJx4a65c_set_bcc79_5 ⟨by decide, by decide⟩ ⟨Nat.le_of_ble_eq_true rfl, Nat.le_of_ble_eq_true rfl⟩ rfl rfl (det1 ?_)
  refine j_pop (pc := 8) C dJx4a65c_set_bcc79_8 rfl ?_
  refine j_aload_n (pc := 9) C dJx4a65c_set_bcc79_9 rfl 0 rfl ?_
  refine j_iload_n (pc := 10) C dJx4a65c_set_bcc79_10 rfl 1 rfl ?_
  refine j_callV (pc := 11) C [.int (nI i)] [] (rm0 := ({ frames := 2, cells := 0, slots := 0, locals := 43 } : Room)) (k' := 0) (n' := 0) Q.1 (c_Jx4a65c_elementData_915e3 (xl X) (xw X) h hx) mp_Jx4a65c_elementData_915e3 wm_262 (⟨h.1, rfl⟩) rfl rfl (Nat.le_of_ble_eq_true rfl) rfl rfl (Nat.le_of_ble_eq_true rfl) dJx4a65c_set_bcc79_11 ⟨by decide, by decide⟩ ⟨Nat.le_of_ble_eq_true rfl, Nat.le_of_ble_eq_true rfl⟩ rfl rfl (det1 ?_)
  refine j_astore_n (pc := 14) C [(3, .ref (hG σ x)), (0, .ref (hG σ (0, a))), (1, .int (nI i)), (2, .ref b)] dJx4a65c_set_bcc79_14 rfl (by decide) rfl ?_
  refine j_aload_n (pc := 15) C dJx4a65c_set_bcc79_15 rfl 1 rfl ?_
  refine j_getA (pc := 16) C fp_Jx4a65c_9 (⟨h.1, rfl⟩) rfl (f := 1) rfl (14, 64 * a + c) (hG σ (14, 64 * a + c)) hrow hat dJx4a65c_set_bcc79_16 ?_
  refine j_iload_n (pc := 19) C dJx4a65c_set_bcc79_19 rfl 2 rfl ?_
  refine j_aload_n (pc := 20) C dJx4a65c_set_bcc79_20 rfl 3 rfl ?_
  refine j_aast (pc := 21) C hat hy hyk (p := i) (M := c) rfl hNc hic (by omega) dJx4a65c_set_bcc79_21 ?_
  show J X 0 0 (sR σ 896 (64 * a + c) i (some y)) [(3, .ref (hG σ x)), (0, .ref (hG σ (0, a))), (1, .int (nI i)), (2, .ref b)] [] 22
  refine j_aload_n (pc := 22) C dJx4a65c_set_bcc79_22 rfl 0 rfl ?_
  exact j_areturn (pc := 23) C Q (Or.inl ⟨_, rfl⟩) (Or.inr ⟨_, rfl⟩) dJx4a65c_set_bcc79_23 (Nat.le_of_ble_eq_true rfl) (Nat.le_of_ble_eq_true rfl) (⟨rfl, rfl⟩)
