set_option maxHeartbeats 4000000 in
set_option maxRecDepth 100000 in
theorem c_X6_codeOf (L9 : Launch) (w9 : Wd) {σ : HS} {p : Nat} : MJ L9 w9 yX6_codeOf cX6_codeOf 1 (some .int) ({ frames := 0, cells := 0, slots := 0, locals := 0 } : Room) [.int (nI p)] σ (fun v σ' => v = some (.int (nI (p + 1))) ∧ σ' = σ) := by
  refine MJ.of (by decide +kernel) (Nat.le_of_ble_eq_true rfl) (fun X hX1 hX2 C Q hinit => ?_)
  subst hX1; subst hX2
  show J X 0 0 σ [(0, .int (nI p))] [] 0
  refine j_iload_n (pc := 0) C dX6_codeOf_0 rfl 0 rfl ?_
  refine j_iconst (pc := 1) C (nI 1) dX6_codeOf_1 (by decide) ?_
  refine j_iadd (pc := 2) C dX6_codeOf_2 ?_
  refine j_topi (nI (p + 1)) (nI_add p 1) ?_
  exact j_ireturn (pc := 3) C Q dX6_codeOf_3 (Nat.le_of_ble_eq_true rfl) (Nat.le_of_ble_eq_true rfl) (⟨rfl, rfl⟩)
set_option maxHeartbeats 4000000 in
set_option maxRecDepth 100000 in
theorem c_X6_codeAt (L9 : Launch) (w9 : Wd) {σ : HS} {l : List Nat} (hl : okR l) {p : Nat} (hp : p < 2 ^ 31) : MJ L9 w9 yX6_codeAt cX6_codeAt 3 (some .int) ({ frames := 0, cells := 0, slots := 0, locals := 0 } : Room) [.long (enc5 l), .int (nI p)] σ (fun v σ' => v = some (.int (nI (cd l p))) ∧ σ' = σ) := by
  refine MJ.of (by decide +kernel) (Nat.le_of_ble_eq_true rfl) (fun X hX1 hX2 C Q hinit => ?_)
  subst hX1; subst hX2
  show J X 0 0 σ [(0, .long (enc5 l)), (2, .int (nI p))] [] 0
  refine j_iload_n (pc := 0) C dX6_codeAt_0 rfl 1 rfl ?_
  refine jn_if_lt (pc := 1) C 10 (a := p) (by omega) dX6_codeAt_1 (by decide) (fun c1 => ?_) (fun c1 => ?_)
  · exact c1.elim
  · refine j_iload_n (pc := 4) C dX6_codeAt_4 rfl 1 rfl ?_
    refine j_bipush (pc := 5) C (nI 8) dX6_codeAt_5 (by decide) ?_
    refine jn_icmp_lt (pc := 7) C 12 (a := p) (b := 8) (by omega) (by omega) dX6_codeAt_7 (by decide) (fun c2 => ?_) (fun c2 => ?_)
    · refine j_lload_n (pc := 12) C dX6_codeAt_12 rfl 0 rfl ?_
      refine j_iconst (pc := 13) C (nI 5) dX6_codeAt_13 (by decide) ?_
      refine j_iload_n (pc := 14) C dX6_codeAt_14 rfl 1 rfl ?_
      refine j_imul (pc := 15) C dX6_codeAt_15 ?_
      refine j_topi (nI (5 * p)) (pk_mul 5 p) ?_
      refine j_lushr (pc := 16) C dX6_codeAt_16 ?_
      refine j_l2i (pc := 17) C dX6_codeAt_17 ?_
      refine j_bipush (pc := 18) C (nI 31) dX6_codeAt_18 (by decide) ?_
      refine j_iand (pc := 20) C dX6_codeAt_20 ?_
      refine j_topi (nI (cd l p)) (row5_at hl c2) ?_
      exact j_ireturn (pc := 21) C Q dX6_codeAt_21 (Nat.le_of_ble_eq_true rfl) (Nat.le_of_ble_eq_true rfl) (⟨rfl, rfl⟩)
    · have e0 : cd l p = 0 := by
        unfold cd; rw [List.getElem?_eq_none (Nat.le_trans hl.1 c2)]; rfl
      refine j_iconst (pc := 10) C (nI 0) dX6_codeAt_10 (by decide) ?_
      refine j_topi (nI (cd l p)) (congrArg nI e0.symm) ?_
      exact j_ireturn (pc := 11) C Q dX6_codeAt_11 (Nat.le_of_ble_eq_true rfl) (Nat.le_of_ble_eq_true rfl) (⟨rfl, rfl⟩)
set_option maxHeartbeats 4000000 in
set_option maxRecDepth 100000 in
theorem c_X6_soundAt (L9 : Launch) (w9 : Wd) {σ : HS} {l : List Nat} (hl : okR l) {p : Nat} (hp : p < 2 ^ 31) : MJ L9 w9 yX6_soundAt cX6_soundAt 4 (some .int) ({ frames := 1, cells := 0, slots := 0, locals := 22 } : Room) [.long (enc5 l), .int (nI p)] σ (fun v σ' => v = some (.int (nI (cd l p) - 1)) ∧ σ' = σ) := by
  refine MJ.of (by decide +kernel) (Nat.le_of_ble_eq_true rfl) (fun X hX1 hX2 C Q hinit => ?_)
  subst hX1; subst hX2
  show J X 0 0 σ [(0, .long (enc5 l)), (2, .int (nI p))] [] 0
  refine j_lload_n (pc := 0) C dX6_soundAt_0 rfl 0 rfl ?_
  refine j_iload_n (pc := 1) C dX6_soundAt_1 rfl 1 rfl ?_
  refine j_callS (pc := 2) C [.long (enc5 l), .int (nI p)] [] (rm0 := ({ frames := 1, cells := 0, slots := 0, locals := 22 } : Room)) (k' := 0) (n' := 0) Q.1 (c_X6_codeAt (xl X) (xw X) hl hp) mp_X6_codeAt wm_950 rfl rfl (Nat.le_of_ble_eq_true rfl) dX6_soundAt_2 ⟨by decide, by decide⟩ ⟨Nat.le_of_ble_eq_true rfl, Nat.le_of_ble_eq_true rfl⟩ rfl rfl (det1 ?_)
  have hcd : cd l p < 32 := cd_lt hl.2 p
  refine j_istore_n (pc := 5) C [(3, .int (nI (cd l p))), (0, .long (enc5 l)), (2, .int (nI p))] dX6_soundAt_5 rfl (by decide) rfl ?_
  refine j_iload_n (pc := 6) C dX6_soundAt_6 rfl 0 rfl ?_
  refine jn_if_ne (pc := 7) C 14 (a := cd l p) (by omega) dX6_soundAt_7 (by decide) (fun c1 => ?_) (fun c1 => ?_)
  · refine j_iload_n (pc := 14) C dX6_soundAt_14 rfl 0 rfl ?_
    refine j_iconst (pc := 15) C (nI 1) dX6_soundAt_15 (by decide) ?_
    refine j_isub (pc := 16) C dX6_soundAt_16 ?_
    refine j_topi (nI (cd l p) - 1) rfl ?_
    exact j_ireturn (pc := 17) C Q dX6_soundAt_17 (Nat.le_of_ble_eq_true rfl) (Nat.le_of_ble_eq_true rfl) (⟨rfl, rfl⟩)
  · refine j_iconst (pc := 10) C (-1) dX6_soundAt_10 (by decide) ?_
    refine j_goto (pc := 11) C 17 dX6_soundAt_11 (by decide) ?_
    refine j_topi (nI (cd l p) - 1) (by rw [c1]; decide) ?_
    exact j_ireturn (pc := 17) C Q dX6_soundAt_17 (Nat.le_of_ble_eq_true rfl) (Nat.le_of_ble_eq_true rfl) (⟨rfl, rfl⟩)
set_option maxHeartbeats 4000000 in
set_option maxRecDepth 100000 in
theorem c_X6_sizeOf (L9 : Launch) (w9 : Wd) {σ : HS} {l : List Nat} (hl : okR l) : MJ L9 w9 yX6_sizeOf cX6_sizeOf 3 (some .int) ({ frames := 0, cells := 0, slots := 0, locals := 0 } : Room) [.long (enc5 l)] σ (fun v σ' => v = some (.int (nI l.length)) ∧ σ' = σ) := by
  refine MJ.of (by decide +kernel) (Nat.le_of_ble_eq_true rfl) (fun X hX1 hX2 C Q hinit => ?_)
  subst hX1; subst hX2
  show J X 0 0 σ [(0, .long (enc5 l))] [] 0
  refine j_iconst (pc := 0) C (nI 0) dX6_sizeOf_0 (by decide) ?_
  refine j_istore_n (pc := 1) C [(2, .int (nI 0)), (0, .long (enc5 l))] dX6_sizeOf_1 rfl (by decide) rfl ?_
  have loop : ∀ (f i : Nat), i ≤ l.length → l.length < i + f → J X 0 0 σ [(2, .int (nI i)), (0, .long (enc5 l))] [] 2 := by
    intro f
    induction f with
    | zero => intro i h1 h2; exact absurd h2 (by omega)
    | succ f ih =>
      intro i h1 h2
      have h8 := hl.1
      refine j_iload_n (pc := 2) C dX6_sizeOf_2 rfl 0 rfl ?_
      refine j_bipush (pc := 3) C (nI 8) dX6_sizeOf_3 (by decide) ?_
      refine jn_icmp_ge (pc := 5) C 26 (a := i) (b := 8) (by omega) (by omega) dX6_sizeOf_5 (by decide) (fun c1 => ?_) (fun c1 => ?_)
      · have e : l.length = 8 := by omega
        refine j_bipush (pc := 26) C (nI 8) dX6_sizeOf_26 (by decide) ?_
        refine j_topi (nI l.length) (by rw [e]) ?_
        exact j_ireturn (pc := 28) C Q dX6_sizeOf_28 (Nat.le_of_ble_eq_true rfl) (Nat.le_of_ble_eq_true rfl) (⟨rfl, rfl⟩)
      · refine j_lload_n (pc := 8) C dX6_sizeOf_8 rfl 1 rfl ?_
        refine j_iconst (pc := 9) C (nI 5) dX6_sizeOf_9 (by decide) ?_
        refine j_iload_n (pc := 10) C dX6_sizeOf_10 rfl 0 rfl ?_
        refine j_imul (pc := 11) C dX6_sizeOf_11 ?_
        refine j_topi (nI (5 * i)) (pk_mul 5 i) ?_
        refine j_lushr (pc := 12) C dX6_sizeOf_12 ?_
        refine j_topl (enc5 (l.drop i)) (row5_shr hl c1) ?_
        refine j_lconst (pc := 13) C (lN 0) dX6_sizeOf_13 (by decide) ?_
        refine j_lcmp (pc := 14) C dX6_sizeOf_14 ?_
        refine jl_if_ne (pc := 15) C 20 dX6_sizeOf_15 (by decide) (fun c2 => ?_) (fun c2 => ?_)
        · have c3 : l.drop i ≠ [] := fun z => c2 ((enc5_nil (okR_drop hl i)).mpr z)
          have c4 : i < l.length := by
            rcases Nat.lt_or_ge i l.length with q | q
            · exact q
            · exact absurd (List.drop_eq_nil_of_le q) c3
          refine j_iinc (pc := 20) C (nI (i + 1)) [(2, .int (nI (i + 1))), (0, .long (enc5 l))] dX6_sizeOf_20 0 rfl (nI_add i 1) (by decide) rfl ?_
          refine j_goto (pc := 23) C 2 dX6_sizeOf_23 (by decide) ?_
          exact ih (i + 1) (by omega) (by omega)
        · have c3 := (enc5_nil (okR_drop hl i)).mp c2
          have c4 : l.length ≤ i := List.drop_eq_nil_iff.mp c3
          refine j_iload_n (pc := 18) C dX6_sizeOf_18 rfl 0 rfl ?_
          refine j_topi (nI l.length) (by rw [Nat.le_antisymm h1 c4]) ?_
          exact j_ireturn (pc := 19) C Q dX6_sizeOf_19 (Nat.le_of_ble_eq_true rfl) (Nat.le_of_ble_eq_true rfl) (⟨rfl, rfl⟩)
  exact loop (l.length + 1) 0 (Nat.zero_le _) (by omega)
set_option maxHeartbeats 4000000 in
set_option maxRecDepth 100000 in
theorem c_X6_with (L9 : Launch) (w9 : Wd) {σ : HS} {l : List Nat} (hl : okR l) {s : Nat} (hs : s < 16) (hn : l.length < 8) : MJ L9 w9 yX6_with cX6_with 4 (some .long) ({ frames := 0, cells := 0, slots := 0, locals := 0 } : Room) [.long (enc5 l), .int (nI l.length), .int (nI (s + 1))] σ (fun v σ' => v = some (.long (enc5 (l ++ [s]))) ∧ σ' = σ) := by
  refine MJ.of (by decide +kernel) (Nat.le_of_ble_eq_true rfl) (fun X hX1 hX2 C Q hinit => ?_)
  subst hX1; subst hX2
  show J X 0 0 σ [(0, .long (enc5 l)), (2, .int (nI l.length)), (3, .int (nI (s + 1)))] [] 0
  refine j_iload_n (pc := 0) C dX6_with_0 rfl 1 rfl ?_
  refine j_bipush (pc := 1) C (nI 8) dX6_with_1 (by decide) ?_
  refine jn_icmp_ge (pc := 3) C 17 (a := l.length) (b := 8) (by omega) (by omega) dX6_with_3 (by decide) (fun c1 => ?_) (fun c1 => ?_)
  · exact absurd c1 (by omega)
  · refine j_lload_n (pc := 6) C dX6_with_6 rfl 0 rfl ?_
    refine j_iload_n (pc := 7) C dX6_with_7 rfl 2 rfl ?_
    refine j_i2l (pc := 8) C dX6_with_8 ?_
    refine j_iconst (pc := 9) C (nI 5) dX6_with_9 (by decide) ?_
    refine j_iload_n (pc := 10) C dX6_with_10 rfl 1 rfl ?_
    refine j_imul (pc := 11) C dX6_with_11 ?_
    refine j_topi (nI (5 * l.length)) (pk_mul 5 l.length) ?_
    refine j_lshl (pc := 12) C dX6_with_12 ?_
    refine j_lor (pc := 13) C dX6_with_13 ?_
    refine j_topl (enc5 (l ++ [s])) (row5_with hl hs hn) ?_
    refine j_goto (pc := 14) C 18 dX6_with_14 (by decide) ?_
    exact j_lreturn (pc := 18) C Q dX6_with_18 (Nat.le_of_ble_eq_true rfl) (Nat.le_of_ble_eq_true rfl) (⟨rfl, rfl⟩)
set_option maxHeartbeats 4000000 in
set_option maxRecDepth 100000 in
theorem c_X6_joined (L9 : Launch) (w9 : Wd) {σ : HS} {l m : List Nat} (hl : okR l) (hm : okR m) (hn : l.length + m.length ≤ 8) (h7 : l.length < 8) : MJ L9 w9 yX6_joined cX6_joined 5 (some .long) ({ frames := 1, cells := 0, slots := 0, locals := 22 } : Room) [.long (enc5 l), .long (enc5 m)] σ (fun v σ' => v = some (.long (enc5 (l ++ m))) ∧ σ' = σ) := by
  refine MJ.of (by decide +kernel) (Nat.le_of_ble_eq_true rfl) (fun X hX1 hX2 C Q hinit => ?_)
  subst hX1; subst hX2
  show J X 0 0 σ [(0, .long (enc5 l)), (2, .long (enc5 m))] [] 0
  refine j_lload_n (pc := 0) C dX6_joined_0 rfl 0 rfl ?_
  refine j_callS (pc := 1) C [.long (enc5 l)] [] (rm0 := ({ frames := 1, cells := 0, slots := 0, locals := 22 } : Room)) (k' := 0) (n' := 0) Q.1 (c_X6_sizeOf (xl X) (xw X) hl) mp_X6_sizeOf wm_289 rfl rfl (Nat.le_of_ble_eq_true rfl) dX6_joined_1 ⟨by decide, by decide⟩ ⟨Nat.le_of_ble_eq_true rfl, Nat.le_of_ble_eq_true rfl⟩ rfl rfl (det1 ?_)
  refine j_istore (pc := 4) C [(4, .int (nI l.length)), (0, .long (enc5 l)), (2, .long (enc5 m))] dX6_joined_4 (by decide) rfl ?_
  refine j_iload (pc := 6) C dX6_joined_6 0 rfl ?_
  refine j_bipush (pc := 8) C (nI 8) dX6_joined_8 (by decide) ?_
  refine jn_icmp_ge (pc := 10) C 24 (a := l.length) (b := 8) (by omega) (by omega) dX6_joined_10 (by decide) (fun c1 => ?_) (fun c1 => ?_)
  · exact absurd c1 (by omega)
  · refine j_lload_n (pc := 13) C dX6_joined_13 rfl 1 rfl ?_
    refine j_lload_n (pc := 14) C dX6_joined_14 rfl 2 rfl ?_
    refine j_iconst (pc := 15) C (nI 5) dX6_joined_15 (by decide) ?_
    refine j_iload (pc := 16) C dX6_joined_16 0 rfl ?_
    refine j_imul (pc := 18) C dX6_joined_18 ?_
    refine j_topi (nI (5 * l.length)) (pk_mul 5 l.length) ?_
    refine j_lshl (pc := 19) C dX6_joined_19 ?_
    refine j_lor (pc := 20) C dX6_joined_20 ?_
    refine j_topl (enc5 (l ++ m)) (row5_join hl hm h7 hn) ?_
    refine j_goto (pc := 21) C 25 dX6_joined_21 (by decide) ?_
    exact j_lreturn (pc := 25) C Q dX6_joined_25 (Nat.le_of_ble_eq_true rfl) (Nat.le_of_ble_eq_true rfl) (⟨rfl, rfl⟩)
