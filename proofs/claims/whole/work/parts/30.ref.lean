set_option maxHeartbeats 4000000 in
set_option maxRecDepth 100000 in
theorem c_X10_thrown (L9 : Launch) (w9 : Wd) {σ : HS} {S : SP} {x9 : Nat → Nat} {k9 : Int32} (hs : RS S x9 k9 σ)  : MJ L9 w9 yX10_thrown cX10_thrown 1 (some .int) ({ frames := 0, cells := 0, slots := 0, locals := 0 } : Room) [.ref (x9 0)] σ (fun a9 σ' => a9 = some (.int k9) ∧ σ' = σ) := by
  refine MJ.of (by decide +kernel) (Nat.le_of_ble_eq_true rfl) (fun X hX1 hX2 C Q hinit => ?_)
  subst hX1; subst hX2
  show J X 0 0 σ [(0, .ref (x9 0))] [] 0
  have hme : ME σ σ := ME.rf
  refine j_aload_n (pc := 0) C dX10_thrown_0 rfl 0 rfl ?_
  refine j_getI (pc := 1) C fp_X10_86 hs.2.1.1 rfl (f := 640) rfl dX10_thrown_1 ?_
  refine j_topi k9 hs.2.2 ?_
  exact j_ireturn (pc := 4) C Q dX10_thrown_4 (Nat.le_of_ble_eq_true rfl) (Nat.le_of_ble_eq_true rfl) (⟨rfl, rfl⟩)
set_option maxHeartbeats 4000000 in
set_option maxRecDepth 100000 in
theorem c_X10_holds (L9 : Launch) (w9 : Wd) {σ : HS} {S : SP} {x9 : Nat → Nat} {k9 : Int32} (hs : RS S x9 k9 σ) (e : Int32) : MJ L9 w9 yX10_holds cX10_holds 2 (some .boolean) ({ frames := 0, cells := 0, slots := 0, locals := 0 } : Room) [.ref (x9 0), .int e] σ (fun a9 σ' => a9 = some (.int (bI (decide (e = 0)))) ∧ RS S x9 e σ' ∧ ME σ σ') := by
  refine MJ.of (by decide +kernel) (Nat.le_of_ble_eq_true rfl) (fun X hX1 hX2 C Q hinit => ?_)
  subst hX1; subst hX2
  show J X 0 0 σ [(0, .ref (x9 0)), (1, .int e)] [] 0
  have hme : ME σ σ := ME.rf
  refine j_aload_n (pc := 0) C dX10_holds_0 rfl 0 rfl ?_
  refine j_iload_n (pc := 1) C dX10_holds_1 rfl 1 rfl ?_
  refine j_putI (pc := 2) C fp_X10_86 hs.2.1.1 rfl rfl (Or.inl rfl) rfl (by decide) (f := 640) rfl dX10_holds_2 ?_
  have hs := hs.wT e; have hme := hme.sI (f := 640) (i := 0) (j := 0) (v := e) rfl
  generalize sI σ 640 0 0 e = σ1 at hs hme ⊢
  refine j_iload_n (pc := 5) C dX10_holds_5 rfl 1 rfl ?_
  refine j_if_ne (pc := 6) C 13 dX10_holds_6 (by decide) (fun c1 => ?_) (fun c1 => ?_)
  · refine j_iconst (pc := 13) C (nI 0) dX10_holds_13 (by decide) ?_
    refine j_topi (bI (decide (e = 0))) (by rw [decide_eq_false c1]; rfl) ?_
    exact j_zreturn (pc := 14) C Q dX10_holds_14 (bI_nar _) (Nat.le_of_ble_eq_true rfl) (Nat.le_of_ble_eq_true rfl) (⟨rfl, hs, hme⟩)
  · refine j_iconst (pc := 9) C (nI 1) dX10_holds_9 (by decide) ?_
    refine j_goto (pc := 10) C 14 dX10_holds_10 (by decide) ?_
    refine j_topi (bI (decide (e = 0))) (by rw [decide_eq_true c1]; rfl) ?_
    exact j_zreturn (pc := 14) C Q dX10_holds_14 (bI_nar _) (Nat.le_of_ble_eq_true rfl) (Nat.le_of_ble_eq_true rfl) (⟨rfl, hs, hme⟩)
set_option maxHeartbeats 4000000 in
set_option maxRecDepth 100000 in
theorem c_X10_isIn (L9 : Launch) (w9 : Wd) {σ : HS} (x lo hi : Int32) (b : Bool) (hb : (decide (lo ≤ x) && decide (x ≤ hi)) = b) : MJ L9 w9 yX10_isIn cX10_isIn 3 (some .boolean) ({ frames := 0, cells := 0, slots := 0, locals := 0 } : Room) [.int x, .int lo, .int hi] σ (fun a9 σ' => a9 = some (.int (bI b)) ∧ σ' = σ) := by
  refine MJ.of (by decide +kernel) (Nat.le_of_ble_eq_true rfl) (fun X hX1 hX2 C Q hinit => ?_)
  subst hX1; subst hX2
  show J X 0 0 σ [(0, .int x), (1, .int lo), (2, .int hi)] [] 0
  refine j_iload_n (pc := 0) C dX10_isIn_0 rfl 0 rfl ?_
  refine j_iload_n (pc := 1) C dX10_isIn_1 rfl 1 rfl ?_
  refine j_icmp_lt (pc := 2) C 14 dX10_isIn_2 (by decide) (fun c1 => ?_) (fun c1 => ?_)
  · refine j_iconst (pc := 14) C (nI 0) dX10_isIn_14 (by decide) ?_
    refine j_topi (bI b) (by rw [← hb, decide_eq_false (Int32.not_le.mpr c1)]; rfl) ?_
    exact j_zreturn (pc := 15) C Q dX10_isIn_15 (bI_nar _) (Nat.le_of_ble_eq_true rfl) (Nat.le_of_ble_eq_true rfl) (⟨rfl, rfl⟩)
  · refine j_iload_n (pc := 5) C dX10_isIn_5 rfl 0 rfl ?_
    refine j_iload_n (pc := 6) C dX10_isIn_6 rfl 2 rfl ?_
    refine j_icmp_gt (pc := 7) C 14 dX10_isIn_7 (by decide) (fun c2 => ?_) (fun c2 => ?_)
    · refine j_iconst (pc := 14) C (nI 0) dX10_isIn_14 (by decide) ?_
      refine j_topi (bI b) (by rw [← hb, decide_eq_false (Int32.not_le.mpr c2), Bool.and_false]; rfl) ?_
      exact j_zreturn (pc := 15) C Q dX10_isIn_15 (bI_nar _) (Nat.le_of_ble_eq_true rfl) (Nat.le_of_ble_eq_true rfl) (⟨rfl, rfl⟩)
    · refine j_iconst (pc := 10) C (nI 1) dX10_isIn_10 (by decide) ?_
      refine j_goto (pc := 11) C 15 dX10_isIn_11 (by decide) ?_
      refine j_topi (bI b) (by rw [← hb, decide_eq_true (Int32.not_lt.mp c1), decide_eq_true (Int32.not_lt.mp c2)]; rfl) ?_
      exact j_zreturn (pc := 15) C Q dX10_isIn_15 (bI_nar _) (Nat.le_of_ble_eq_true rfl) (Nat.le_of_ble_eq_true rfl) (⟨rfl, rfl⟩)
set_option maxHeartbeats 4000000 in
set_option maxRecDepth 100000 in
theorem c_X10_size (L9 : Launch) (w9 : Wd) {σ : HS} {l : List Nat} (hl : okR l) : MJ L9 w9 yX10_size cX10_size 2 (some .int) ({ frames := 0, cells := 0, slots := 0, locals := 0 } : Room) [.long (enc4 l)] σ (fun a9 σ' => a9 = some (.int (nI l.length)) ∧ σ' = σ) := by
  refine MJ.of (by decide +kernel) (Nat.le_of_ble_eq_true rfl) (fun X hX1 hX2 C Q hinit => ?_)
  subst hX1; subst hX2
  show J X 0 0 σ [(0, .long (enc4 l))] [] 0
  refine j_lload_n (pc := 0) C dX10_size_0 rfl 0 rfl ?_
  refine j_bipush (pc := 1) C (nI 32) dX10_size_1 (by decide) ?_
  refine j_lshr (pc := 3) C dX10_size_3 ?_
  refine j_l2i (pc := 4) C dX10_size_4 ?_
  refine j_topi (nI l.length) (row4_size hl) ?_
  exact j_ireturn (pc := 5) C Q dX10_size_5 (Nat.le_of_ble_eq_true rfl) (Nat.le_of_ble_eq_true rfl) (⟨rfl, rfl⟩)
set_option maxHeartbeats 4000000 in
set_option maxRecDepth 100000 in
theorem c_X10_soundAt (L9 : Launch) (w9 : Wd) {σ : HS} {l : List Nat} (hl : okR l) {p s : Nat} (hp : l[p]? = some s) : MJ L9 w9 yX10_soundAt cX10_soundAt 3 (some .int) ({ frames := 0, cells := 0, slots := 0, locals := 0 } : Room) [.long (enc4 l), .int (nI p)] σ (fun a9 σ' => a9 = some (.int (nI s)) ∧ σ' = σ) := by
  refine MJ.of (by decide +kernel) (Nat.le_of_ble_eq_true rfl) (fun X hX1 hX2 C Q hinit => ?_)
  subst hX1; subst hX2
  show J X 0 0 σ [(0, .long (enc4 l)), (2, .int (nI p))] [] 0
  refine j_lload_n (pc := 0) C dX10_soundAt_0 rfl 0 rfl ?_
  refine j_iconst (pc := 1) C (nI 4) dX10_soundAt_1 (by decide) ?_
  refine j_iload_n (pc := 2) C dX10_soundAt_2 rfl 1 rfl ?_
  refine j_imul (pc := 3) C dX10_soundAt_3 ?_
  refine j_topi (nI (4 * p)) (pk_mul 4 p) ?_
  refine j_lshr (pc := 4) C dX10_soundAt_4 ?_
  refine j_ldc2 (pc := 5) C (v := 15) dX10_soundAt_5 wm_1300 ?_
  refine j_land (pc := 8) C dX10_soundAt_8 ?_
  refine j_l2i (pc := 9) C dX10_soundAt_9 ?_
  refine j_topi (nI s) (row4_at hl hp) ?_
  exact j_ireturn (pc := 10) C Q dX10_soundAt_10 (Nat.le_of_ble_eq_true rfl) (Nat.le_of_ble_eq_true rfl) (⟨rfl, rfl⟩)
set_option maxHeartbeats 4000000 in
set_option maxRecDepth 100000 in
theorem c_X10_with (L9 : Launch) (w9 : Wd) {σ : HS} {l : List Nat} (hl : okR l) {s : Nat} (hs : s < 16) (hn : l.length < 8) : MJ L9 w9 yX10_with cX10_with 3 (some .long) ({ frames := 1, cells := 0, slots := 0, locals := 21 } : Room) [.long (enc4 l), .int (nI s)] σ (fun a9 σ' => a9 = some (.long (enc4 (l ++ [s]))) ∧ σ' = σ) := by
  refine MJ.of (by decide +kernel) (Nat.le_of_ble_eq_true rfl) (fun X hX1 hX2 C Q hinit => ?_)
  subst hX1; subst hX2
  show J X 0 0 σ [(0, .long (enc4 l)), (2, .int (nI s))] [] 0
  refine j_lload_n (pc := 0) C dX10_with_0 rfl 0 rfl ?_
  refine j_iload_n (pc := 1) C dX10_with_1 rfl 1 rfl ?_
  refine j_i2l (pc := 2) C dX10_with_2 ?_
  refine j_iconst (pc := 3) C (nI 4) dX10_with_3 (by decide) ?_
  refine j_lload_n (pc := 4) C dX10_with_4 rfl 0 rfl ?_
  refine j_callS (pc := 5) C [.long (enc4 l)] [.int (nI 4), .long ((nI s).toInt64), .long (enc4 l)] (rm0 := ({ frames := 1, cells := 0, slots := 0, locals := 21 } : Room)) (k' := 0) (n' := 0) Q.1 (c_X10_size (xl X) (xw X) hl) mp_X10_size wm_1172 rfl rfl (Nat.le_of_ble_eq_true rfl) dX10_with_5 ⟨by decide, by decide⟩ ⟨Nat.le_of_ble_eq_true rfl, Nat.le_of_ble_eq_true rfl⟩ rfl rfl (det1 ?_)
  refine j_imul (pc := 8) C dX10_with_8 ?_
  refine j_topi (nI (4 * l.length)) (pk_mul 4 l.length) ?_
  refine j_lshl (pc := 9) C dX10_with_9 ?_
  refine j_lor (pc := 10) C dX10_with_10 ?_
  refine j_ldc2 (pc := 11) C (v := 4294967296) dX10_with_11 wm_1178 ?_
  refine j_ladd (pc := 14) C dX10_with_14 ?_
  refine j_topl (enc4 (l ++ [s])) (row4_with hl hs hn) ?_
  exact j_lreturn (pc := 15) C Q dX10_with_15 (Nat.le_of_ble_eq_true rfl) (Nat.le_of_ble_eq_true rfl) (⟨rfl, rfl⟩)
set_option maxHeartbeats 4000000 in
set_option maxRecDepth 100000 in
theorem c_X10_joined (L9 : Launch) (w9 : Wd) {σ : HS} {l m : List Nat} (hl : okR l) (hm : okR m) (hn : l.length + m.length ≤ 8) : MJ L9 w9 yX10_joined cX10_joined 7 (some .long) ({ frames := 2, cells := 0, slots := 0, locals := 43 } : Room) [.long (enc4 l), .long (enc4 m)] σ (fun a9 σ' => a9 = some (.long (enc4 (l ++ m))) ∧ σ' = σ) := by
  refine MJ.of (by decide +kernel) (Nat.le_of_ble_eq_true rfl) (fun X hX1 hX2 C Q hinit => ?_)
  subst hX1; subst hX2
  show J X 0 0 σ [(0, .long (enc4 l)), (2, .long (enc4 m))] [] 0
  refine j_lload_n (pc := 0) C dX10_joined_0 rfl 0 rfl ?_
  refine j_lstore (pc := 1) C [(4, .long (enc4 l)), (0, .long (enc4 l)), (2, .long (enc4 m))] dX10_joined_1 (by decide) rfl ?_
  refine j_iconst (pc := 3) C (nI 0) dX10_joined_3 (by decide) ?_
  refine j_istore (pc := 4) C [(6, .int (nI 0)), (4, .long (enc4 l)), (0, .long (enc4 l)), (2, .long (enc4 m))] dX10_joined_4 (by decide) rfl ?_
  have loop : ∀ (f i : Nat), i ≤ m.length → m.length < i + f → J X 0 0 σ [(6, .int (nI i)), (4, .long (enc4 (l ++ m.take i))), (2, .long (enc4 m))] [] 6 := by
    intro f
    induction f with
    | zero => intro i h1 h2; exact absurd h2 (by omega)
    | succ f ih =>
      intro i h1 h2
      have hm8 := hm.1
      refine j_iload (pc := 6) C dX10_joined_6 0 rfl ?_
      refine j_lload_n (pc := 8) C dX10_joined_8 rfl 2 rfl ?_
      refine j_callS (pc := 9) C [.long (enc4 m)] [.int (nI i)] (rm0 := ({ frames := 2, cells := 0, slots := 0, locals := 43 } : Room)) (k' := 0) (n' := 0) Q.1 (c_X10_size (xl X) (xw X) hm) mp_X10_size wm_1172 rfl rfl (Nat.le_of_ble_eq_true rfl) dX10_joined_9 ⟨by decide, by decide⟩ ⟨Nat.le_of_ble_eq_true rfl, Nat.le_of_ble_eq_true rfl⟩ rfl rfl (det1 ?_)
      refine jn_icmp_ge (pc := 12) C 34 (a := i) (b := m.length) (by omega) (by omega) dX10_joined_12 (by decide) (fun c1 => ?_) (fun c1 => ?_)
      · have e : m.take i = m := List.take_of_length_le c1
        refine j_lload (pc := 34) C dX10_joined_34 1 rfl ?_
        refine j_topl (enc4 (l ++ m)) (by rw [e]) ?_
        exact j_lreturn (pc := 36) C Q dX10_joined_36 (Nat.le_of_ble_eq_true rfl) (Nat.le_of_ble_eq_true rfl) (⟨rfl, rfl⟩)
      · obtain ⟨s, hs⟩ : ∃ s, m[i]? = some s := ⟨_, List.getElem?_eq_getElem c1⟩
        have hs16 := hm.2 s (List.mem_of_getElem? hs)
        have hlen : (l ++ m.take i).length = l.length + i := by rw [List.length_append, List.length_take]; omega
        have hk : okR (l ++ m.take i) := okR_app hl.2 (fun t ht => hm.2 t (List.mem_of_mem_take ht)) (by rw [List.length_take]; omega)
        have he : (l ++ m.take i) ++ [s] = l ++ m.take (i + 1) := by rw [List.append_assoc, List.take_add_one, hs]; rfl
        refine j_lload (pc := 15) C dX10_joined_15 1 rfl ?_
        refine j_lload_n (pc := 17) C dX10_joined_17 rfl 2 rfl ?_
        refine j_iload (pc := 18) C dX10_joined_18 0 rfl ?_
        refine j_callS (pc := 20) C [.long (enc4 m), .int (nI i)] [.long (enc4 (l ++ m.take i))] (rm0 := ({ frames := 2, cells := 0, slots := 0, locals := 43 } : Room)) (k' := 0) (n' := 0) Q.1 (c_X10_soundAt (xl X) (xw X) hm hs) mp_X10_soundAt wm_1297 rfl rfl (Nat.le_of_ble_eq_true rfl) dX10_joined_20 ⟨by decide, by decide⟩ ⟨Nat.le_of_ble_eq_true rfl, Nat.le_of_ble_eq_true rfl⟩ rfl rfl (det1 ?_)
        refine j_callS (pc := 23) C [.long (enc4 (l ++ m.take i)), .int (nI s)] [] (rm0 := ({ frames := 2, cells := 0, slots := 0, locals := 43 } : Room)) (k' := 0) (n' := 0) Q.1 (c_X10_with (xl X) (xw X) hk hs16 (by omega)) mp_X10_with wm_1175 rfl rfl (Nat.le_of_ble_eq_true rfl) dX10_joined_23 ⟨by decide, by decide⟩ ⟨Nat.le_of_ble_eq_true rfl, Nat.le_of_ble_eq_true rfl⟩ rfl rfl (det1 ?_)
        refine j_topl (enc4 (l ++ m.take (i + 1))) (by rw [he]) ?_
        refine j_lstore (pc := 26) C [(4, .long (enc4 (l ++ m.take (i + 1)))), (6, .int (nI i)), (2, .long (enc4 m))] dX10_joined_26 (by decide) rfl ?_
        refine j_iinc (pc := 28) C (nI (i + 1)) [(6, .int (nI (i + 1))), (4, .long (enc4 (l ++ m.take (i + 1)))), (2, .long (enc4 m))] dX10_joined_28 1 rfl (nI_add i 1) (by decide) rfl ?_
        refine j_goto (pc := 31) C 6 dX10_joined_31 (by decide) ?_
        exact J.to [0, 1, 2] rfl (ih (i + 1) (by omega) (by omega))
  have l0 := loop (m.length + 1) 0 (Nat.zero_le _) (by omega)
  rw [show l ++ m.take 0 = l by simp] at l0
  exact J.to [0, 1, 3] rfl l0
set_option maxHeartbeats 4000000 in
set_option maxRecDepth 100000 in
theorem c_X10_takesDraft (L9 : Launch) (w9 : Wd) {σ : HS} {S : SP} {x9 : Nat → Nat} {k9 : Int32} (hs : RS S x9 k9 σ)  : MJ L9 w9 yX10_takesDraft cX10_takesDraft 3 (some .long) ({ frames := 0, cells := 0, slots := 0, locals := 0 } : Room) [.ref (x9 0)] σ (fun a9 σ' => a9 = some (.long (enc4 (dr S))) ∧ RS (noDraft S) x9 k9 σ' ∧ ME σ σ') := by
  refine MJ.of (by decide +kernel) (Nat.le_of_ble_eq_true rfl) (fun X hX1 hX2 C Q hinit => ?_)
  subst hX1; subst hX2
  show J X 0 0 σ [(0, .ref (x9 0))] [] 0
  have hme : ME σ σ := ME.rf
  refine j_aload_n (pc := 0) C dX10_takesDraft_0 rfl 0 rfl ?_
  refine j_getL (pc := 1) C fp_X10_105 hs.2.1.1 rfl (f := 647) rfl dX10_takesDraft_1 ?_
  refine j_topl (enc4 (dr S)) (hs.rdL 647 0 0 (by decide) (by decide)) ?_
  refine j_lstore_n (pc := 4) C [(1, .long (enc4 (dr S))), (0, .ref (x9 0))] dX10_takesDraft_4 rfl (by decide) rfl ?_
  refine j_aload_n (pc := 5) C dX10_takesDraft_5 rfl 1 rfl ?_
  refine j_lconst (pc := 6) C (lN 0) dX10_takesDraft_6 (by decide) ?_
  refine j_putL (pc := 7) C fp_X10_105 hs.2.1.1 rfl rfl (Or.inl rfl) rfl (by decide) (f := 647) rfl dX10_takesDraft_7 ?_
  have hs := hs.wL 647 0 0 (some []) (lN 0) (by decide) (by decide) rfl; have hme := hme.sL (f := 647) (i := 0) (j := 0) (v := (lN 0)) rfl
  generalize sL σ 647 0 0 (lN 0) = σ1 at hs hme ⊢
  refine j_lload_n (pc := 10) C dX10_takesDraft_10 rfl 0 rfl ?_
  exact j_lreturn (pc := 11) C Q dX10_takesDraft_11 (Nat.le_of_ble_eq_true rfl) (Nat.le_of_ble_eq_true rfl) (⟨rfl, hs, hme⟩)
set_option maxHeartbeats 4000000 in
set_option maxRecDepth 100000 in
theorem c_X10_isForm (L9 : Launch) (w9 : Wd) {σ : HS} {S : SP} {x9 : Nat → Nat} {k9 : Int32} (hs : RS S x9 k9 σ) (hw : WF S) : MJ L9 w9 yX10_isForm cX10_isForm 1 (some .boolean) ({ frames := 1, cells := 0, slots := 0, locals := 22 } : Room) [.ref (x9 0)] σ (fun a9 σ' => a9 = some (.int (bI (isForm9 S))) ∧ σ' = σ) := by
  refine MJ.of (by decide +kernel) (Nat.le_of_ble_eq_true rfl) (fun X hX1 hX2 C Q hinit => ?_)
  subst hX1; subst hX2
  show J X 0 0 σ [(0, .ref (x9 0))] [] 0
  have hme : ME σ σ := ME.rf
  refine j_aload_n (pc := 0) C dX10_isForm_0 rfl 0 rfl ?_
  refine j_getL (pc := 1) C fp_X10_105 hs.2.1.1 rfl (f := 647) rfl dX10_isForm_1 ?_
  refine j_topl (enc4 (dr S)) (hs.rdL 647 0 0 (by decide) (by decide)) ?_
  refine j_callS (pc := 4) C [.long (enc4 (dr S))] [] (rm0 := ({ frames := 1, cells := 0, slots := 0, locals := 22 } : Room)) (k' := 0) (n' := 0) Q.1 (c_X10_size (xl X) (xw X) (WF_drR hw)) mp_X10_size wm_1172 rfl rfl (Nat.le_of_ble_eq_true rfl) dX10_isForm_4 ⟨by decide, by decide⟩ ⟨Nat.le_of_ble_eq_true rfl, Nat.le_of_ble_eq_true rfl⟩ rfl rfl (det1 ?_)
  refine j_iconst (pc := 7) C (nI 1) dX10_isForm_7 (by decide) ?_
  refine j_bipush (pc := 8) C (nI 6) dX10_isForm_8 (by decide) ?_
  have h8 := (WF_drR hw).1
  have hb : (decide (nI 1 ≤ nI (dr S).length) && decide (nI (dr S).length ≤ nI 6)) = isForm9 S := by
    unfold isForm9
    rw [decide_eq_decide.mpr (nI_leI (by decide) (by omega)), decide_eq_decide.mpr (nI_leI (by omega) (by decide))]
  refine j_callS (pc := 10) C [.int (nI ((dr S).length)), .int (nI 1), .int (nI 6)] [] (rm0 := ({ frames := 1, cells := 0, slots := 0, locals := 22 } : Room)) (k' := 0) (n' := 0) Q.1 (c_X10_isIn (xl X) (xw X) _ _ _ _ hb) mp_X10_isIn wm_1153 rfl rfl (Nat.le_of_ble_eq_true rfl) dX10_isForm_10 ⟨by decide, by decide⟩ ⟨Nat.le_of_ble_eq_true rfl, Nat.le_of_ble_eq_true rfl⟩ rfl rfl (det1 ?_)
  exact j_zreturn (pc := 13) C Q dX10_isForm_13 (bI_nar _) (Nat.le_of_ble_eq_true rfl) (Nat.le_of_ble_eq_true rfl) (⟨rfl, rfl⟩)
set_option maxHeartbeats 4000000 in
set_option maxRecDepth 100000 in
theorem c_X10_isSound (L9 : Launch) (w9 : Wd) {σ : HS} {S : SP} {x9 : Nat → Nat} {k9 : Int32} (hs : RS S x9 k9 σ) (hw : WF S) (x : Int32) : MJ L9 w9 yX10_isSound cX10_isSound 2 (some .boolean) ({ frames := 1, cells := 0, slots := 0, locals := 22 } : Room) [.ref (x9 0), .int x] σ (fun a9 σ' => a9 = some (.int (bI (inI x (nS S)))) ∧ σ' = σ) := by
  refine MJ.of (by decide +kernel) (Nat.le_of_ble_eq_true rfl) (fun X hX1 hX2 C Q hinit => ?_)
  subst hX1; subst hX2
  show J X 0 0 σ [(0, .ref (x9 0)), (1, .int x)] [] 0
  have hme : ME σ σ := ME.rf
  have hb := hw.1.1
  refine j_iload_n (pc := 0) C dX10_isSound_0 rfl 1 rfl ?_
  refine j_iconst (pc := 1) C (nI 0) dX10_isSound_1 (by decide) ?_
  refine j_aload_n (pc := 2) C dX10_isSound_2 rfl 0 rfl ?_
  refine j_getI (pc := 3) C fp_X10_113 hs.2.1.1 rfl (f := 643) rfl dX10_isSound_3 ?_
  refine j_topi (nI (nS S)) (hs.rdI 643 0 0 (by decide) (by decide)) ?_
  refine j_iconst (pc := 6) C (nI 1) dX10_isSound_6 (by decide) ?_
  refine j_isub (pc := 7) C dX10_isSound_7 ?_
  refine j_callS (pc := 8) C [.int x, .int (nI 0), .int ((nI (nS S)) - (nI 1))] [] (rm0 := ({ frames := 1, cells := 0, slots := 0, locals := 22 } : Room)) (k' := 0) (n' := 0) Q.1 (c_X10_isIn (xl X) (xw X) _ _ _ _ (in_m1 x (by omega))) mp_X10_isIn wm_1153 rfl rfl (Nat.le_of_ble_eq_true rfl) dX10_isSound_8 ⟨by decide, by decide⟩ ⟨Nat.le_of_ble_eq_true rfl, Nat.le_of_ble_eq_true rfl⟩ rfl rfl (det1 ?_)
  exact j_zreturn (pc := 11) C Q dX10_isSound_11 (bI_nar _) (Nat.le_of_ble_eq_true rfl) (Nat.le_of_ble_eq_true rfl) (⟨rfl, rfl⟩)
set_option maxHeartbeats 4000000 in
set_option maxRecDepth 100000 in
theorem c_X10_isClass (L9 : Launch) (w9 : Wd) {σ : HS} {S : SP} {x9 : Nat → Nat} {k9 : Int32} (hs : RS S x9 k9 σ) (hw : WF S) (x : Int32) : MJ L9 w9 yX10_isClass cX10_isClass 2 (some .boolean) ({ frames := 1, cells := 0, slots := 0, locals := 22 } : Room) [.ref (x9 0), .int x] σ (fun a9 σ' => a9 = some (.int (bI (inI x (nC S)))) ∧ σ' = σ) := by
  refine MJ.of (by decide +kernel) (Nat.le_of_ble_eq_true rfl) (fun X hX1 hX2 C Q hinit => ?_)
  subst hX1; subst hX2
  show J X 0 0 σ [(0, .ref (x9 0)), (1, .int x)] [] 0
  have hme : ME σ σ := ME.rf
  have hb := hw.1.2.2.2.1
  refine j_iload_n (pc := 0) C dX10_isClass_0 rfl 1 rfl ?_
  refine j_iconst (pc := 1) C (nI 0) dX10_isClass_1 (by decide) ?_
  refine j_aload_n (pc := 2) C dX10_isClass_2 rfl 0 rfl ?_
  refine j_getI (pc := 3) C fp_X10_120 hs.2.1.1 rfl (f := 646) rfl dX10_isClass_3 ?_
  refine j_topi (nI (nC S)) (hs.rdI 646 0 0 (by decide) (by decide)) ?_
  refine j_iconst (pc := 6) C (nI 1) dX10_isClass_6 (by decide) ?_
  refine j_isub (pc := 7) C dX10_isClass_7 ?_
  refine j_callS (pc := 8) C [.int x, .int (nI 0), .int ((nI (nC S)) - (nI 1))] [] (rm0 := ({ frames := 1, cells := 0, slots := 0, locals := 22 } : Room)) (k' := 0) (n' := 0) Q.1 (c_X10_isIn (xl X) (xw X) _ _ _ _ (in_m1 x (by omega))) mp_X10_isIn wm_1153 rfl rfl (Nat.le_of_ble_eq_true rfl) dX10_isClass_8 ⟨by decide, by decide⟩ ⟨Nat.le_of_ble_eq_true rfl, Nat.le_of_ble_eq_true rfl⟩ rfl rfl (det1 ?_)
  exact j_zreturn (pc := 11) C Q dX10_isClass_11 (bI_nar _) (Nat.le_of_ble_eq_true rfl) (Nat.le_of_ble_eq_true rfl) (⟨rfl, rfl⟩)
set_option maxHeartbeats 4000000 in
set_option maxRecDepth 100000 in
theorem c_X10_isRule (L9 : Launch) (w9 : Wd) {σ : HS} {S : SP} {x9 : Nat → Nat} {k9 : Int32} (hs : RS S x9 k9 σ) (hw : WF S) (x : Int32) : MJ L9 w9 yX10_isRule cX10_isRule 2 (some .boolean) ({ frames := 1, cells := 0, slots := 0, locals := 22 } : Room) [.ref (x9 0), .int x] σ (fun a9 σ' => a9 = some (.int (bI (inI x (nR S)))) ∧ σ' = σ) := by
  refine MJ.of (by decide +kernel) (Nat.le_of_ble_eq_true rfl) (fun X hX1 hX2 C Q hinit => ?_)
  subst hX1; subst hX2
  show J X 0 0 σ [(0, .ref (x9 0)), (1, .int x)] [] 0
  have hme : ME σ σ := ME.rf
  have hb := hw.2.1.1
  refine j_iload_n (pc := 0) C dX10_isRule_0 rfl 1 rfl ?_
  refine j_iconst (pc := 1) C (nI 0) dX10_isRule_1 (by decide) ?_
  refine j_aload_n (pc := 2) C dX10_isRule_2 rfl 0 rfl ?_
  refine j_getI (pc := 3) C fp_X10_133 hs.2.1.1 rfl (f := 659) rfl dX10_isRule_3 ?_
  refine j_topi (nI (nR S)) (hs.rdI 659 0 0 (by decide) (by decide)) ?_
  refine j_iconst (pc := 6) C (nI 1) dX10_isRule_6 (by decide) ?_
  refine j_isub (pc := 7) C dX10_isRule_7 ?_
  refine j_callS (pc := 8) C [.int x, .int (nI 0), .int ((nI (nR S)) - (nI 1))] [] (rm0 := ({ frames := 1, cells := 0, slots := 0, locals := 22 } : Room)) (k' := 0) (n' := 0) Q.1 (c_X10_isIn (xl X) (xw X) _ _ _ _ (in_m1 x (by omega))) mp_X10_isIn wm_1153 rfl rfl (Nat.le_of_ble_eq_true rfl) dX10_isRule_8 ⟨by decide, by decide⟩ ⟨Nat.le_of_ble_eq_true rfl, Nat.le_of_ble_eq_true rfl⟩ rfl rfl (det1 ?_)
  exact j_zreturn (pc := 11) C Q dX10_isRule_11 (bI_nar _) (Nat.le_of_ble_eq_true rfl) (Nat.le_of_ble_eq_true rfl) (⟨rfl, rfl⟩)
set_option maxHeartbeats 4000000 in
set_option maxRecDepth 100000 in
theorem c_X10_isCell (L9 : Launch) (w9 : Wd) {σ : HS} (x : Int32) : MJ L9 w9 yX10_isCell cX10_isCell 1 (some .boolean) ({ frames := 1, cells := 0, slots := 0, locals := 22 } : Room) [.int x] σ (fun a9 σ' => a9 = some (.int (bI (inI x 8))) ∧ σ' = σ) := by
  refine MJ.of (by decide +kernel) (Nat.le_of_ble_eq_true rfl) (fun X hX1 hX2 C Q hinit => ?_)
  subst hX1; subst hX2
  show J X 0 0 σ [(0, .int x)] [] 0
  refine j_iload_n (pc := 0) C dX10_isCell_0 rfl 0 rfl ?_
  refine j_iconst (pc := 1) C (nI 0) dX10_isCell_1 (by decide) ?_
  refine j_bipush (pc := 2) C (nI 7) dX10_isCell_2 (by decide) ?_
  refine j_callS (pc := 4) C [.int x, .int (nI 0), .int (nI 7)] [] (rm0 := ({ frames := 1, cells := 0, slots := 0, locals := 22 } : Room)) (k' := 0) (n' := 0) Q.1 (c_X10_isIn (xl X) (xw X) _ _ _ _ (in_of x (by decide))) mp_X10_isIn wm_1153 rfl rfl (Nat.le_of_ble_eq_true rfl) dX10_isCell_4 ⟨by decide, by decide⟩ ⟨Nat.le_of_ble_eq_true rfl, Nat.le_of_ble_eq_true rfl⟩ rfl rfl (det1 ?_)
  exact j_zreturn (pc := 7) C Q dX10_isCell_7 (bI_nar _) (Nat.le_of_ble_eq_true rfl) (Nat.le_of_ble_eq_true rfl) (⟨rfl, rfl⟩)
set_option maxHeartbeats 4000000 in
set_option maxRecDepth 100000 in
theorem c_X10_isOf (L9 : Launch) (w9 : Wd) {σ : HS} {S : SP} {x9 : Nat → Nat} {k9 : Int32} (hs : RS S x9 k9 σ) (hw : WF S) {s c : Nat} (hs9 : s < nS S) (hc9 : c < nC S) : MJ L9 w9 yX10_isOf cX10_isOf 3 (some .boolean) ({ frames := 0, cells := 0, slots := 0, locals := 0 } : Room) [.ref (x9 0), .int (nI s), .int (nI c)] σ (fun a9 σ' => a9 = some (.int (bI (isOf S s c))) ∧ σ' = σ) := by
  refine MJ.of (by decide +kernel) (Nat.le_of_ble_eq_true rfl) (fun X hX1 hX2 C Q hinit => ?_)
  subst hX1; subst hX2
  show J X 0 0 σ [(0, .ref (x9 0)), (1, .int (nI s)), (2, .int (nI c))] [] 0
  have hme : ME σ σ := ME.rf
  have g1 := hw.1.1
  have g2 := hw.1.2.2.2.1
  have g3 := (hw.1.2.2.1 s hs9).1
  have g4 := hw.1.2.2.2.2 c hc9
  have b1 : fe S s &&& ne S c < 2 ^ 31 := Nat.lt_of_le_of_lt Nat.and_le_left (by omega)
  have b2 : fe S s &&& ba S c < 2 ^ 31 := Nat.lt_of_le_of_lt Nat.and_le_left (by omega)
  refine j_aload_n (pc := 0) C dX10_isOf_0 rfl 0 rfl ?_
  refine j_getA (pc := 1) C fp_X10_7 hs.2.1.1 rfl (f := 641) rfl (11, 11) (x9 1) ((hs.2.1.2 1 (by decide) (by decide)).1) ((hs.2.1.2 1 (by decide) (by decide)).2.1) dX10_isOf_1 ?_
  refine j_iload_n (pc := 4) C dX10_isOf_4 rfl 1 rfl ?_
  refine j_iald (pc := 5) C (p := s) (M := 16) ((hs.2.1.2 1 (by decide) (by decide)).2.1) rfl ((hs.2.1.2 1 (by decide) (by decide)).2.2) (by omega) (by decide) dX10_isOf_5 ?_
  refine j_topi (nI (fe S s)) (hs.rdI 704 11 s (by decide) (by decide)) ?_
  refine j_aload_n (pc := 6) C dX10_isOf_6 rfl 0 rfl ?_
  refine j_getA (pc := 7) C fp_X10_16 hs.2.1.1 rfl (f := 644) rfl (11, 14) (x9 4) ((hs.2.1.2 4 (by decide) (by decide)).1) ((hs.2.1.2 4 (by decide) (by decide)).2.1) dX10_isOf_7 ?_
  refine j_iload_n (pc := 10) C dX10_isOf_10 rfl 2 rfl ?_
  refine j_iald (pc := 11) C (p := c) (M := 12) ((hs.2.1.2 4 (by decide) (by decide)).2.1) rfl ((hs.2.1.2 4 (by decide) (by decide)).2.2) (by omega) (by decide) dX10_isOf_11 ?_
  refine j_topi (nI (ne S c)) (hs.rdI 704 14 c (by decide) (by decide)) ?_
  refine j_iand (pc := 12) C dX10_isOf_12 ?_
  refine j_topi (nI ((fe S s) &&& (ne S c))) (nx_and (fe S s) (ne S c)) ?_
  refine j_aload_n (pc := 13) C dX10_isOf_13 rfl 0 rfl ?_
  refine j_getA (pc := 14) C fp_X10_16 hs.2.1.1 rfl (f := 644) rfl (11, 14) (x9 4) ((hs.2.1.2 4 (by decide) (by decide)).1) ((hs.2.1.2 4 (by decide) (by decide)).2.1) dX10_isOf_14 ?_
  refine j_iload_n (pc := 17) C dX10_isOf_17 rfl 2 rfl ?_
  refine j_iald (pc := 18) C (p := c) (M := 12) ((hs.2.1.2 4 (by decide) (by decide)).2.1) rfl ((hs.2.1.2 4 (by decide) (by decide)).2.2) (by omega) (by decide) dX10_isOf_18 ?_
  refine j_topi (nI (ne S c)) (hs.rdI 704 14 c (by decide) (by decide)) ?_
  refine jn_icmp_ne (pc := 19) C 42 (a := (fe S s) &&& (ne S c)) (b := ne S c) (by omega) (by omega) dX10_isOf_19 (by decide) (fun c1 => ?_) (fun c1 => ?_)
  · refine j_iconst (pc := 42) C (nI 0) dX10_isOf_42 (by decide) ?_
    refine j_topi (bI (isOf S s c)) (by unfold isOf; rw [decide_eq_false c1]; rfl) ?_
    exact j_zreturn (pc := 43) C Q dX10_isOf_43 (bI_nar _) (Nat.le_of_ble_eq_true rfl) (Nat.le_of_ble_eq_true rfl) (⟨rfl, rfl⟩)
  · refine j_aload_n (pc := 22) C dX10_isOf_22 rfl 0 rfl ?_
    refine j_getA (pc := 23) C fp_X10_7 hs.2.1.1 rfl (f := 641) rfl (11, 11) (x9 1) ((hs.2.1.2 1 (by decide) (by decide)).1) ((hs.2.1.2 1 (by decide) (by decide)).2.1) dX10_isOf_23 ?_
    refine j_iload_n (pc := 26) C dX10_isOf_26 rfl 1 rfl ?_
    refine j_iald (pc := 27) C (p := s) (M := 16) ((hs.2.1.2 1 (by decide) (by decide)).2.1) rfl ((hs.2.1.2 1 (by decide) (by decide)).2.2) (by omega) (by decide) dX10_isOf_27 ?_
    refine j_topi (nI (fe S s)) (hs.rdI 704 11 s (by decide) (by decide)) ?_
    refine j_aload_n (pc := 28) C dX10_isOf_28 rfl 0 rfl ?_
    refine j_getA (pc := 29) C fp_X10_19 hs.2.1.1 rfl (f := 645) rfl (11, 15) (x9 5) ((hs.2.1.2 5 (by decide) (by decide)).1) ((hs.2.1.2 5 (by decide) (by decide)).2.1) dX10_isOf_29 ?_
    refine j_iload_n (pc := 32) C dX10_isOf_32 rfl 2 rfl ?_
    refine j_iald (pc := 33) C (p := c) (M := 12) ((hs.2.1.2 5 (by decide) (by decide)).2.1) rfl ((hs.2.1.2 5 (by decide) (by decide)).2.2) (by omega) (by decide) dX10_isOf_33 ?_
    refine j_topi (nI (ba S c)) (hs.rdI 704 15 c (by decide) (by decide)) ?_
    refine j_iand (pc := 34) C dX10_isOf_34 ?_
    refine j_topi (nI ((fe S s) &&& (ba S c))) (nx_and (fe S s) (ba S c)) ?_
    refine jn_if_ne (pc := 35) C 42 (a := (fe S s) &&& (ba S c)) (by omega) dX10_isOf_35 (by decide) (fun c2 => ?_) (fun c2 => ?_)
    · refine j_iconst (pc := 42) C (nI 0) dX10_isOf_42 (by decide) ?_
      refine j_topi (bI (isOf S s c)) (by unfold isOf; rw [decide_eq_false c2, Bool.and_false]; rfl) ?_
      exact j_zreturn (pc := 43) C Q dX10_isOf_43 (bI_nar _) (Nat.le_of_ble_eq_true rfl) (Nat.le_of_ble_eq_true rfl) (⟨rfl, rfl⟩)
    · refine j_iconst (pc := 38) C (nI 1) dX10_isOf_38 (by decide) ?_
      refine j_goto (pc := 39) C 43 dX10_isOf_39 (by decide) ?_
      refine j_topi (bI (isOf S s c)) (by unfold isOf; rw [decide_eq_true c1, decide_eq_true c2]; rfl) ?_
      exact j_zreturn (pc := 43) C Q dX10_isOf_43 (bI_nar _) (Nat.le_of_ble_eq_true rfl) (Nat.le_of_ble_eq_true rfl) (⟨rfl, rfl⟩)
set_option maxHeartbeats 4000000 in
set_option maxRecDepth 100000 in
theorem c_X10_isLexeme (L9 : Launch) (w9 : Wd) {σ : HS} {S : SP} {x9 : Nat → Nat} {k9 : Int32} (hs : RS S x9 k9 σ) (hw : WF S) (x : Int32) : MJ L9 w9 yX10_isLexeme cX10_isLexeme 2 (some .boolean) ({ frames := 1, cells := 0, slots := 0, locals := 22 } : Room) [.ref (x9 0), .int x] σ (fun a9 σ' => a9 = some (.int (bI (isLex S x))) ∧ σ' = σ) := by
  refine MJ.of (by decide +kernel) (Nat.le_of_ble_eq_true rfl) (fun X hX1 hX2 C Q hinit => ?_)
  subst hX1; subst hX2
  show J X 0 0 σ [(0, .ref (x9 0)), (1, .int x)] [] 0
  have hme : ME σ σ := ME.rf
  have hb := hw.2.2.1.1
  refine j_iload_n (pc := 0) C dX10_isLexeme_0 rfl 1 rfl ?_
  refine j_iconst (pc := 1) C (nI 0) dX10_isLexeme_1 (by decide) ?_
  refine j_aload_n (pc := 2) C dX10_isLexeme_2 rfl 0 rfl ?_
  refine j_getI (pc := 3) C fp_X10_130 hs.2.1.1 rfl (f := 650) rfl dX10_isLexeme_3 ?_
  refine j_topi (nI (nL S)) (hs.rdI 650 0 0 (by decide) (by decide)) ?_
  refine j_iconst (pc := 6) C (nI 1) dX10_isLexeme_6 (by decide) ?_
  refine j_isub (pc := 7) C dX10_isLexeme_7 ?_
  refine j_callS (pc := 8) C [.int x, .int (nI 0), .int ((nI (nL S)) - (nI 1))] [] (rm0 := ({ frames := 1, cells := 0, slots := 0, locals := 22 } : Room)) (k' := 0) (n' := 0) Q.1 (c_X10_isIn (xl X) (xw X) _ _ _ _ (in_m1 x (by omega))) mp_X10_isIn wm_1153 rfl rfl (Nat.le_of_ble_eq_true rfl) dX10_isLexeme_8 ⟨by decide, by decide⟩ ⟨Nat.le_of_ble_eq_true rfl, Nat.le_of_ble_eq_true rfl⟩ rfl rfl (det1 ?_)
  refine jb_if_eq (pc := 11) C 27 (b := inI x (nL S)) dX10_isLexeme_11 (by decide) (fun c1 => ?_) (fun c1 => ?_)
  · refine j_iconst (pc := 27) C (nI 0) dX10_isLexeme_27 (by decide) ?_
    refine j_topi (bI (isLex S x)) (by unfold isLex; rw [c1]; rfl) ?_
    exact j_zreturn (pc := 28) C Q dX10_isLexeme_28 (bI_nar _) (Nat.le_of_ble_eq_true rfl) (Nat.le_of_ble_eq_true rfl) (⟨rfl, rfl⟩)
  · obtain ⟨hx1, hx2⟩ := inI_t c1
    have hT : th S (xN x) ≤ 1 := hw.2.2.1.2.2.2.2.2.2.1 _
    refine j_aload_n (pc := 14) C dX10_isLexeme_14 rfl 0 rfl ?_
    refine j_getA (pc := 15) C fp_X10_26 hs.2.1.1 rfl (f := 649) rfl (13, 9) (x9 9) ((hs.2.1.2 9 (by decide) (by decide)).1) ((hs.2.1.2 9 (by decide) (by decide)).2.1) dX10_isLexeme_15 ?_
    refine j_iload_n (pc := 18) C dX10_isLexeme_18 rfl 1 rfl ?_
    refine j_topi (nI (xN x)) hx2 ?_
    refine j_zald (pc := 19) C (p := xN x) (M := 16) ((hs.2.1.2 9 (by decide) (by decide)).2.1) rfl ((hs.2.1.2 9 (by decide) (by decide)).2.2) (by omega) (by decide) dX10_isLexeme_19 ?_
    refine j_topi (nI (th S (xN x))) (hs.rdI 832 9 (xN x) (by decide) (by decide)) ?_
    refine jn_if_eq (pc := 20) C 27 (a := th S (xN x)) (by omega) dX10_isLexeme_20 (by decide) (fun c2 => ?_) (fun c2 => ?_)
    · refine j_iconst (pc := 27) C (nI 0) dX10_isLexeme_27 (by decide) ?_
      refine j_topi (bI (isLex S x)) (by unfold isLex; rw [c1, decide_eq_false (by omega)]; rfl) ?_
      exact j_zreturn (pc := 28) C Q dX10_isLexeme_28 (bI_nar _) (Nat.le_of_ble_eq_true rfl) (Nat.le_of_ble_eq_true rfl) (⟨rfl, rfl⟩)
    · refine j_iconst (pc := 23) C (nI 1) dX10_isLexeme_23 (by decide) ?_
      refine j_goto (pc := 24) C 28 dX10_isLexeme_24 (by decide) ?_
      refine j_topi (bI (isLex S x)) (by unfold isLex; rw [c1, decide_eq_true (by omega)]; rfl) ?_
      exact j_zreturn (pc := 28) C Q dX10_isLexeme_28 (bI_nar _) (Nat.le_of_ble_eq_true rfl) (Nat.le_of_ble_eq_true rfl) (⟨rfl, rfl⟩)
set_option maxHeartbeats 4000000 in
set_option maxRecDepth 100000 in
theorem c_X10_isWord (L9 : Launch) (w9 : Wd) {σ : HS} {S : SP} {x9 : Nat → Nat} {k9 : Int32} (hs : RS S x9 k9 σ) (hw : WF S) (x : Int32) : MJ L9 w9 yX10_isWord cX10_isWord 2 (some .boolean) ({ frames := 1, cells := 0, slots := 0, locals := 22 } : Room) [.ref (x9 0), .int x] σ (fun a9 σ' => a9 = some (.int (bI (isWrd S x))) ∧ σ' = σ) := by
  refine MJ.of (by decide +kernel) (Nat.le_of_ble_eq_true rfl) (fun X hX1 hX2 C Q hinit => ?_)
  subst hX1; subst hX2
  show J X 0 0 σ [(0, .ref (x9 0)), (1, .int x)] [] 0
  have hme : ME σ σ := ME.rf
  have hb := hw.2.2.2.1.1
  refine j_iload_n (pc := 0) C dX10_isWord_0 rfl 1 rfl ?_
  refine j_iconst (pc := 1) C (nI 0) dX10_isWord_1 (by decide) ?_
  refine j_aload_n (pc := 2) C dX10_isWord_2 rfl 0 rfl ?_
  refine j_getI (pc := 3) C fp_X10_187 hs.2.1.1 rfl (f := 666) rfl dX10_isWord_3 ?_
  refine j_topi (nI (nW S)) (hs.rdI 666 0 0 (by decide) (by decide)) ?_
  refine j_iconst (pc := 6) C (nI 1) dX10_isWord_6 (by decide) ?_
  refine j_isub (pc := 7) C dX10_isWord_7 ?_
  refine j_callS (pc := 8) C [.int x, .int (nI 0), .int ((nI (nW S)) - (nI 1))] [] (rm0 := ({ frames := 1, cells := 0, slots := 0, locals := 22 } : Room)) (k' := 0) (n' := 0) Q.1 (c_X10_isIn (xl X) (xw X) _ _ _ _ (in_m1 x (by omega))) mp_X10_isIn wm_1153 rfl rfl (Nat.le_of_ble_eq_true rfl) dX10_isWord_8 ⟨by decide, by decide⟩ ⟨Nat.le_of_ble_eq_true rfl, Nat.le_of_ble_eq_true rfl⟩ rfl rfl (det1 ?_)
  refine jb_if_eq (pc := 11) C 27 (b := inI x (nW S)) dX10_isWord_11 (by decide) (fun c1 => ?_) (fun c1 => ?_)
  · refine j_iconst (pc := 27) C (nI 0) dX10_isWord_27 (by decide) ?_
    refine j_topi (bI (isWrd S x)) (by unfold isWrd; rw [c1]; rfl) ?_
    exact j_zreturn (pc := 28) C Q dX10_isWord_28 (bI_nar _) (Nat.le_of_ble_eq_true rfl) (Nat.le_of_ble_eq_true rfl) (⟨rfl, rfl⟩)
  · obtain ⟨hx1, hx2⟩ := inI_t c1
    have hT : hd9 S (xN x) ≤ 1 := (hw.2.2.2.1.2.2 _ hx1).2.2.2.1
    refine j_aload_n (pc := 14) C dX10_isWord_14 rfl 0 rfl ?_
    refine j_getA (pc := 15) C fp_X10_63 hs.2.1.1 rfl (f := 665) rfl (13, 25) (x9 25) ((hs.2.1.2 25 (by decide) (by decide)).1) ((hs.2.1.2 25 (by decide) (by decide)).2.1) dX10_isWord_15 ?_
    refine j_iload_n (pc := 18) C dX10_isWord_18 rfl 1 rfl ?_
    refine j_topi (nI (xN x)) hx2 ?_
    refine j_zald (pc := 19) C (p := xN x) (M := 40) ((hs.2.1.2 25 (by decide) (by decide)).2.1) rfl ((hs.2.1.2 25 (by decide) (by decide)).2.2) (by omega) (by decide) dX10_isWord_19 ?_
    refine j_topi (nI (hd9 S (xN x))) (hs.rdI 832 25 (xN x) (by decide) (by decide)) ?_
    refine jn_if_eq (pc := 20) C 27 (a := hd9 S (xN x)) (by omega) dX10_isWord_20 (by decide) (fun c2 => ?_) (fun c2 => ?_)
    · refine j_iconst (pc := 27) C (nI 0) dX10_isWord_27 (by decide) ?_
      refine j_topi (bI (isWrd S x)) (by unfold isWrd; rw [c1, decide_eq_false (by omega)]; rfl) ?_
      exact j_zreturn (pc := 28) C Q dX10_isWord_28 (bI_nar _) (Nat.le_of_ble_eq_true rfl) (Nat.le_of_ble_eq_true rfl) (⟨rfl, rfl⟩)
    · refine j_iconst (pc := 23) C (nI 1) dX10_isWord_23 (by decide) ?_
      refine j_goto (pc := 24) C 28 dX10_isWord_24 (by decide) ?_
      refine j_topi (bI (isWrd S x)) (by unfold isWrd; rw [c1, decide_eq_true (by omega)]; rfl) ?_
      exact j_zreturn (pc := 28) C Q dX10_isWord_28 (bI_nar _) (Nat.le_of_ble_eq_true rfl) (Nat.le_of_ble_eq_true rfl) (⟨rfl, rfl⟩)
set_option maxHeartbeats 4000000 in
set_option maxRecDepth 100000 in
theorem c_X10_makes (L9 : Launch) (w9 : Wd) {σ : HS} {S : SP} {x9 : Nat → Nat} {k9 : Int32} (hs : RS S x9 k9 σ) (r : List Nat) (hn : nL S < 16) : MJ L9 w9 yX10_makes cX10_makes 3 (some .int) ({ frames := 0, cells := 0, slots := 0, locals := 0 } : Room) [.ref (x9 0), .long (enc4 r)] σ (fun a9 σ' => a9 = some (.int (nI (nL S))) ∧ RS (makes9 S r) x9 k9 σ' ∧ ME σ σ') := by
  refine MJ.of (by decide +kernel) (Nat.le_of_ble_eq_true rfl) (fun X hX1 hX2 C Q hinit => ?_)
  subst hX1; subst hX2
  show J X 0 0 σ [(0, .ref (x9 0)), (1, .long (enc4 r))] [] 0
  have hme : ME σ σ := ME.rf
  refine j_aload_n (pc := 0) C dX10_makes_0 rfl 0 rfl ?_
  refine j_getA (pc := 1) C fp_X10_22 hs.2.1.1 rfl (f := 648) rfl (12, 408) (x9 8) ((hs.2.1.2 8 (by decide) (by decide)).1) ((hs.2.1.2 8 (by decide) (by decide)).2.1) dX10_makes_1 ?_
  refine j_aload_n (pc := 4) C dX10_makes_4 rfl 0 rfl ?_
  refine j_getI (pc := 5) C fp_X10_130 hs.2.1.1 rfl (f := 650) rfl dX10_makes_5 ?_
  refine j_topi (nI (nL S)) (hs.rdI 650 0 0 (by decide) (by decide)) ?_
  refine j_lload_n (pc := 8) C dX10_makes_8 rfl 1 rfl ?_
  refine j_last (pc := 9) C (p := nL S) (M := 16) ((hs.2.1.2 8 (by decide) (by decide)).2.1) rfl ((hs.2.1.2 8 (by decide) (by decide)).2.2) (by omega) (by decide) dX10_makes_9 ?_
  have hs := hs.wL 768 408 (nL S) (some r) (enc4 r) (by decide) (by decide) rfl; have hme := hme.sL (f := 768) (i := 408) (j := (nL S)) (v := (enc4 r)) rfl
  generalize sL σ 768 408 (nL S) (enc4 r) = σ1 at hs hme ⊢
  refine j_aload_n (pc := 10) C dX10_makes_10 rfl 0 rfl ?_
  refine j_getA (pc := 11) C fp_X10_26 hs.2.1.1 rfl (f := 649) rfl (13, 9) (x9 9) ((hs.2.1.2 9 (by decide) (by decide)).1) ((hs.2.1.2 9 (by decide) (by decide)).2.1) dX10_makes_11 ?_
  refine j_aload_n (pc := 14) C dX10_makes_14 rfl 0 rfl ?_
  refine j_getI (pc := 15) C fp_X10_130 hs.2.1.1 rfl (f := 650) rfl dX10_makes_15 ?_
  refine j_topi (nI (nL S)) (hs.rdI 650 0 0 (by decide) (by decide)) ?_
  refine j_iconst (pc := 18) C (nI 1) dX10_makes_18 (by decide) ?_
  refine j_zast (pc := 19) C (p := nL S) (M := 16) ((hs.2.1.2 9 (by decide) (by decide)).2.1) rfl ((hs.2.1.2 9 (by decide) (by decide)).2.2) (by omega) (by decide) (by decide) dX10_makes_19 ?_
  have hs := hs.wI 832 9 (nL S) 1 (by decide) (by decide)
  have hme := hme.sI (f := 832) (i := 9) (j := (nL S)) (v := (nI 1)) rfl
  generalize sI σ1 832 9 (nL S) (nI 1) = σ2 at hs hme ⊢
  refine j_aload_n (pc := 20) C dX10_makes_20 rfl 0 rfl ?_
  refine j_dup (pc := 21) C dX10_makes_21 rfl ?_
  refine j_getI (pc := 22) C fp_X10_130 hs.2.1.1 rfl (f := 650) rfl dX10_makes_22 ?_
  refine j_topi (nI (nL S)) (hs.rdI 650 0 0 (by decide) (by decide)) ?_
  refine j_iconst (pc := 25) C (nI 1) dX10_makes_25 (by decide) ?_
  refine j_iadd (pc := 26) C dX10_makes_26 ?_
  refine j_topi (nI (nL S + 1)) (nI_add (nL S) 1) ?_
  refine j_putI (pc := 27) C fp_X10_130 hs.2.1.1 rfl rfl (Or.inl rfl) rfl (by decide) (f := 650) rfl dX10_makes_27 ?_
  have hs := hs.wI 650 0 0 (nL S + 1) (by decide) (by decide)
  have hme := hme.sI (f := 650) (i := 0) (j := 0) (v := (nI (nL S + 1))) rfl
  generalize sI σ2 650 0 0 (nI (nL S + 1)) = σ3 at hs hme ⊢
  refine j_aload_n (pc := 30) C dX10_makes_30 rfl 0 rfl ?_
  refine j_getI (pc := 31) C fp_X10_130 hs.2.1.1 rfl (f := 650) rfl dX10_makes_31 ?_
  refine j_topi (nI (nL S + 1)) ((hs.rdI 650 0 0 (by decide) (by decide)).trans (congrArg nI zN_eq)) ?_
  refine j_iconst (pc := 34) C (nI 1) dX10_makes_34 (by decide) ?_
  refine j_isub (pc := 35) C dX10_makes_35 ?_
  refine j_topi (nI (nL S)) (pk_sub (a := nL S + 1) (b := 1) (by omega)) ?_
  exact j_ireturn (pc := 36) C Q dX10_makes_36 (Nat.le_of_ble_eq_true rfl) (Nat.le_of_ble_eq_true rfl) (⟨rfl, hs, hme⟩)
set_option maxHeartbeats 4000000 in
set_option maxRecDepth 100000 in
theorem c_X10_isSide (L9 : Launch) (w9 : Wd) {σ : HS} {S : SP} {x9 : Nat → Nat} {k9 : Int32} (hs : RS S x9 k9 σ) (hw : WF S) (x : Int32) : MJ L9 w9 yX10_isSide cX10_isSide 2 (some .boolean) ({ frames := 2, cells := 0, slots := 0, locals := 43 } : Room) [.ref (x9 0), .int x] σ (fun a9 σ' => a9 = some (.int (bI (isSide9 S x))) ∧ σ' = σ) := by
  refine MJ.of (by decide +kernel) (Nat.le_of_ble_eq_true rfl) (fun X hX1 hX2 C Q hinit => ?_)
  subst hX1; subst hX2
  show J X 0 0 σ [(0, .ref (x9 0)), (1, .int x)] [] 0
  have hme : ME σ σ := ME.rf
  refine j_iload_n (pc := 0) C dX10_isSide_0 rfl 1 rfl ?_
  refine j_iconst (pc := 1) C (-1) dX10_isSide_1 (by decide) ?_
  refine j_icmp_eq (pc := 2) C 19 dX10_isSide_2 (by decide) (fun c1 => ?_) (fun c1 => ?_)
  · refine j_iconst (pc := 19) C (nI 1) dX10_isSide_19 (by decide) ?_
    refine j_goto (pc := 20) C 24 dX10_isSide_20 (by decide) ?_
    refine j_topi (bI (isSide9 S x)) (by unfold isSide9; rw [decide_eq_true c1]; rfl) ?_
    exact j_zreturn (pc := 24) C Q dX10_isSide_24 (bI_nar _) (Nat.le_of_ble_eq_true rfl) (Nat.le_of_ble_eq_true rfl) (⟨rfl, rfl⟩)
  · refine j_iload_n (pc := 5) C dX10_isSide_5 rfl 1 rfl ?_
    refine j_bipush (pc := 6) C (-2) dX10_isSide_6 (by decide) ?_
    refine j_icmp_eq (pc := 8) C 19 dX10_isSide_8 (by decide) (fun c2 => ?_) (fun c2 => ?_)
    · refine j_iconst (pc := 19) C (nI 1) dX10_isSide_19 (by decide) ?_
      refine j_goto (pc := 20) C 24 dX10_isSide_20 (by decide) ?_
      refine j_topi (bI (isSide9 S x)) (by unfold isSide9; rw [decide_eq_true (show x = -2 from c2), Bool.or_true]; rfl) ?_
      exact j_zreturn (pc := 24) C Q dX10_isSide_24 (bI_nar _) (Nat.le_of_ble_eq_true rfl) (Nat.le_of_ble_eq_true rfl) (⟨rfl, rfl⟩)
    · refine j_aload_n (pc := 11) C dX10_isSide_11 rfl 0 rfl ?_
      refine j_iload_n (pc := 12) C dX10_isSide_12 rfl 1 rfl ?_
      refine j_callV (pc := 13) C [.int x] [] (rm0 := ({ frames := 2, cells := 0, slots := 0, locals := 43 } : Room)) (k' := 0) (n' := 0) Q.1 (c_X10_isClass (xl X) (xw X) hs hw x) mp_X10_isClass wm_1218 hs.2.1.1 rfl rfl (by decide) rfl rfl (Nat.le_of_ble_eq_true rfl) dX10_isSide_13 ⟨by decide, by decide⟩ ⟨Nat.le_of_ble_eq_true rfl, Nat.le_of_ble_eq_true rfl⟩ rfl rfl (det1 ?_)
      refine jb_if_eq (pc := 16) C 23 (b := inI x (nC S)) dX10_isSide_16 (by decide) (fun c3 => ?_) (fun c3 => ?_)
      · refine j_iconst (pc := 23) C (nI 0) dX10_isSide_23 (by decide) ?_
        refine j_topi (bI (isSide9 S x)) (by unfold isSide9; rw [decide_eq_false c1, decide_eq_false (show ¬ x = -2 from c2), c3]; rfl) ?_
        exact j_zreturn (pc := 24) C Q dX10_isSide_24 (bI_nar _) (Nat.le_of_ble_eq_true rfl) (Nat.le_of_ble_eq_true rfl) (⟨rfl, rfl⟩)
      · refine j_iconst (pc := 19) C (nI 1) dX10_isSide_19 (by decide) ?_
        refine j_goto (pc := 20) C 24 dX10_isSide_20 (by decide) ?_
        refine j_topi (bI (isSide9 S x)) (by unfold isSide9; rw [decide_eq_false c1, decide_eq_false (show ¬ x = -2 from c2), c3]; rfl) ?_
        exact j_zreturn (pc := 24) C Q dX10_isSide_24 (bI_nar _) (Nat.le_of_ble_eq_true rfl) (Nat.le_of_ble_eq_true rfl) (⟨rfl, rfl⟩)
