/-- nothing is there yet -/
def H00 (σ : HS) : Prop := (∀ t, hV σ t = false) ∧ (∀ f i j, hI σ f i j = 0) ∧ ∀ f i j, hL σ f i j = 0
theorem f9_9 {t : Tg} (h : tgF9 t) : t ≠ (9, 0) := fun z => by
  rw [z] at h
  simp only [tgF9, tgF5, tgF4, Prod.mk.injEq] at h
  omega
theorem tgU_m {t : Tg} (h : mtB t = true) : ¬ tgU t := fun z => by rw [tgU_K z] at h; cases h
theorem mcol_B {f i : Nat} (h : mcol f i = true) : mtB (f / 64, i) = true := by
  refine mtB_iff.mpr ?_
  unfold mcol at h
  simp only [Bool.or_eq_true, Bool.and_eq_true, decide_eq_true_eq] at h ⊢
  omega
set_option maxHeartbeats 4000000 in
set_option maxRecDepth 100000 in
theorem law_start {X : Cx} {b L : Nat} {ys : Nat → Int32} (K : LC X b L ys) (hst9 : (xl X).stackTraces = false) (hL9 : L ≤ 2560) (hend : ∀ (k n : Nat) (σ : HS) (lv : List (Nat × Value)), k ≤ 601024 → n ≤ 7293034 → J X k n σ lv [] 1871) {σ : HS} (h0 : H00 σ) : J X 0 0 σ [(0, .ref b)] [] 0 := by
  have C := K.1
  obtain ⟨hV0, hI0, hL0⟩ := h0
  have hv1 := hV0 (9, 0)
  refine j_new (pc := 0) C (k' := 1) (n' := 4) (rm0 := room_1) (9, 0) K.2.1 np_L_8 hv1 dL_law_0 ⟨by decide, by decide⟩ rfl rfl (fun q1 => ?_)
  show J X 1 4 (sNew σ (9, 0) q1 0) [(0, .ref b)] [.ref q1] 3
  refine j_dup (pc := 3) C dL_law_3 rfl ?_
  refine j_callI (pc := 4) C [] [.ref q1] (rm0 := room_1) (k' := 16) (n' := 211) K.2.1 (c_X9_init (xl X) (xw X) (At.new (σ := σ) (t := (9, 0)) (q := q1) (n := 0)) (fun t ht => (new_V (t := (9, 0)) (f9_9 ht)).trans (hV0 t))) mp_X9_init wm_83 rfl rfl (Nat.le_of_ble_eq_true rfl) dL_law_4 ⟨by decide, by decide⟩ ⟨Nat.le_of_ble_eq_true rfl, Nat.le_of_ble_eq_true rfl⟩ rfl rfl (fun v9 σ2 hp9 => ?_)
  obtain ⟨rfl, hc2, hF2⟩ := hp9
  have hA2 : At σ2 (9, 0) q1 := hF2.at (At.new (σ := σ) (t := (9, 0)) (q := q1) (n := 0))
  have hm2 : ∀ t, mtB t = true → hV σ2 t = false := fun t ht => (hF2.rV (tgU_m ht)).trans ((new_V (t := (9, 0)) (fun z => by rw [z] at ht; exact absurd ht (by decide))).trans (hV0 t))
  have hmI : ∀ f i j, mcol f i = true → hI σ2 f i j = 0 := fun f i j h => (hF2.rI (tgU_m (mcol_B h))).trans (clr0 (hI0 f i j))
  have hmL : ∀ f i j, mcol f i = true → hL σ2 f i j = 0 := fun f i j h => (hF2.rL (tgU_m (mcol_B h))).trans (clr0 (hL0 f i j))
  have hv2 := hm2 (10, 0) rfl
  show J X 16 211 σ2 [(0, .ref b)] [.ref q1] 7
  refine j_astore_n (pc := 7) C [(1, .ref q1), (0, .ref b)] dL_law_7 rfl (by decide) rfl ?_
  refine j_new (pc := 8) C (k' := 17) (n' := 245) (rm0 := room_1) (10, 0) K.2.1 np_L_101 hv2 dL_law_8 ⟨by decide, by decide⟩ rfl rfl (fun q2 => ?_)
  show J X 17 245 (sNew σ2 (10, 0) q2 0) [(1, .ref q1), (0, .ref b)] [.ref q2] 11
  refine j_dup (pc := 11) C dL_law_11 rfl ?_
  have hs23 : ∀ t, mtB t = false → Sm σ2 (sNew σ2 (10, 0) q2 0) t := fun t ht => Sm.rf.new (fun z => by rw [z] at ht; exact absurd ht (by decide))
  have hIB : IB (fun _ => false) q2 (sNew σ2 (10, 0) q2 0) (sNew σ2 (10, 0) q2 0) := ⟨At.new (σ := σ2) (t := (10, 0)) (q := q2) (n := 0), fun s hs hk => ⟨fun z => (by cases z), fun _ => (new_V (t := (10, 0)) (fun z => by have h := (mtag_k s hs).1; rw [z] at h; exact absurd h (by decide))).trans (hm2 _ (mtag_k s hs).2)⟩, fun f i j h => ⟨clr0 (hmI f i j h), clr0 (hmL f i j h)⟩, fun t _ => Sm.rf⟩
  refine j_callI (pc := 12) C [] [.ref q2] (rm0 := room_1) (k' := 41) (n' := 1451) K.2.1 (c_X10_init (xl X) (xw X) hIB) mp_X10_init wm_1036 rfl rfl (Nat.le_of_ble_eq_true rfl) dL_law_12 ⟨by decide, by decide⟩ ⟨Nat.le_of_ble_eq_true rfl, Nat.le_of_ble_eq_true rfl⟩ rfl rfl (fun v8 σ4 hp8 => ?_)
  obtain ⟨rfl, x9, hx9, hs4, hS4⟩ := hp8
  subst hx9
  have hF4 : Fr (fun t => mtB t = true) σ2 σ4 := ⟨fun t ht => by
    have hmt : mtB t = false := by
      cases e : mtB t with
      | false => rfl
      | true => rw [hm2 t e] at ht; cases ht
    have h9 := (hs23 t hmt).tr (hS4 t hmt)
    exact ⟨h9.2.2.1.trans ht, h9.2.2.2, h9.2.1⟩, fun t ht => (hs23 t (ts_nt ht)).tr (hS4 t (ts_nt ht))⟩
  have hc4 := hc2.fr WF00 hF4 (fun t z y => by rw [tgA_K z] at y; cases y)
  have hA4 := hF4.at hA2
  have hv5 : hV σ4 (12, 300) = false := (hF4.rV (by decide)).trans ((hF2.rV (fun z => z.elim (fun z => tgA_out z rfl) (fun z => absurd z.2 (by decide)))).trans ((new_V (t := (9, 0)) (by decide)).trans (hV0 _)))
  show J X 41 1451 σ4 [(1, .ref q1), (0, .ref b)] [.ref (x9 0)] 15
  refine j_astore_n (pc := 15) C [(2, .ref (x9 0)), (1, .ref q1), (0, .ref b)] dL_law_15 rfl (by decide) rfl ?_
  refine j_iconst (pc := 16) C (nI 1) dL_law_16 (by decide) ?_
  refine j_newa (pc := 17) C (k' := 42) (n' := 1452) (rm0 := room_1) (12, 300) K.2.1 wm_170 rfl (Or.inr (Or.inl ⟨rfl, rfl⟩)) hv5 (M := 1) rfl (by decide) dL_law_17 ⟨by decide, by decide⟩ rfl rfl (fun q3 => ?_)
  show J X 42 1452 (sNew σ4 (12, 300) q3 1) [(2, .ref (x9 0)), (1, .ref q1), (0, .ref b)] [.ref q3] 19
  have hF5 : Fr (fun t => t = (12, 300)) σ4 (sNew σ4 (12, 300) q3 1) := Fr.rf.new hv5 rfl
  have hv9 : LV S00 x9 q1 q3 (sNew σ4 (12, 300) q3 1) := ⟨WF00, hc4.fr WF00 hF5 (fun t z => tgA_out z), ⟨_, hs4.fr hF5 (fun t z => by rw [z]; rfl)⟩, hF5.at hA4, At.new (σ := σ4) (t := (12, 300)) (q := q3) (n := 1), (show (if (12 : Nat) = 12 ∧ (300 : Nat) = 300 then 1 else hN σ4 12 300) = 1 from if_pos ⟨rfl, rfl⟩)⟩
  refine j_astore_n (pc := 19) C [(3, .ref q3), (2, .ref (x9 0)), (1, .ref q1), (0, .ref b)] dL_law_19 rfl (by decide) rfl ?_
  refine j_iconst (pc := 20) C (nI 0) dL_law_20 (by decide) ?_
  refine j_istore (pc := 21) C [(4, .int (nI 0)), (3, .ref q3), (2, .ref (x9 0)), (1, .ref q1), (0, .ref b)] dL_law_21 (by decide) rfl ?_
  exact J.to [4, 3, 2, 1, 0] rfl (law_loop K hst9 hL9 hend (L + 1) 0 42 1452 S00 _ (Nat.zero_le _) (by omega) (by omega) (by omega) hv9)
