set_option maxHeartbeats 4000000 in
set_option maxRecDepth 100000 in
theorem c_X5_addSound (L9 : Launch) (w9 : Wd) {σ : HS} {S : SP} (hw : WF S) (hp : PH9 S σ) {a0 : Nat} (ha0 : At σ (6, 0) a0) {x : Nat} (hx : x < 64) (hn : nS S < 16) : MJ L9 w9 yX5_addSound cX5_addSound 5 (some .int) ({ frames := 3, cells := 0, slots := 0, locals := 64 } : Room) [.ref a0, .int (nI x)] σ (fun a9 σ' => a9 = some (.int (nI (nS S))) ∧ PH9 (S_sound S x) σ' ∧ Fr tgSn σ σ') := by
  refine MJ.of (by decide +kernel) (Nat.le_of_ble_eq_true rfl) (fun X hX1 hX2 C Q hinit => ?_)
  subst hX1; subst hX2
  show J X 0 0 σ [(0, .ref a0), (1, .int (nI x))] [] 0
  have hpp := hp
  obtain ⟨hf, hq, hr9⟩ := hp
  have hf0 := hf
  obtain ⟨hp0, ⟨f1, f1v, f1n⟩, ⟨f2, f2v, f2n⟩, f3, ⟨f4, f4v, f4m⟩, ⟨f5, f5v, f5m⟩, f6, f7, ⟨f9, f9v, f9n⟩⟩ := hf
  have gS := hw.1.1
  have gC := hw.1.2.2.2.1
  have gR := hw.2.1.1
  refine j_aload_n (pc := 0) C dX5_addSound_0 rfl 0 rfl ?_
  refine j_getI (pc := 1) C fp_X5_49 ha0 rfl (f := 386) rfl dX5_addSound_1 ?_
  refine j_topi (nI (nS S)) hq.1 ?_
  refine j_istore_n (pc := 4) C [(2, .int (nI (nS S))), (0, .ref a0), (1, .int (nI x))] dX5_addSound_4 rfl (by decide) rfl ?_
  refine j_iload_n (pc := 5) C dX5_addSound_5 rfl 0 rfl ?_
  refine j_callS (pc := 6) C [.int (nI (nS S))] [] (rm0 := ({ frames := 3, cells := 0, slots := 0, locals := 64 } : Room)) (k' := 0) (n' := 0) Q.1 (c_X6_codeOf (xl X) (xw X) (p := nS S)) mp_X6_codeOf wm_470 rfl rfl (Nat.le_of_ble_eq_true rfl) dX5_addSound_6 ⟨by decide, by decide⟩ ⟨Nat.le_of_ble_eq_true rfl, Nat.le_of_ble_eq_true rfl⟩ rfl rfl (det1 ?_)
  refine j_istore_n (pc := 9) C [(3, .int (nI (nS S + 1))), (2, .int (nI (nS S))), (0, .ref a0), (1, .int (nI x))] dX5_addSound_9 rfl (by decide) rfl ?_
  refine j_aload_n (pc := 10) C dX5_addSound_10 rfl 2 rfl ?_
  refine j_getA (pc := 11) C fp_X5_11 ha0 rfl (f := 384) rfl (11, 0) (hG σ (11, 0)) f1 (⟨f1v, rfl⟩ : At _ (11, 0) _) dX5_addSound_11 ?_
  refine j_iload_n (pc := 14) C dX5_addSound_14 rfl 0 rfl ?_
  refine j_bipush (pc := 15) C (nI 31) dX5_addSound_15 (by decide) ?_
  refine j_iand (pc := 17) C dX5_addSound_17 ?_
  refine j_topi (nI ((nS S + 1) &&& 31)) (nx_and (nS S + 1) 31) ?_
  refine j_topi (nI (nS S + 1)) (congrArg nI (and31 (by omega))) ?_
  refine j_iload_n (pc := 18) C dX5_addSound_18 rfl 3 rfl ?_
  refine j_iast (pc := 19) C (p := nS S + 1) (M := 32) (⟨f1v, rfl⟩ : At _ (11, 0) _) rfl f1n (by omega) (by decide) dX5_addSound_19 ?_
  refine j_aload_n (pc := 20) C dX5_addSound_20 rfl 2 rfl ?_
  refine j_getA (pc := 21) C fp_X5_17 ha0 rfl (f := 385) rfl (11, 1) (hG (sI σ 704 0 (nS S + 1) (nI x)) (11, 1)) f2 (⟨f2v, rfl⟩ : At _ (11, 1) _) dX5_addSound_21 ?_
  refine j_iload_n (pc := 24) C dX5_addSound_24 rfl 3 rfl ?_
  refine j_bipush (pc := 25) C (nI 63) dX5_addSound_25 (by decide) ?_
  refine j_iand (pc := 27) C dX5_addSound_27 ?_
  refine j_topi (nI (x &&& 63)) (nx_and x 63) ?_
  refine j_topi (nI x) (congrArg nI (and63 hx)) ?_
  refine j_iload_n (pc := 28) C dX5_addSound_28 rfl 0 rfl ?_
  refine j_iast (pc := 29) C (p := x) (M := 64) (⟨f2v, rfl⟩ : At _ (11, 1) _) rfl f2n (by first | omega | assumption) (by decide) dX5_addSound_29 ?_
  refine j_iconst (pc := 30) C (nI 0) dX5_addSound_30 (by decide) ?_
  refine j_istore (pc := 31) C [(4, .int (nI 0)), (3, .int (nI (nS S + 1))), (2, .int (nI (nS S))), (0, .ref a0), (1, .int (nI x))] dX5_addSound_31 (by decide) rfl ?_
  have hF0 : Fr tgSn σ (sI (sI σ 704 0 (nS S + 1) (nI x)) 704 1 x (nI (nS S + 1))) := (Fr.rf.sI (Or.inr (Or.inl ⟨rfl, by decide⟩))).sI (Or.inr (Or.inl ⟨rfl, by decide⟩))
  have loop : ∀ (f : Nat) (k : Nat) (σ9 : HS), (k ≤ nC S) → (nC S < k + f) → (Fr (fun t => t.1 = 3 ∧ t.2 < 100) (sI (sI σ 704 0 (nS S + 1) (nI x)) 704 1 x (nI (nS S + 1))) σ9) → (∀ c, c < nC S → (c < k → KD (S_sound S x) σ9 c) ∧ (k ≤ c → KD S σ9 c)) → (∀ c, nC S ≤ c → c < 100 → hV σ9 (3, c) = false) → J X 0 0 σ9 [(4, .int (nI k)), (3, .int (nI (nS S + 1))), (2, .int (nI (nS S))), (0, .ref a0), (1, .int (nI x))] [] 33 := by
    intro f
    induction f with
    | zero => intro k σ9 h1 h2 hG8 hK hX; exact absurd h2 (by omega)
    | succ f ih =>
      intro k σ9 h1 h2 hG8 hK hX
      have hF : Fr tgSn σ σ9 := hF0.tr (hG8.wide (fun t z => Or.inr (Or.inr z)))
      have hl9 := hq.2.2.2.1.fr hF (fun t z => by simp only [tgL, tgSn] at z ⊢; omega)
      have f39 : hR σ9 387 0 0 = some (0, 0) := (hG8.rR (f := 387) (by simp)).trans f3
      have i9 : hI σ9 386 0 0 = nI (nS S) := (hG8.rI (f := 386) (by simp)).trans hq.1
      have v9 := hl9.self
      refine j_iload (pc := 33) C dX5_addSound_33 0 rfl ?_
      refine j_aload_n (pc := 35) C dX5_addSound_35 rfl 3 rfl ?_
      refine j_getA (pc := 36) C fp_X5_23 (hF.at ha0) rfl (f := 387) rfl (0, 0) (hG σ9 (0, 0)) f39 (⟨v9, rfl⟩ : At _ (0, 0) _) dX5_addSound_36 ?_
      refine j_callV (pc := 39) C [] [.int (nI k)] (rm0 := ({ frames := 3, cells := 0, slots := 0, locals := 64 } : Room)) (k' := 0) (n' := 0) Q.1 (k_size (xl X) (xw X) hl9 (⟨v9, rfl⟩ : At _ (0, 0) _)) mp_Jx4a65c_size_8abf5 wm_238 (⟨v9, rfl⟩ : At _ (0, 0) _) rfl rfl (by decide) rfl rfl (Nat.le_of_ble_eq_true rfl) dX5_addSound_39 ⟨by decide, by decide⟩ ⟨Nat.le_of_ble_eq_true rfl, Nat.le_of_ble_eq_true rfl⟩ rfl rfl (det1 ?_)
      refine jn_icmp_ge (pc := 42) C 68 (a := k) (b := nC S) (by omega) (by omega) dX5_addSound_42 (by decide) (fun c1 => ?_) (fun c1 => ?_)
      · have e9 : k = nC S := Nat.le_antisymm h1 c1
        refine j_aload_n (pc := 68) C dX5_addSound_68 rfl 3 rfl ?_
        refine j_dup (pc := 69) C dX5_addSound_69 rfl ?_
        refine j_getI (pc := 70) C fp_X5_49 (hF.at ha0) rfl (f := 386) rfl dX5_addSound_70 ?_
        refine j_topi (nI (nS S)) i9 ?_
        refine j_iconst (pc := 73) C (nI 1) dX5_addSound_73 (by decide) ?_
        refine j_iadd (pc := 74) C dX5_addSound_74 ?_
        refine j_topi (nI (nS S + 1)) (nI_add (nS S) 1) ?_
        refine j_putI (pc := 75) C fp_X5_49 (hF.at ha0) rfl rfl (Or.inl rfl) rfl (by decide) (f := 386) rfl dX5_addSound_75 ?_
        refine j_iload_n (pc := 78) C dX5_addSound_78 rfl 2 rfl ?_
        have hA : ∀ i j, hI (sI σ9 386 0 0 (nI (nS S + 1))) 704 i j = hI (sI (sI σ 704 0 (nS S + 1) (nI x)) 704 1 x (nI (nS S + 1))) 704 i j := fun i j => (show up3 (hI σ9) 386 0 0 (nI (nS S + 1)) 704 i j = _ from up3_ne (fun z => absurd z.1 (by decide))).trans (hG8.rI (f := 704) (by simp))
        exact j_ireturn (pc := 79) C Q dX5_addSound_79 (Nat.le_of_ble_eq_true rfl) (Nat.le_of_ble_eq_true rfl) (⟨rfl, ph_sound hw hpp (hF.sI (Or.inl ⟨rfl, rfl⟩)) (fun f hf => (hG8.rR (by simp; omega))) sI_eq ((sI_ne (fun z => absurd z.1 (by decide))).trans (hG8.rI (f := 392) (by simp))) (fun j => by
          rw [hA]
          show up3 (up3 (hI σ) 704 0 (nS S + 1) (nI x)) 704 1 x (nI (nS S + 1)) 704 0 j = _
          rw [up3_ne (fun z => absurd z.2.1 (by decide)), up3_row]) (fun j => by
          rw [hA]
          show up3 (up3 (hI σ) 704 0 (nS S + 1) (nI x)) 704 1 x (nI (nS S + 1)) 704 1 j = _
          rw [up3_row, up3_ne (fun z => absurd z.2.1 (by decide))]) (fun c hc => ((hK c hc).1 (by omega)).fr (P := fun t => t.1 = 6 ∧ t.2 = 0) (Fr.rf.sI ⟨rfl, rfl⟩) (by simp)) (fun c h1 h2 => hX c h1 h2), hF.sI (Or.inl ⟨rfl, rfl⟩)⟩)
      · refine j_aload_n (pc := 45) C dX5_addSound_45 rfl 3 rfl ?_
        refine j_getA (pc := 46) C fp_X5_23 (hF.at ha0) rfl (f := 387) rfl (0, 0) (hG σ9 (0, 0)) f39 (⟨v9, rfl⟩ : At _ (0, 0) _) dX5_addSound_46 ?_
        refine j_iload (pc := 49) C dX5_addSound_49 0 rfl ?_
        refine j_callV (pc := 51) C [.int (nI k)] [] (rm0 := ({ frames := 3, cells := 0, slots := 0, locals := 64 } : Room)) (k' := 0) (n' := 0) Q.1 (k_get (xl X) (xw X) hl9 c1 (⟨v9, rfl⟩ : At _ (0, 0) _)) mp_Jx4a65c_get_915e3 wm_294 (⟨v9, rfl⟩ : At _ (0, 0) _) rfl rfl (by decide) rfl rfl (Nat.le_of_ble_eq_true rfl) dX5_addSound_51 ⟨by decide, by decide⟩ ⟨Nat.le_of_ble_eq_true rfl, Nat.le_of_ble_eq_true rfl⟩ rfl rfl (det1 ?_)
        have hKk := (hK k c1).2 (Nat.le_refl _)
        obtain ⟨m1, m2, m, m3, m4, m5⟩ := hKk
        obtain ⟨b1, b2⟩ := hw.1.2.2.2.2 k c1
        refine j_cast (pc := 54) C cp_X5_27 (⟨hl9.live c1, rfl⟩ : At _ (3, k) _) dX5_addSound_54 ?_
        refine j_iload_n (pc := 57) C dX5_addSound_57 rfl 1 rfl ?_
        refine j_iload_n (pc := 58) C dX5_addSound_58 rfl 4 rfl ?_
        refine j_callV (pc := 59) C [.int (nI (nS S + 1)), .int (nI x)] [] (rm0 := ({ frames := 3, cells := 0, slots := 0, locals := 64 } : Room)) (k' := 0) (n' := 0) Q.1 (c_X2_look (xl X) (xw X) ⟨hl9.live c1, rfl⟩ m1 m2 m4 (by omega) b1 hx) mp_X2_look wm_473 (⟨hl9.live c1, rfl⟩ : At _ (3, k) _) rfl rfl (Nat.le_of_ble_eq_true rfl) rfl rfl (Nat.le_of_ble_eq_true rfl) dX5_addSound_59 ⟨by decide, by decide⟩ ⟨Nat.le_of_ble_eq_true rfl, Nat.le_of_ble_eq_true rfl⟩ rfl rfl (det0 ?_)
        refine j_iinc (pc := 62) C (nI (k + 1)) [(4, .int (nI (k + 1))), (3, .int (nI (nS S + 1))), (2, .int (nI (nS S))), (0, .ref a0), (1, .int (nI x))] dX5_addSound_62 0 rfl (nI_add k 1) (by decide) rfl ?_
        refine j_goto (pc := 65) C 33 dX5_addSound_65 (by decide) ?_
        exact J.to [0, 1, 2, 3, 4] rfl (ih (k + 1) _ (by omega) (by omega) (hG8.sI ⟨rfl, by omega⟩) (fun c hc => ⟨fun z => by
          by_cases e : c = k
          · subst e; exact KD.look m1 m2 m3 m5 hn
          · exact ((hK c hc).1 (by omega)).fr (P := fun t => t = (3, k)) (Fr.rf.sI (by rfl)) (fun q => e (congrArg Prod.snd q)), fun z => ((hK c hc).2 (by omega)).fr (P := fun t => t = (3, k)) (Fr.rf.sI (by rfl)) (fun q => absurd (congrArg Prod.snd q) (by show ¬ c = k; omega))⟩) hX)
  exact J.to [0, 1, 2, 3, 4] rfl (loop (nC S + 1) 0 _ (Nat.zero_le _) (by omega) Fr.rf (fun c hc => ⟨fun z => absurd z (Nat.not_lt_zero c), fun _ => (hq.2.2.2.2.1 c hc).fr (P := fun t => t.1 = 11) ((Fr.rf.sI (by rfl)).sI (by rfl)) (by simp)⟩) hq.2.2.2.2.2)
set_option maxHeartbeats 4000000 in
set_option maxRecDepth 100000 in
theorem c_X5_addKind (L9 : Launch) (w9 : Wd) {σ : HS} {S : SP} (hw : WF S) (hp : PH9 S σ) {a0 : Nat} (ha0 : At σ (6, 0) a0) {n b : Nat} (h64 : n < 64) (hb64 : b < 64) (hn : nC S < 12) : MJ L9 w9 yX5_addKind cX5_addKind 6 (some .int) ({ frames := 7, cells := 2, slots := 52, locals := 191 } : Room) [.ref a0, .int (nI n), .int (nI b)] σ (fun a9 σ' => a9 = some (.int (nI (nC S))) ∧ PH9 (S_kind S n b) σ' ∧ Fr tgKn σ σ') := by
  refine MJ.of (by decide +kernel) (Nat.le_of_ble_eq_true rfl) (fun X hX1 hX2 C Q hinit => ?_)
  subst hX1; subst hX2
  show J X 0 0 σ [(0, .ref a0), (1, .int (nI n)), (2, .int (nI b))] [] 0
  have hpp := hp
  obtain ⟨hf, hq, hr9⟩ := hp
  have hf0 := hf
  obtain ⟨hp0, ⟨f1, f1v, f1n⟩, ⟨f2, f2v, f2n⟩, f3, ⟨f4, f4v, f4m⟩, ⟨f5, f5v, f5m⟩, f6, f7, ⟨f9, f9v, f9n⟩⟩ := hf
  have gS := hw.1.1
  have gC := hw.1.2.2.2.1
  have gR := hw.2.1.1
  have hv3 := hq.2.2.2.2.2 (nC S) (Nat.le_refl _) (by omega)
  refine j_new (pc := 0) C (k' := 1) (n' := 3) (rm0 := ({ frames := 7, cells := 2, slots := 52, locals := 191 } : Room)) (3, nC S) Q.1 np_X5_27 hv3 dX5_addKind_0 ⟨by decide, by decide⟩ rfl rfl (fun q => ?_)
  show J X 1 3 (sNew σ (3, nC S) q 0) [(0, .ref a0), (1, .int (nI n)), (2, .int (nI b))] [.ref q] 3
  refine j_dup (pc := 3) C dX5_addKind_3 rfl ?_
  refine j_iload_n (pc := 4) C dX5_addKind_4 rfl 1 rfl ?_
  refine j_iload_n (pc := 5) C dX5_addKind_5 rfl 2 rfl ?_
  refine j_iconst (pc := 6) C (nI 0) dX5_addKind_6 (by decide) ?_
  refine j_callI (pc := 7) C [.int (nI n), .int (nI b), .int (nI 0)] [.ref q] (rm0 := ({ frames := 7, cells := 2, slots := 52, locals := 191 } : Room)) (k' := 1) (n' := 3) Q.1 (c_X2_init (xl X) (xw X) (σ := sNew σ (3, nC S) q 0) (c := nC S) At.new (nI n) (nI b) (nI 0)) mp_X2_init wm_124 rfl rfl (Nat.le_of_ble_eq_true rfl) dX5_addKind_7 ⟨by decide, by decide⟩ ⟨Nat.le_of_ble_eq_true rfl, Nat.le_of_ble_eq_true rfl⟩ rfl rfl (det0 ?_)
  have hq3 : At (sI (sI (sI (sNew σ (3, nC S) q 0) 192 (nC S) 0 (nI n)) 193 (nC S) 0 (nI b)) 194 (nC S) 0 (nI 0)) (3, nC S) q := At.new
  refine j_astore_n (pc := 10) C [(3, .ref q), (0, .ref a0), (1, .int (nI n)), (2, .int (nI b))] dX5_addKind_10 rfl (by decide) rfl ?_
  refine j_iconst (pc := 11) C (nI 0) dX5_addKind_11 (by decide) ?_
  refine j_istore (pc := 12) C [(4, .int (nI 0)), (3, .ref q), (0, .ref a0), (1, .int (nI n)), (2, .int (nI b))] dX5_addKind_12 (by decide) rfl ?_
  have hFm : ∀ m, Fr tgKn σ (sI (sI (sI (sNew σ (3, nC S) q 0) 192 (nC S) 0 (nI n)) 193 (nC S) 0 (nI b)) 194 (nC S) 0 (nI m)) := fun m => (((Fr.rf.new hv3 (Or.inl ⟨rfl, by omega⟩)).sI (Or.inl ⟨rfl, by omega⟩)).sI (Or.inl ⟨rfl, by omega⟩)).sI (Or.inl ⟨rfl, by omega⟩)
  have hAm : ∀ m, At (sI (sI (sI (sNew σ (3, nC S) q 0) 192 (nC S) 0 (nI n)) 193 (nC S) 0 (nI b)) 194 (nC S) 0 (nI m)) (6, 0) a0 := fun m => (hFm m).at ha0
  have i386 : ∀ m, hI (sI (sI (sI (sNew σ (3, nC S) q 0) 192 (nC S) 0 (nI n)) 193 (nC S) 0 (nI b)) 194 (nC S) 0 (nI m)) 386 0 0 = nI (nS S) := fun m => ((hFm m).rI (f := 386) (by simp only [tgKn, tgL]; omega)).trans hq.1
  have i704 : ∀ m i, i < nS S → hI (sI (sI (sI (sNew σ (3, nC S) q 0) 192 (nC S) 0 (nI n)) 193 (nC S) 0 (nI b)) 194 (nC S) 0 (nI m)) 704 0 (i + 1) = nI (fe S i) := fun m i hi => ((hFm m).rI (f := 704) (by simp only [tgKn, tgL]; omega)).trans (hq.2.1 i hi)
  have r384 : ∀ m, hR (sI (sI (sI (sNew σ (3, nC S) q 0) 192 (nC S) 0 (nI n)) 193 (nC S) 0 (nI b)) 194 (nC S) 0 (nI m)) 384 0 0 = some (11, 0) := fun m => ((hFm m).rR (f := 384) (by simp only [tgKn, tgL]; omega)).trans f1
  have v11 : ∀ m, hV (sI (sI (sI (sNew σ (3, nC S) q 0) 192 (nC S) 0 (nI n)) 193 (nC S) 0 (nI b)) 194 (nC S) 0 (nI m)) (11, 0) = true := fun m => (hFm m).live f1v
  have n11 : ∀ m, hN (sI (sI (sI (sNew σ (3, nC S) q 0) 192 (nC S) 0 (nI n)) 193 (nC S) 0 (nI b)) 194 (nC S) 0 (nI m)) 11 0 = 32 := fun m => ((hFm m).len f1v).trans f1n
  have loop : ∀ (f : Nat) (k : Nat) (m : Nat), (k ≤ nS S) → (nS S < k + f) → (∀ j, m.testBit j = kbit S n b k j) → (m < 2 ^ 17) → J X 1 3 (sI (sI (sI (sNew σ (3, nC S) q 0) 192 (nC S) 0 (nI n)) 193 (nC S) 0 (nI b)) 194 (nC S) 0 (nI m)) [(4, .int (nI k)), (3, .ref q), (0, .ref a0), (1, .int (nI n)), (2, .int (nI b))] [] 14 := by
    intro f
    induction f with
    | zero => intro k m h1 h2 hm hm2; exact absurd h2 (by omega)
    | succ f ih =>
      intro k m h1 h2 hm hm2
      refine j_iload (pc := 14) C dX5_addKind_14 0 rfl ?_
      refine j_aload_n (pc := 16) C dX5_addKind_16 rfl 2 rfl ?_
      refine j_getI (pc := 17) C fp_X5_49 (hAm m) rfl (f := 386) rfl dX5_addKind_17 ?_
      refine j_topi (nI (nS S)) (i386 m) ?_
      refine jn_icmp_ge (pc := 20) C 52 (a := k) (b := nS S) (by omega) (by omega) dX5_addKind_20 (by decide) (fun c1 => ?_) (fun c1 => ?_)
      · have e9 : k = nS S := Nat.le_antisymm h1 c1
        rw [e9] at hm
        have f39 : hR (sI (sI (sI (sNew σ (3, nC S) q 0) 192 (nC S) 0 (nI n)) 193 (nC S) 0 (nI b)) 194 (nC S) 0 (nI m)) 387 0 0 = some (0, 0) := ((hFm m).rR (f := 387) (by simp only [tgKn, tgL]; omega)).trans f3
        have hl9 : LS9 (sI (sI (sI (sNew σ (3, nC S) q 0) 192 (nC S) 0 (nI n)) 193 (nC S) 0 (nI b)) 194 (nC S) 0 (nI m)) 0 (nC S) (fun c => (3, c)) := hq.2.2.2.1.fr (P := fun t => t.1 = 3) ((((Fr.rf.new hv3 (by rfl)).sI (by rfl)).sI (by rfl)).sI (by rfl)) (fun t z => by simp only [tgL] at z; omega)
        have v9 := hl9.self
        refine j_aload_n (pc := 52) C dX5_addKind_52 rfl 2 rfl ?_
        refine j_getA (pc := 53) C fp_X5_23 (hAm m) rfl (f := 387) rfl (0, 0) (hG (sI (sI (sI (sNew σ (3, nC S) q 0) 192 (nC S) 0 (nI n)) 193 (nC S) 0 (nI b)) 194 (nC S) 0 (nI m)) (0, 0)) f39 (⟨v9, rfl⟩ : At _ (0, 0) _) dX5_addKind_53 ?_
        refine j_aload_n (pc := 56) C dX5_addKind_56 rfl 1 rfl ?_
        refine j_callV (pc := 57) C [.ref q] [] (rm0 := ({ frames := 7, cells := 2, slots := 52, locals := 191 } : Room)) (k' := 2) (n' := 52) Q.1 (k_addS (xl X) (xw X) (g := fun c => (3, c)) hl9 (by omega) (hq3 : At _ (3, nC S) q) (show (3 : Nat) < 11 by decide) (fun _ _ => rfl) ⟨v9, rfl⟩) mp_Jx4a65c_add_9ea2d wm_492 (⟨v9, rfl⟩ : At _ (0, 0) _) rfl rfl (by decide) rfl rfl (Nat.le_of_ble_eq_true rfl) dX5_addKind_57 ⟨by decide, by decide⟩ ⟨Nat.le_of_ble_eq_true rfl, Nat.le_of_ble_eq_true rfl⟩ rfl rfl (fun v8 σ8 hp8 => ?_)
        obtain ⟨rfl, hL8, hF8⟩ := hp8
        have hA8 := hF8.at (hAm m)
        have f38 := (hF8.rR (f := 387) (i := 0) (j := 0) (by simp only [tgL]; omega)).trans f39
        have v8 := hL8.self
        show J X 2 52 σ8 [(4, .int (nI k)), (3, .ref q), (0, .ref a0), (1, .int (nI n)), (2, .int (nI b))] [.int (bI true)] 60
        refine j_pop (pc := 60) C dX5_addKind_60 rfl ?_
        refine j_aload_n (pc := 61) C dX5_addKind_61 rfl 2 rfl ?_
        refine j_getA (pc := 62) C fp_X5_23 hA8 rfl (f := 387) rfl (0, 0) (hG σ8 (0, 0)) f38 (⟨v8, rfl⟩ : At _ (0, 0) _) dX5_addKind_62 ?_
        refine j_callV (pc := 65) C [] [] (rm0 := ({ frames := 7, cells := 2, slots := 52, locals := 191 } : Room)) (k' := 2) (n' := 52) Q.1 (k_size (xl X) (xw X) hL8 ⟨v8, rfl⟩) mp_Jx4a65c_size_8abf5 wm_238 (⟨v8, rfl⟩ : At _ (0, 0) _) rfl rfl (by decide) rfl rfl (Nat.le_of_ble_eq_true rfl) dX5_addKind_65 ⟨by decide, by decide⟩ ⟨Nat.le_of_ble_eq_true rfl, Nat.le_of_ble_eq_true rfl⟩ rfl rfl (det1 ?_)
        refine j_iconst (pc := 68) C (nI 1) dX5_addKind_68 (by decide) ?_
        refine j_isub (pc := 69) C dX5_addKind_69 ?_
        refine j_topi (nI (nC S)) (pk_sub (a := nC S + 1) (b := 1) (by omega)) ?_
        exact j_ireturn (pc := 70) C Q dX5_addKind_70 (Nat.le_of_ble_eq_true rfl) (Nat.le_of_ble_eq_true rfl) (⟨rfl, ph_kind hw hpp ((hFm m).tr (hF8.wide (fun t z => Or.inr z))) hL8 ((hF8.rI (f := 192) (by simp only [tgL]; omega)).trans ((sI_ne (fun z => absurd z.1 (by decide))).trans ((sI_ne (fun z => absurd z.1 (by decide))).trans sI_eq))) ((hF8.rI (f := 193) (by simp only [tgL]; omega)).trans ((sI_ne (fun z => absurd z.1 (by decide))).trans sI_eq)) ((hF8.rI (f := 194) (by simp only [tgL]; omega)).trans sI_eq) hm hm2 (fun c hc => ((hq.2.2.2.2.1 c hc).fr (P := fun t => t = (3, nC S)) ((((Fr.rf.new hv3 (by rfl)).sI (by rfl)).sI (by rfl)).sI (by rfl)) (fun z => absurd (congrArg Prod.snd z) (by show ¬ c = nC S; omega))).fr hF8 (by simp only [tgL]; omega)) (fun c h1 h2 => (hF8.rV (by simp only [tgL]; omega)).trans ((new_V (fun z => absurd (congrArg Prod.snd z) (by show ¬ c = nC S; omega))).trans (hq.2.2.2.2.2 c (by omega) h2))), (hFm m).tr (hF8.wide (fun t z => Or.inr z))⟩)
      · refine j_iload (pc := 23) C dX5_addKind_23 0 rfl ?_
        refine j_callS (pc := 25) C [.int (nI k)] [] (rm0 := ({ frames := 7, cells := 2, slots := 52, locals := 191 } : Room)) (k' := 1) (n' := 3) Q.1 (c_X6_codeOf (xl X) (xw X) (p := k)) mp_X6_codeOf wm_470 rfl rfl (Nat.le_of_ble_eq_true rfl) dX5_addKind_25 ⟨by decide, by decide⟩ ⟨Nat.le_of_ble_eq_true rfl, Nat.le_of_ble_eq_true rfl⟩ rfl rfl (det1 ?_)
        refine j_istore (pc := 28) C [(5, .int (nI (k + 1))), (4, .int (nI k)), (3, .ref q), (0, .ref a0), (1, .int (nI n)), (2, .int (nI b))] dX5_addKind_28 (by decide) rfl ?_
        refine j_aload_n (pc := 30) C dX5_addKind_30 rfl 2 rfl ?_
        refine j_iload (pc := 31) C dX5_addKind_31 0 rfl ?_
        refine j_aload_n (pc := 33) C dX5_addKind_33 rfl 3 rfl ?_
        refine j_getA (pc := 34) C fp_X5_11 (hAm m) rfl (f := 384) rfl (11, 0) (hG (sI (sI (sI (sNew σ (3, nC S) q 0) 192 (nC S) 0 (nI n)) 193 (nC S) 0 (nI b)) 194 (nC S) 0 (nI m)) (11, 0)) (r384 m) (⟨v11 m, rfl⟩ : At _ (11, 0) _) dX5_addKind_34 ?_
        refine j_iload (pc := 37) C dX5_addKind_37 0 rfl ?_
        refine j_bipush (pc := 39) C (nI 31) dX5_addKind_39 (by decide) ?_
        refine j_iand (pc := 41) C dX5_addKind_41 ?_
        refine j_topi (nI ((k + 1) &&& 31)) (nx_and (k + 1) 31) ?_
        refine j_topi (nI (k + 1)) (congrArg nI (and31 (by omega))) ?_
        refine j_iald (pc := 42) C (p := k + 1) (M := 32) (⟨v11 m, rfl⟩ : At _ (11, 0) _) rfl (n11 m) (by omega) (by decide) dX5_addKind_42 ?_
        refine j_topi (nI (fe S k)) (i704 m k c1) ?_
        have g1 : hI (sI (sI (sI (sNew σ (3, nC S) q 0) 192 (nC S) 0 (nI n)) 193 (nC S) 0 (nI b)) 194 (nC S) 0 (nI m)) 192 (nC S) 0 = nI n := (sI_ne (fun z => absurd z.1 (by decide))).trans ((sI_ne (fun z => absurd z.1 (by decide))).trans sI_eq)
        have g2 : hI (sI (sI (sI (sNew σ (3, nC S) q 0) 192 (nC S) 0 (nI n)) 193 (nC S) 0 (nI b)) 194 (nC S) 0 (nI m)) 193 (nC S) 0 = nI b := (sI_ne (fun z => absurd z.1 (by decide))).trans sI_eq
        have g3 : hI (sI (sI (sI (sNew σ (3, nC S) q 0) 192 (nC S) 0 (nI n)) 193 (nC S) 0 (nI b)) 194 (nC S) 0 (nI m)) 194 (nC S) 0 = nI m := sI_eq
        have g4 : At (sI (sI (sI (sNew σ (3, nC S) q 0) 192 (nC S) 0 (nI n)) 193 (nC S) 0 (nI b)) 194 (nC S) 0 (nI m)) (3, nC S) q := hq3
        refine j_callV (pc := 43) C [.int (nI (k + 1)), .int (nI (fe S k))] [] (rm0 := ({ frames := 7, cells := 2, slots := 52, locals := 191 } : Room)) (k' := 1) (n' := 3) Q.1 (c_X2_look (xl X) (xw X) (k := k + 1) (u := fe S k) g4 g1 g2 g3 (by omega) h64 (hw.1.2.2.1 k c1).1) mp_X2_look wm_473 (hq3 : At _ (3, nC S) q) rfl rfl (Nat.le_of_ble_eq_true rfl) rfl rfl (Nat.le_of_ble_eq_true rfl) dX5_addKind_43 ⟨by decide, by decide⟩ ⟨Nat.le_of_ble_eq_true rfl, Nat.le_of_ble_eq_true rfl⟩ rfl rfl (det0 ?_)
        rw [sI_sI]
        show J X 1 3 (sI (sI (sI (sNew σ (3, nC S) q 0) 192 (nC S) 0 (nI n)) 193 (nC S) 0 (nI b)) 194 (nC S) 0 (nI (if fe S k &&& n = n ∧ fe S k &&& b = 0 then m ||| 2 ^ (k + 1) else m))) [(5, .int (nI (k + 1))), (4, .int (nI k)), (3, .ref q), (0, .ref a0), (1, .int (nI n)), (2, .int (nI b))] [] 46
        refine j_iinc (pc := 46) C (nI (k + 1)) [(4, .int (nI (k + 1))), (5, .int (nI (k + 1))), (3, .ref q), (0, .ref a0), (1, .int (nI n)), (2, .int (nI b))] dX5_addKind_46 1 rfl (nI_add k 1) (by decide) rfl ?_
        refine j_goto (pc := 49) C 14 dX5_addKind_49 (by decide) ?_
        exact J.to [0, 2, 3, 4, 5] rfl (ih (k + 1) _ (by omega) (by omega) (kbit_succ hm) (by
          split
          · exact Nat.or_lt_two_pow hm2 (Nat.pow_lt_pow_right (by decide) (by omega))
          · exact hm2))
  exact J.to [0, 1, 2, 3, 4] rfl (loop (nS S + 1) 0 0 (Nat.zero_le _) (by omega) (fun j => by
    rw [Nat.zero_testBit]
    unfold kbit
    rw [decide_eq_false (show ¬ (1 ≤ j ∧ j ≤ 0) by omega), Bool.false_and]) (by decide))
