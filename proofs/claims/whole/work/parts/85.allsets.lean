set_option maxHeartbeats 4000000 in
set_option maxRecDepth 100000 in
theorem c_X5_deriveByAllSets (L9 : Launch) (w9 : Wd) {σ : HS} {S : SP} (hw : WF S) (hp : PH9 S σ) {a0 : Nat} (ha0 : At σ (6, 0) a0) {row : List Nat} (hrow : okS S row) : MJ L9 w9 yX5_deriveByAllSets cX5_deriveByAllSets 7 none ({ frames := 3, cells := 0, slots := 0, locals := 64 } : Room) [.ref a0, .long (enc5 row)] σ (fun a9 σ' => a9 = none ∧ (∀ s, s < 2 ^ nR S → hL σ' 768 101 s = enc5 (der S s row)) ∧ Fr (fun t => t.1 = 12 ∧ t.2 = 101) σ σ') := by
  refine MJ.of (by decide +kernel) (Nat.le_of_ble_eq_true rfl) (fun X hX1 hX2 C Q hinit => ?_)
  subst hX1; subst hX2
  show J X 0 0 σ [(0, .ref a0), (1, .long (enc5 row))] [] 0
  have hpp := hp
  obtain ⟨hf, hq, hr9⟩ := hp
  have hf0 := hf
  obtain ⟨hp0, ⟨f1, f1v, f1n⟩, ⟨f2, f2v, f2n⟩, f3, ⟨f4, f4v, f4m⟩, ⟨f5, f5v, f5m⟩, f6, f7, ⟨f9, f9v, f9n⟩⟩ := hf
  have gS := hw.1.1
  have gC := hw.1.2.2.2.1
  have gR := hw.2.1.1
  refine j_aload_n (pc := 0) C dX5_deriveByAllSets_0 rfl 0 rfl ?_
  refine j_getA (pc := 1) C fp_X5_45 ha0 rfl (f := 393) rfl (12, 101) (hG σ (12, 101)) f9 (⟨f9v, rfl⟩ : At _ (12, 101) _) dX5_deriveByAllSets_1 ?_
  refine j_iconst (pc := 4) C (nI 0) dX5_deriveByAllSets_4 (by decide) ?_
  refine j_lload_n (pc := 5) C dX5_deriveByAllSets_5 rfl 1 rfl ?_
  refine j_last (pc := 6) C (p := 0) (M := 64) (⟨f9v, rfl⟩ : At _ (12, 101) _) rfl f9n (by first | omega | assumption) (by decide) dX5_deriveByAllSets_6 ?_
  refine j_iconst (pc := 7) C (nI 0) dX5_deriveByAllSets_7 (by decide) ?_
  refine j_istore_n (pc := 8) C [(3, .int (nI 0)), (0, .ref a0), (1, .long (enc5 row))] dX5_deriveByAllSets_8 rfl (by decide) rfl ?_
  refine j_iconst (pc := 9) C (nI 0) dX5_deriveByAllSets_9 (by decide) ?_
  refine j_istore (pc := 10) C [(4, .int (nI 0)), (3, .int (nI 0)), (0, .ref a0), (1, .long (enc5 row))] dX5_deriveByAllSets_10 (by decide) rfl ?_
  have loop : ∀ (f : Nat) (p : Nat) (d : Nat) (σ9 : HS), (p ≤ nR S) → (nR S < p + f) → (dset S p d) → (Fr (fun t => t.1 = 12 ∧ t.2 = 101) σ σ9) → (∀ s, s < 64 → s &&& d = s → hL σ9 768 101 s = enc5 (derP S s row p)) → J X 0 0 σ9 [(4, .int (nI p)), (3, .int (nI d)), (0, .ref a0)] [] 12 := by
    intro f
    induction f with
    | zero => intro p d σ9 h1 h2 hd hF hB; exact absurd h2 (by omega)
    | succ f ih =>
      intro p d σ9 h1 h2 hd hF hB
      have hp9 := hpp.fr hw hF (fun t z => by simp only [tgP] at z; omega)
      obtain ⟨hf, hq, hr9⟩ := id hp9
      obtain ⟨hp0, ⟨f1, f1v, f1n⟩, ⟨f2, f2v, f2n⟩, f3, ⟨f4, f4v, f4m⟩, ⟨f5, f5v, f5m⟩, f6, f7, ⟨f9, f9v, f9n⟩⟩ := hf
      have d64 := dset_lt hw h1 hd
      refine j_iload (pc := 12) C dX5_deriveByAllSets_12 0 rfl ?_
      refine j_aload_n (pc := 14) C dX5_deriveByAllSets_14 rfl 2 rfl ?_
      refine j_getA (pc := 15) C fp_X5_42 (hF.at ha0) rfl (f := 391) rfl (0, 2) (hG σ9 (0, 2)) f7 (⟨hr9.2.2.1.self, rfl⟩ : At _ (0, 2) _) dX5_deriveByAllSets_15 ?_
      refine j_callV (pc := 18) C [] [.int (nI p)] (rm0 := ({ frames := 3, cells := 0, slots := 0, locals := 64 } : Room)) (k' := 0) (n' := 0) Q.1 (k_size (xl X) (xw X) hr9.2.2.1 (⟨hr9.2.2.1.self, rfl⟩ : At _ (0, 2) _)) mp_Jx4a65c_size_8abf5 wm_238 (⟨hr9.2.2.1.self, rfl⟩ : At _ (0, 2) _) rfl rfl (by decide) rfl rfl (Nat.le_of_ble_eq_true rfl) dX5_deriveByAllSets_18 ⟨by decide, by decide⟩ ⟨Nat.le_of_ble_eq_true rfl, Nat.le_of_ble_eq_true rfl⟩ rfl rfl (det1 ?_)
      refine jn_icmp_ge (pc := 21) C 106 (a := p) (b := nR S) (by omega) (by omega) dX5_deriveByAllSets_21 (by decide) (fun c1 => ?_) (fun c1 => ?_)
      · have e9 : p = nR S := Nat.le_antisymm h1 c1
        subst e9
        have g6 : 2 ^ nR S ≤ 2 ^ 6 := Nat.pow_le_pow_right (by decide) gR
        exact j_vreturn (pc := 106) C Q dX5_deriveByAllSets_106 (Nat.le_of_ble_eq_true rfl) (Nat.le_of_ble_eq_true rfl) (⟨rfl, fun s hs => hB s (by omega) (dset_all hw hd hs), hF⟩)
      · have ho := hw.2.1.2.2.1 p c1
        have hdn := dset_new hw c1 hd
        refine j_aload_n (pc := 24) C dX5_deriveByAllSets_24 rfl 2 rfl ?_
        refine j_getA (pc := 25) C fp_X5_42 (hF.at ha0) rfl (f := 391) rfl (0, 2) (hG σ9 (0, 2)) f7 (⟨hr9.2.2.1.self, rfl⟩ : At _ (0, 2) _) dX5_deriveByAllSets_25 ?_
        refine j_iload (pc := 28) C dX5_deriveByAllSets_28 0 rfl ?_
        refine j_callV (pc := 30) C [.int (nI p)] [] (rm0 := ({ frames := 3, cells := 0, slots := 0, locals := 64 } : Room)) (k' := 0) (n' := 0) Q.1 (k_get (xl X) (xw X) hr9.2.2.1 c1 (⟨hr9.2.2.1.self, rfl⟩ : At _ (0, 2) _)) mp_Jx4a65c_get_915e3 wm_294 (⟨hr9.2.2.1.self, rfl⟩ : At _ (0, 2) _) rfl rfl (by decide) rfl rfl (Nat.le_of_ble_eq_true rfl) dX5_deriveByAllSets_30 ⟨by decide, by decide⟩ ⟨Nat.le_of_ble_eq_true rfl, Nat.le_of_ble_eq_true rfl⟩ rfl rfl (det1 ?_)
        refine j_cast (pc := 33) C cp_X5_80 (⟨hr9.2.2.1.live c1, rfl⟩ : At _ (7, orr S p) _) dX5_deriveByAllSets_33 ?_
        refine j_astore (pc := 36) C [(5, .ref (hG σ9 (7, orr S p))), (4, .int (nI p)), (3, .int (nI d)), (0, .ref a0)] dX5_deriveByAllSets_36 (by decide) rfl ?_
        refine j_iconst (pc := 38) C (nI 0) dX5_deriveByAllSets_38 (by decide) ?_
        refine j_istore (pc := 39) C [(6, .int (nI 0)), (5, .ref (hG σ9 (7, orr S p))), (4, .int (nI p)), (3, .int (nI d)), (0, .ref a0)] dX5_deriveByAllSets_39 (by decide) rfl ?_
        have loop2 : ∀ (g : Nat) (k : Nat) (σ8 : HS), (k ≤ 64) → (64 < k + g) → (Fr (fun t => t.1 = 12 ∧ t.2 = 101) σ9 σ8) → (∀ s, s < 64 → s &&& d = s → hL σ8 768 101 s = enc5 (derP S s row p)) → (∀ s, s < k → s &&& d = s → hL σ8 768 101 (s ||| 2 ^ orr S p) = enc5 (gone S (orr S p) (derP S s row p)).1) → J X 0 0 σ8 [(6, .int (nI k)), (5, .ref (hG σ9 (7, orr S p))), (4, .int (nI p)), (3, .int (nI d)), (0, .ref a0)] [] 41 := by
          intro g
          induction g with
          | zero => intro k σ8 g1 g2 hG8 hB8 hC8; exact absurd g2 (by omega)
          | succ g ih2 =>
            intro k σ8 g1 g2 hG8 hB8 hC8
            have hp8 := hp9.fr hw hG8 (fun t z => by simp only [tgP] at z; omega)
            clear f1 f1v f1n f2 f2v f2n f3 f4 f4v f4m f5 f5v f5m f6 f7 f9 f9v f9n
            have hr0 := hr9
            obtain ⟨hf, hq, hr9⟩ := id hp8
            obtain ⟨hp0, ⟨f1, f1v, f1n⟩, ⟨f2, f2v, f2n⟩, f3, ⟨f4, f4v, f4m⟩, ⟨f5, f5v, f5m⟩, f6, f7, ⟨f9, f9v, f9n⟩⟩ := hf
            have hd1 := (hr9.2.2.2.1 _ ho).1
            refine j_iload (pc := 41) C dX5_deriveByAllSets_41 0 rfl ?_
            refine j_bipush (pc := 43) C (nI 64) dX5_deriveByAllSets_43 (by decide) ?_
            refine jn_icmp_ge (pc := 45) C 92 (a := k) (b := 64) (by omega) (by omega) dX5_deriveByAllSets_45 (by decide) (fun c2 => ?_) (fun c2 => ?_)
            · refine j_iload_n (pc := 92) C dX5_deriveByAllSets_92 rfl 3 rfl ?_
              refine j_aload (pc := 93) C dX5_deriveByAllSets_93 1 rfl ?_
              refine j_callV (pc := 95) C [] [.int (nI d)] (rm0 := ({ frames := 3, cells := 0, slots := 0, locals := 64 } : Room)) (k' := 0) (n' := 0) Q.1 (c_X7_bit (xl X) (xw X) (hG8.at (⟨hr0.2.2.1.live c1, rfl⟩ : At σ9 (7, orr S p) _)) hd1 (by omega)) mp_X7_bit wm_296 (hG8.at (⟨hr0.2.2.1.live c1, rfl⟩ : At σ9 (7, orr S p) _)) rfl rfl (Nat.le_of_ble_eq_true rfl) rfl rfl (Nat.le_of_ble_eq_true rfl) dX5_deriveByAllSets_95 ⟨by decide, by decide⟩ ⟨Nat.le_of_ble_eq_true rfl, Nat.le_of_ble_eq_true rfl⟩ rfl rfl (det1 ?_)
              refine j_ior (pc := 98) C dX5_deriveByAllSets_98 ?_
              refine j_topi (nI (d ||| (2 ^ orr S p))) (nx_or d (2 ^ orr S p)) ?_
              refine j_istore_n (pc := 99) C [(3, .int (nI (d ||| (2 ^ orr S p)))), (6, .int (nI k)), (5, .ref (hG σ9 (7, orr S p))), (4, .int (nI p)), (0, .ref a0)] dX5_deriveByAllSets_99 rfl (by decide) rfl ?_
              refine j_iinc (pc := 100) C (nI (p + 1)) [(4, .int (nI (p + 1))), (3, .int (nI (d ||| (2 ^ orr S p)))), (6, .int (nI k)), (5, .ref (hG σ9 (7, orr S p))), (0, .ref a0)] dX5_deriveByAllSets_100 3 rfl (nI_add p 1) (by decide) rfl ?_
              refine j_goto (pc := 103) C 12 dX5_deriveByAllSets_103 (by decide) ?_
              have hk64 : k = 64 := Nat.le_antisymm g1 c2
              exact J.to [0, 1, 4] rfl (ih (p + 1) _ σ8 (by omega) (by omega) (dset_succ hd) (hF.tr hG8) (fun s hs hsd => by
                obtain ⟨a1, a2, a3⟩ := dset_cut hdn hsd
                cases hb : s.testBit (orr S p) with
                | true =>
                  have e1 := a2 hb
                  have l1 : s &&& d ≤ s := Nat.and_le_left
                  have e2 := hC8 (s &&& d) (by omega) a1
                  rw [e1] at e2
                  have e3 := (dset_with hw (row := row) c1 hd a1).1
                  rw [e1] at e3
                  rw [e2, e3]
                | false => rw [(dset_with hw (row := row) c1 hd (a3 hb)).2]; exact hB8 s hs (a3 hb)))
            · refine j_iload (pc := 48) C dX5_deriveByAllSets_48 0 rfl ?_
              refine j_iload_n (pc := 50) C dX5_deriveByAllSets_50 rfl 3 rfl ?_
              refine j_iconst (pc := 51) C (-1) dX5_deriveByAllSets_51 (by decide) ?_
              refine j_ixor (pc := 52) C dX5_deriveByAllSets_52 ?_
              refine j_iand (pc := 53) C dX5_deriveByAllSets_53 ?_
              refine j_if_ne (pc := 54) C 86 dX5_deriveByAllSets_54 (by decide) (fun c3 => ?_) (fun c3 => ?_)
              · refine j_iinc (pc := 86) C (nI (k + 1)) [(6, .int (nI (k + 1))), (5, .ref (hG σ9 (7, orr S p))), (4, .int (nI p)), (3, .int (nI d)), (0, .ref a0)] dX5_deriveByAllSets_86 0 rfl (nI_add k 1) (by decide) rfl ?_
                refine j_goto (pc := 89) C 41 dX5_deriveByAllSets_89 (by decide) ?_
                exact J.to [0, 1, 2, 3, 4] rfl (ih2 (k + 1) σ8 (by omega) (by omega) hG8 hB8 (fun s hs hsd => by
                  by_cases e : s = k
                  · subst e; exact absurd ((sub_dec _ c2 _ d64).mpr hsd) c3
                  · exact hC8 s (by omega) hsd))
              · have kd := (sub_dec k c2 d d64).mp c3
                have k64 := c2
                have hgo := derP_ok hw (set := k) hrow p h1
                refine j_aload_n (pc := 57) C dX5_deriveByAllSets_57 rfl 4 rfl ?_
                refine j_getA (pc := 58) C fp_X5_45 ((hF.tr hG8).at ha0) rfl (f := 393) rfl (12, 101) (hG σ8 (12, 101)) f9 (⟨f9v, rfl⟩ : At _ (12, 101) _) dX5_deriveByAllSets_58 ?_
                refine j_iload (pc := 61) C dX5_deriveByAllSets_61 0 rfl ?_
                refine j_aload (pc := 63) C dX5_deriveByAllSets_63 1 rfl ?_
                refine j_callV (pc := 65) C [] [.int (nI k), .ref (hG σ8 (12, 101))] (rm0 := ({ frames := 3, cells := 0, slots := 0, locals := 64 } : Room)) (k' := 0) (n' := 0) Q.1 (c_X7_bit (xl X) (xw X) (hG8.at (⟨hr0.2.2.1.live c1, rfl⟩ : At σ9 (7, orr S p) _)) hd1 (by omega)) mp_X7_bit wm_296 (hG8.at (⟨hr0.2.2.1.live c1, rfl⟩ : At σ9 (7, orr S p) _)) rfl rfl (Nat.le_of_ble_eq_true rfl) rfl rfl (Nat.le_of_ble_eq_true rfl) dX5_deriveByAllSets_65 ⟨by decide, by decide⟩ ⟨Nat.le_of_ble_eq_true rfl, Nat.le_of_ble_eq_true rfl⟩ rfl rfl (det1 ?_)
                refine j_ior (pc := 68) C dX5_deriveByAllSets_68 ?_
                refine j_topi (nI (k ||| (2 ^ orr S p))) (nx_or k (2 ^ orr S p)) ?_
                refine j_bipush (pc := 69) C (nI 63) dX5_deriveByAllSets_69 (by decide) ?_
                refine j_iand (pc := 71) C dX5_deriveByAllSets_71 ?_
                refine j_topi (nI ((k ||| (2 ^ orr S p)) &&& 63)) (nx_and (k ||| (2 ^ orr S p)) 63) ?_
                refine j_topi (nI (k ||| 2 ^ orr S p)) (congrArg nI (and63 (or_lt64 c2 (by omega)))) ?_
                have l64 := or_lt64 (s := k) (r := orr S p) c2 (by omega)
                refine j_aload_n (pc := 72) C dX5_deriveByAllSets_72 rfl 4 rfl ?_
                refine j_aload_n (pc := 73) C dX5_deriveByAllSets_73 rfl 4 rfl ?_
                refine j_getA (pc := 74) C fp_X5_45 ((hF.tr hG8).at ha0) rfl (f := 393) rfl (12, 101) (hG σ8 (12, 101)) f9 (⟨f9v, rfl⟩ : At _ (12, 101) _) dX5_deriveByAllSets_74 ?_
                refine j_iload (pc := 77) C dX5_deriveByAllSets_77 0 rfl ?_
                refine j_lald (pc := 79) C (p := k) (M := 64) (⟨f9v, rfl⟩ : At _ (12, 101) _) rfl f9n (by first | omega | assumption) (by decide) dX5_deriveByAllSets_79 ?_
                refine j_topl (enc5 (derP S k row p)) (hB8 k k64 kd) ?_
                refine j_aload (pc := 80) C dX5_deriveByAllSets_80 1 rfl ?_
                refine j_callV (pc := 82) C [.long (enc5 (derP S k row p)), .ref (hG σ9 (7, orr S p))] [.int (nI (k ||| 2 ^ orr S p)), .ref (hG σ8 (12, 101))] (rm0 := ({ frames := 3, cells := 0, slots := 0, locals := 64 } : Room)) (k' := 0) (n' := 0) Q.1 (c_X5_goOver (xl X) (xw X) hw hp8 ((hF.tr hG8).at ha0) ho (hG8.at (⟨hr0.2.2.1.live c1, rfl⟩ : At σ9 (7, orr S p) _)) hgo) mp_X5_goOver wm_300 ((hF.tr hG8).at ha0) rfl rfl (by decide) rfl rfl (Nat.le_of_ble_eq_true rfl) dX5_deriveByAllSets_82 ⟨by decide, by decide⟩ ⟨Nat.le_of_ble_eq_true rfl, Nat.le_of_ble_eq_true rfl⟩ rfl rfl (det1 ?_)
                refine j_last (pc := 85) C (p := k ||| 2 ^ orr S p) (M := 64) (⟨f9v, rfl⟩ : At _ (12, 101) _) rfl f9n (by first | omega | assumption) (by decide) dX5_deriveByAllSets_85 ?_
                refine j_iinc (pc := 86) C (nI (k + 1)) [(6, .int (nI (k + 1))), (5, .ref (hG σ9 (7, orr S p))), (4, .int (nI p)), (3, .int (nI d)), (0, .ref a0)] dX5_deriveByAllSets_86 0 rfl (nI_add k 1) (by decide) rfl ?_
                refine j_goto (pc := 89) C 41 dX5_deriveByAllSets_89 (by decide) ?_
                exact J.to [0, 1, 2, 3, 4] rfl (ih2 (k + 1) _ (by omega) (by omega) (hG8.sL ⟨rfl, rfl⟩) (fun s hs hsd => (up3_ne (fun z => or_ne hdn hsd z.2.2)).trans (hB8 s hs hsd)) (fun s hs hsd => by
                  by_cases e : s = k
                  · subst e; exact up3_eq
                  · exact (up3_ne (fun z => e (or_inj hdn hsd kd z.2.2))).trans (hC8 s (by omega) hsd)))
        exact J.to [0, 1, 2, 3, 4] rfl (loop2 65 0 σ9 (Nat.zero_le _) (by omega) Fr.rf hB (fun s hs => absurd hs (Nat.not_lt_zero s)))
  exact J.to [0, 1, 2] rfl (loop (nR S + 1) 0 0 _ (Nat.zero_le _) (by omega) dset_0 (Fr.rf.sL ⟨rfl, rfl⟩) (fun s hs hsd => by
    rw [Nat.and_zero] at hsd
    rw [← hsd]
    exact (sL_eq (σ := σ) (f := 768) (i := 101) (j := 0) (v := enc5 row))))
