theorem lim_5 {L i : Nat} (hL : L ≤ 2560) (hi : i ≤ 2565) : (nI L - nI 5 < nI i) ↔ L < i + 5 := by
  have e5 : (nI L - nI 5).toInt = (L : Int) - 5 := by
    by_cases h : 5 ≤ L
    · rw [pk_sub (a := L) (b := 5) h, nI_toInt (by omega)]; omega
    · have h5 : L = 0 ∨ L = 1 ∨ L = 2 ∨ L = 3 ∨ L = 4 := by omega
      rcases h5 with e | e | e | e | e <;> rw [e] <;> decide
  rw [Int32.lt_iff_toInt_lt, e5, nI_toInt (by omega)]
  omega
theorem msk_31 (x : Int32) : ∃ c, c < 32 ∧ x &&& nI 31 = nI c := by
  obtain ⟨m, -, rfl⟩ := wb_of32 x
  exact ⟨m &&& 31, Nat.and_lt_two_pow (n := 5) m (by decide), nx_and m 31⟩
set_option maxHeartbeats 4000000 in
set_option maxRecDepth 100000 in
theorem law_loop {X : Cx} {b L : Nat} {ys : Nat → Int32} (K : LC X b L ys) (hst9 : (xl X).stackTraces = false) (hL : L ≤ 2560) {x9 : Nat → Nat} {a o : Nat} (hend : ∀ (k n : Nat) (σ : HS) (lv : List (Nat × Value)), k ≤ 601024 → n ≤ 7293034 → J X k n σ lv [] 1871) : ∀ (f i k n : Nat) (S : SP) (σ : HS), i ≤ L → L < i + f → k + 8 * f ≤ 601024 → n + 127 * f ≤ 7293034 → LV S x9 a o σ → J X k n σ [(0, .ref b), (1, .ref a), (2, .ref (x9 0)), (3, .ref o), (4, .int (nI i))] [] 23 := by
  intro f
  induction f with
  | zero => intro i k n S σ h1 h2 h3 h4 hv; exact absurd h2 (by omega)
  | succ f ih =>
    intro i k n S σ h1 h2 h3 h4 hv
    have C := K.1
    refine j_iload (pc := 23) C dL_law_23 4 rfl ?_
    refine j_aload_n (pc := 25) C dL_law_25 rfl 0 rfl ?_
    refine j_slen (pc := 26) K dL_law_26 ?_
    refine j_iconst (pc := 27) C (nI 5) dL_law_27 (by decide) ?_
    refine j_isub (pc := 28) C dL_law_28 ?_
    refine j_icmp_gt (pc := 29) C 1871 dL_law_29 (by decide) (fun c1 => ?_) (fun c1 => ?_)
    · exact hend _ _ _ _ (by omega) (by omega)
    · have hi : i + 5 ≤ L := Nat.not_lt.mp (fun z => c1 ((lim_5 hL (by omega)).mpr z))
      have back : ∀ (S' : SP) (σ' : HS), LV S' x9 a o σ' → J X (k + 8) (n + 127) σ' [(0, .ref b), (1, .ref a), (2, .ref (x9 0)), (3, .ref o), (4, .int (nI i))] [] 1865 := by
        intro S' σ' hv'
        refine j_iinc (pc := 1865) C (nI (i + 5)) [(4, .int (nI (i + 5))), (0, .ref b), (1, .ref a), (2, .ref (x9 0)), (3, .ref o)] dL_law_1865 4 rfl (nI_add i 5) (by decide) rfl ?_
        refine j_goto (pc := 1868) C 23 dL_law_1868 (by decide) ?_
        exact J.to [1, 2, 3, 4, 0] rfl (ih (i + 5) _ _ S' σ' (by omega) (by omega) (by omega) (by omega) hv')
      refine j_aload_n (pc := 32) C dL_law_32 rfl 0 rfl ?_
      refine j_iload (pc := 33) C dL_law_33 4 rfl ?_
      refine j_sld (pc := 35) K (i := i) (by omega) hL dL_law_35 ?_
      refine j_bipush (pc := 36) C (nI 31) dL_law_36 (by decide) ?_
      refine j_iand (pc := 38) C dL_law_38 ?_
      obtain ⟨c, hc32, hcv⟩ := msk_31 (ys i)
      refine j_topi (nI c) hcv ?_
      have hcs : c = 0 ∨ c = 1 ∨ c = 2 ∨ c = 3 ∨ c = 4 ∨ c = 5 ∨ c = 6 ∨ c = 7 ∨ c = 8 ∨ c = 9 ∨ c = 10 ∨ c = 11 ∨ c = 12 ∨ c = 13 ∨ c = 14 ∨ c = 15 ∨ c = 16 ∨ c = 17 ∨ c = 18 ∨ c = 19 ∨ c = 20 ∨ c = 21 ∨ c = 22 ∨ c = 23 ∨ c = 24 ∨ c = 25 ∨ c = 26 ∨ c = 27 ∨ c = 28 ∨ c = 29 ∨ c = 30 ∨ c = 31 := by omega
      rcases hcs with rfl | rfl | rfl | rfl | rfl | rfl | rfl | rfl | rfl | rfl | rfl | rfl | rfl | rfl | rfl | rfl | rfl | rfl | rfl | rfl | rfl | rfl | rfl | rfl | rfl | rfl | rfl | rfl | rfl | rfl | rfl | rfl
      · exact j_tableIn (pc := 39) C (off := 129) 168 dL_law_39 (by decide) (by decide) (by decide) (by decide) (lc_0 K hst9 hi hL hv (by omega) (by omega) back)
      · exact j_tableIn (pc := 39) C (off := 185) 224 dL_law_39 (by decide) (by decide) (by decide) (by decide) (lc_1 K hst9 hi hL hv (by omega) (by omega) back)
      · exact j_tableIn (pc := 39) C (off := 253) 292 dL_law_39 (by decide) (by decide) (by decide) (by decide) (lc_2 K hst9 hi hL hv (by omega) (by omega) back)
      · exact j_tableIn (pc := 39) C (off := 309) 348 dL_law_39 (by decide) (by decide) (by decide) (by decide) (lc_3 K hst9 hi hL hv (by omega) (by omega) back)
      · exact j_tableIn (pc := 39) C (off := 322) 361 dL_law_39 (by decide) (by decide) (by decide) (by decide) (lc_4 K hst9 hi hL hv (by omega) (by omega) back)
      · exact j_tableIn (pc := 39) C (off := 366) 405 dL_law_39 (by decide) (by decide) (by decide) (by decide) (lc_5 K hst9 hi hL hv (by omega) (by omega) back)
      · exact j_tableIn (pc := 39) C (off := 402) 441 dL_law_39 (by decide) (by decide) (by decide) (by decide) (lc_6 K hst9 hi hL hv (by omega) (by omega) back)
      · exact j_tableIn (pc := 39) C (off := 438) 477 dL_law_39 (by decide) (by decide) (by decide) (by decide) (lc_7 K hst9 hi hL hv (by omega) (by omega) back)
      · exact j_tableIn (pc := 39) C (off := 530) 569 dL_law_39 (by decide) (by decide) (by decide) (by decide) (lc_8 K hst9 hi hL hv (by omega) (by omega) back)
      · exact j_tableIn (pc := 39) C (off := 621) 660 dL_law_39 (by decide) (by decide) (by decide) (by decide) (lc_9 K hst9 hi hL hv (by omega) (by omega) back)
      · exact j_tableIn (pc := 39) C (off := 677) 716 dL_law_39 (by decide) (by decide) (by decide) (by decide) (lc_10 K hst9 hi hL hv (by omega) (by omega) back)
      · exact j_tableIn (pc := 39) C (off := 757) 796 dL_law_39 (by decide) (by decide) (by decide) (by decide) (lc_11 K hst9 hi hL hv (by omega) (by omega) back)
      · exact j_tableIn (pc := 39) C (off := 820) 859 dL_law_39 (by decide) (by decide) (by decide) (by decide) (lc_12 K hst9 hi hL hv (by omega) (by omega) back)
      · exact j_tableIn (pc := 39) C (off := 876) 915 dL_law_39 (by decide) (by decide) (by decide) (by decide) (lc_13 K hst9 hi hL hv (by omega) (by omega) back)
      · exact j_tableIn (pc := 39) C (off := 979) 1018 dL_law_39 (by decide) (by decide) (by decide) (by decide) (lc_14 K hst9 hi hL hv (by omega) (by omega) back)
      · exact j_tableIn (pc := 39) C (off := 1047) 1086 dL_law_39 (by decide) (by decide) (by decide) (by decide) (lc_15 K hst9 hi hL hv (by omega) (by omega) back)
      · exact j_tableIn (pc := 39) C (off := 1115) 1154 dL_law_39 (by decide) (by decide) (by decide) (by decide) (lc_16 K hst9 hi hL hv (by omega) (by omega) back)
      · exact j_tableIn (pc := 39) C (off := 1159) 1198 dL_law_39 (by decide) (by decide) (by decide) (by decide) (lc_17 K hst9 hi hL hv (by omega) (by omega) back)
      · exact j_tableIn (pc := 39) C (off := 1227) 1266 dL_law_39 (by decide) (by decide) (by decide) (by decide) (lc_18 K hst9 hi hL hv (by omega) (by omega) back)
      · exact j_tableIn (pc := 39) C (off := 1307) 1346 dL_law_39 (by decide) (by decide) (by decide) (by decide) (lc_19 K hst9 hi hL hv (by omega) (by omega) back)
      · exact j_tableIn (pc := 39) C (off := 1387) 1426 dL_law_39 (by decide) (by decide) (by decide) (by decide) (lc_20 K hst9 hi hL hv (by omega) (by omega) back)
      · exact j_tableIn (pc := 39) C (off := 1455) 1494 dL_law_39 (by decide) (by decide) (by decide) (by decide) (lc_21 K hst9 hi hL hv (by omega) (by omega) back)
      · exact j_tableIn (pc := 39) C (off := 1511) 1550 dL_law_39 (by decide) (by decide) (by decide) (by decide) (lc_22 K hst9 hi hL hv (by omega) (by omega) back)
      · exact j_tableIn (pc := 39) C (off := 1595) 1634 dL_law_39 (by decide) (by decide) (by decide) (by decide) (lc_23 K hst9 hi hL hv (by omega) (by omega) back)
      · exact j_tableIn (pc := 39) C (off := 1608) 1647 dL_law_39 (by decide) (by decide) (by decide) (by decide) (lc_24 K hst9 hi hL hv (by omega) (by omega) back)
      · exact j_tableIn (pc := 39) C (off := 1621) 1660 dL_law_39 (by decide) (by decide) (by decide) (by decide) (lc_25 K hst9 hi hL hv (by omega) (by omega) back)
      · exact j_tableIn (pc := 39) C (off := 1634) 1673 dL_law_39 (by decide) (by decide) (by decide) (by decide) (lc_26 K hst9 hi hL hv (by omega) (by omega) back)
      · exact j_tableIn (pc := 39) C (off := 1702) 1741 dL_law_39 (by decide) (by decide) (by decide) (by decide) (lc_27 K hst9 hi hL hv (by omega) (by omega) back)
      · exact j_tableIn (pc := 39) C (off := 1758) 1797 dL_law_39 (by decide) (by decide) (by decide) (by decide) (lc_28 K hst9 hi hL hv (by omega) (by omega) back)
      · exact j_tableOut (pc := 39) C 1865 dL_law_39 (Or.inr (by decide)) (by decide) (J.wide (by omega) (by omega) (back S σ hv))
      · exact j_tableOut (pc := 39) C 1865 dL_law_39 (Or.inr (by decide)) (by decide) (J.wide (by omega) (by omega) (back S σ hv))
      · exact j_tableOut (pc := 39) C 1865 dL_law_39 (Or.inr (by decide)) (by decide) (J.wide (by omega) (by omega) (back S σ hv))
