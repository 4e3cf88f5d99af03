set_option maxHeartbeats 4000000 in
set_option maxRecDepth 100000 in
theorem c_X4_moveWords (L9 : Launch) (w9 : Wd) {σ : HS} {S : SP} (gW : nW S ≤ 40) (hf : LXf σ) (hv : LXw S σ) {a0 : Nat} (ha0 : At σ (5, 0) a0) (hc8 : ∀ u, u < nW S → cw S u < 8) (hol : ∀ u, u < nW S → hV σ (4, ol S u) = true) {a b c d m : Nat} (hb : At σ (4, a) b) (hd : At σ (4, c) d) (hm : m < 256) : MJ L9 w9 yX4_moveWords cX4_moveWords 8 (some .long) ({ frames := 4, cells := 0, slots := 0, locals := 86 } : Room) [.ref a0, .ref b, .ref d, .int (nI m)] σ (fun a9 σ' => a9 = some (.long (lN (mvm S a m (nW S)))) ∧ LXo S (fun w => if w < nW S ∧ mvd S a m w = true then c else ol S w) σ' ∧ Fr (fun t => t.1 = 8 ∧ t.2 < 100) σ σ') := by
  refine MJ.of (by decide +kernel) (Nat.le_of_ble_eq_true rfl) (fun X hX1 hX2 C Q hinit => ?_)
  subst hX1; subst hX2
  show J X 0 0 σ [(0, .ref a0), (1, .ref b), (2, .ref d), (3, .int (nI m))] [] 0
  obtain ⟨y0, y1, y2, y3⟩ := id hf
  refine j_lconst (pc := 0) C (lN 0) dX4_moveWords_0 (by decide) ?_
  refine j_lstore (pc := 1) C [(4, .long (lN 0)), (0, .ref a0), (1, .ref b), (2, .ref d), (3, .int (nI m))] dX4_moveWords_1 (by decide) rfl ?_
  refine j_iconst (pc := 3) C (nI 0) dX4_moveWords_3 (by decide) ?_
  refine j_istore (pc := 4) C [(6, .int (nI 0)), (4, .long (lN 0)), (0, .ref a0), (1, .ref b), (2, .ref d), (3, .int (nI m))] dX4_moveWords_4 (by decide) rfl ?_
  have loop : ∀ (f : Nat) (k : Nat) (σ9 : HS), (k ≤ nW S) → (nW S < k + f) → (Fr (fun t => t.1 = 8 ∧ t.2 < 100) σ σ9) → (LXo S (fun w => if w < k ∧ mvd S a m w = true then c else ol S w) σ9) → J X 0 0 σ9 [(6, .int (nI k)), (4, .long (lN (mvm S a m k))), (0, .ref a0), (1, .ref b), (2, .ref d), (3, .int (nI m))] [] 6 := by
    intro f
    induction f with
    | zero => intro k σ9 h1 h2 hF hO; exact absurd h2 (by omega)
    | succ f ih =>
      intro k σ9 h1 h2 hF hO
      have hf9 := hf.fr hF (by simp)
      have y29 := hf9.2.2.1
      have hok : (if k < k ∧ mvd S a m k = true then c else ol S k) = ol S k := if_neg (fun z => absurd z.1 (Nat.lt_irrefl k))
      refine j_iload (pc := 6) C dX4_moveWords_6 0 rfl ?_
      refine j_aload_n (pc := 8) C dX4_moveWords_8 rfl 2 rfl ?_
      refine j_getA (pc := 9) C fp_X4_18 (hF.at ha0) rfl (f := 321) rfl (0, 4) (hG σ9 (0, 4)) y29 (⟨hO.1.self, rfl⟩ : At _ (0, 4) _) dX4_moveWords_9 ?_
      refine j_callV (pc := 12) C [] [.int (nI k)] (rm0 := ({ frames := 4, cells := 0, slots := 0, locals := 86 } : Room)) (k' := 0) (n' := 0) Q.1 (k_size (xl X) (xw X) hO.1 (⟨hO.1.self, rfl⟩ : At _ (0, 4) _)) mp_Jx4a65c_size_8abf5 wm_247 (⟨hO.1.self, rfl⟩ : At _ (0, 4) _) rfl rfl (by decide) rfl rfl (Nat.le_of_ble_eq_true rfl) dX4_moveWords_12 ⟨by decide, by decide⟩ ⟨Nat.le_of_ble_eq_true rfl, Nat.le_of_ble_eq_true rfl⟩ rfl rfl (det1 ?_)
      refine jn_icmp_ge (pc := 15) C 73 (a := k) (b := nW S) (by omega) (by omega) dX4_moveWords_15 (by decide) (fun c1 => ?_) (fun c1 => ?_)
      · have e9 : k = nW S := Nat.le_antisymm h1 c1
        refine j_lload (pc := 73) C dX4_moveWords_73 1 rfl ?_
        refine j_topl (lN (mvm S a m (nW S))) (by rw [e9]) ?_
        exact j_lreturn (pc := 75) C Q dX4_moveWords_75 (Nat.le_of_ble_eq_true rfl) (Nat.le_of_ble_eq_true rfl) (⟨rfl, by rw [e9] at hO; exact hO, hF⟩)
      · obtain ⟨g1, g2, -, -, -⟩ := hO.2.1 k c1
        dsimp only at g1
        rw [hok] at g1
        have q2 := hc8 k c1
        have hms : ∀ u, mvm S a m (u + 1) = if mvd S a m u = true then mvm S a m u ||| 2 ^ u else mvm S a m u := fun u => rfl
        refine j_aload_n (pc := 18) C dX4_moveWords_18 rfl 2 rfl ?_
        refine j_iload (pc := 19) C dX4_moveWords_19 0 rfl ?_
        by_cases c2 : hd9 S k = 1
        · refine j_callV (pc := 21) C [.int (nI k)] [] (rm0 := ({ frames := 4, cells := 0, slots := 0, locals := 86 } : Room)) (k' := 0) (n' := 0) Q.1 (c_X4_wordNumbered_t (xl X) (xw X) gW hf9 hO (hF.at ha0) c1 c2) mp_X4_wordNumbered wm_358 (hF.at ha0) rfl rfl (by decide) rfl rfl (Nat.le_of_ble_eq_true rfl) dX4_moveWords_21 ⟨by decide, by decide⟩ ⟨Nat.le_of_ble_eq_true rfl, Nat.le_of_ble_eq_true rfl⟩ rfl rfl (det1 ?_)
          refine j_astore (pc := 24) C [(7, .ref (hG σ9 (8, k))), (6, .int (nI k)), (4, .long (lN (mvm S a m k))), (0, .ref a0), (1, .ref b), (2, .ref d), (3, .int (nI m))] dX4_moveWords_24 (by decide) rfl ?_
          refine j_aload (pc := 26) C dX4_moveWords_26 0 rfl ?_
          refine j_ifnull (pc := 28) C dX4_moveWords_28 ?_
          refine j_aload (pc := 31) C dX4_moveWords_31 0 rfl ?_
          refine j_getA (pc := 33) C fp_X4_57 (⟨hO.1.live c1, rfl⟩ : At _ (8, k) _) rfl (f := 512) rfl (4, ol S k) (hG σ9 (4, ol S k)) g1 (⟨hF.live (hol k c1), rfl⟩ : At _ (4, ol S k) _) dX4_moveWords_33 ?_
          refine j_aload_n (pc := 36) C dX4_moveWords_36 rfl 4 rfl ?_
          refine jt_acmp_ne (pc := 37) C 67 (⟨hF.live (hol k c1), rfl⟩ : At _ (4, ol S k) _) (hF.at hb) dX4_moveWords_37 (by decide) (fun c3 => ?_) (fun c3 => ?_)
          · refine j_iinc (pc := 67) C (nI (k + 1)) [(6, .int (nI (k + 1))), (7, .ref (hG σ9 (8, k))), (4, .long (lN (mvm S a m k))), (0, .ref a0), (1, .ref b), (2, .ref d), (3, .int (nI m))] dX4_moveWords_67 1 rfl (nI_add k 1) (by decide) rfl ?_
            refine j_goto (pc := 70) C 6 dX4_moveWords_70 (by decide) ?_
            have hno : mvd S a m k = false := decide_eq_false (fun z => c3 (by rw [z.2.1]))
            have l0 := ih (k + 1) σ9 (by omega) (by omega) hF (hO.cong (fun u hu => by
              have hd9 : (u < k ∧ mvd S a m u = true) ↔ (u < k + 1 ∧ mvd S a m u = true) := ⟨fun z => ⟨by omega, z.2⟩, fun z => ⟨by
                have h9 := z.1
                by_cases e : u = k
                · subst e; rw [hno] at z; exact absurd z.2 (by decide)
                · omega, z.2⟩⟩
              simp only [hd9]))
            rw [hms k, if_neg (by rw [hno]; decide)] at l0
            exact J.to [0, 2, 3, 4, 5, 6] rfl l0
          · refine j_iload_n (pc := 40) C dX4_moveWords_40 rfl 6 rfl ?_
            refine j_aload (pc := 41) C dX4_moveWords_41 0 rfl ?_
            refine j_getI (pc := 43) C fp_X4_61 (⟨hO.1.live c1, rfl⟩ : At _ (8, k) _) rfl (f := 513) rfl dX4_moveWords_43 ?_
            refine j_topi (nI (cw S k)) g2 ?_
            refine j_iushr (pc := 46) C dX4_moveWords_46 ?_
            refine j_iconst (pc := 47) C (nI 1) dX4_moveWords_47 (by decide) ?_
            refine j_iand (pc := 48) C dX4_moveWords_48 ?_
            refine j_topi (nI ((m.testBit (cw S k)).toNat)) (ubit m hm (cw S k) q2) ?_
            refine jn_if_eq (pc := 49) C 67 (a := (m.testBit (cw S k)).toNat) (by first | exact bool_lt _ | omega) dX4_moveWords_49 (by decide) (fun c4 => ?_) (fun c4 => ?_)
            · refine j_iinc (pc := 67) C (nI (k + 1)) [(6, .int (nI (k + 1))), (7, .ref (hG σ9 (8, k))), (4, .long (lN (mvm S a m k))), (0, .ref a0), (1, .ref b), (2, .ref d), (3, .int (nI m))] dX4_moveWords_67 1 rfl (nI_add k 1) (by decide) rfl ?_
              refine j_goto (pc := 70) C 6 dX4_moveWords_70 (by decide) ?_
              have hno : mvd S a m k = false := decide_eq_false (fun z => absurd z.2.2 (by rw [bool0.mp c4]; decide))
              have l0 := ih (k + 1) σ9 (by omega) (by omega) hF (hO.cong (fun u hu => by
                have hd9 : (u < k ∧ mvd S a m u = true) ↔ (u < k + 1 ∧ mvd S a m u = true) := ⟨fun z => ⟨by omega, z.2⟩, fun z => ⟨by
                  have h9 := z.1
                  by_cases e : u = k
                  · subst e; rw [hno] at z; exact absurd z.2 (by decide)
                  · omega, z.2⟩⟩
                simp only [hd9]))
              rw [hms k, if_neg (by rw [hno]; decide)] at l0
              exact J.to [0, 2, 3, 4, 5, 6] rfl l0
            · have c5 : m.testBit (cw S k) = true := by cases e : m.testBit (cw S k) with
                | false => rw [e] at c4; exact absurd rfl c4
                | true => rfl
              have hyes : mvd S a m k = true := decide_eq_true ⟨c2, congrArg Prod.snd c3, c5⟩
              refine j_aload (pc := 52) C dX4_moveWords_52 0 rfl ?_
              refine j_aload_n (pc := 54) C dX4_moveWords_54 rfl 5 rfl ?_
              refine j_putR (pc := 55) C (4, c) (hF.at hd).2 (Or.inl (hF.at hd).1) fp_X4_57 (⟨hO.1.live c1, rfl⟩ : At _ (8, k) _) rfl rfl (Or.inl rfl) rfl (by decide) (f := 512) rfl dX4_moveWords_55 ?_
              refine j_lload (pc := 58) C dX4_moveWords_58 2 rfl ?_
              refine j_lconst (pc := 60) C (lN 1) dX4_moveWords_60 (by decide) ?_
              refine j_iload (pc := 61) C dX4_moveWords_61 1 rfl ?_
              refine j_lshl (pc := 63) C dX4_moveWords_63 ?_
              refine j_topl (lN (2 ^ k)) (shlL (by omega)) ?_
              refine j_lor (pc := 64) C dX4_moveWords_64 ?_
              refine j_topl (lN (mvm S a m k ||| 2 ^ k)) (fb_orL _ _) ?_
              refine j_lstore (pc := 65) C [(4, .long (lN (mvm S a m k ||| 2 ^ k))), (7, .ref (hG σ9 (8, k))), (6, .int (nI k)), (0, .ref a0), (1, .ref b), (2, .ref d), (3, .int (nI m))] dX4_moveWords_65 (by decide) rfl ?_
              refine j_iinc (pc := 67) C (nI (k + 1)) [(6, .int (nI (k + 1))), (4, .long (lN (mvm S a m k ||| 2 ^ k))), (7, .ref (hG σ9 (8, k))), (0, .ref a0), (1, .ref b), (2, .ref d), (3, .int (nI m))] dX4_moveWords_67 2 rfl (nI_add k 1) (by decide) rfl ?_
              refine j_goto (pc := 70) C 6 dX4_moveWords_70 (by decide) ?_
              have l0 := ih (k + 1) _ (by omega) (by omega) (hF.sR (f := 512) (i := k) (j := 0) (v := some (4, c)) (show 512 / 64 = 8 ∧ k < 100 from ⟨by decide, by omega⟩)) ((hO.upd (w := k) (b := c)).cong (fun u hu => by
                show (if u = k then c else if u < k ∧ mvd S a m u = true then c else ol S u) = if u < k + 1 ∧ mvd S a m u = true then c else ol S u
                by_cases e : u = k
                · subst e; rw [if_pos rfl, if_pos ⟨Nat.lt_succ_self u, hyes⟩]
                · rw [if_neg e]
                  have hd9 : (u < k ∧ mvd S a m u = true) ↔ (u < k + 1 ∧ mvd S a m u = true) := ⟨fun z => ⟨by omega, z.2⟩, fun z => ⟨by have := z.1; omega, z.2⟩⟩
                  simp only [hd9]))
              rw [hms k, if_pos hyes] at l0
              exact J.to [0, 1, 3, 4, 5, 6] rfl l0
        · refine j_callV (pc := 21) C [.int (nI k)] [] (rm0 := ({ frames := 4, cells := 0, slots := 0, locals := 86 } : Room)) (k' := 0) (n' := 0) Q.1 (c_X4_wordNumbered_f (xl X) (xw X) gW hf9 hO (hF.at ha0) (x := nI k) (by rw [isWrd_nI (by omega), decide_eq_false c2, Bool.and_false])) mp_X4_wordNumbered wm_358 (hF.at ha0) rfl rfl (by decide) rfl rfl (Nat.le_of_ble_eq_true rfl) dX4_moveWords_21 ⟨by decide, by decide⟩ ⟨Nat.le_of_ble_eq_true rfl, Nat.le_of_ble_eq_true rfl⟩ rfl rfl (det1 ?_)
          refine j_astoreN (pc := 24) C [(7, .null), (6, .int (nI k)), (4, .long (lN (mvm S a m k))), (0, .ref a0), (1, .ref b), (2, .ref d), (3, .int (nI m))] dX4_moveWords_24 (by decide) rfl ?_
          refine j_aloadN (pc := 26) C dX4_moveWords_26 0 rfl ?_
          refine j_ifnullN (pc := 28) C 67 dX4_moveWords_28 (by decide) ?_
          refine j_iinc (pc := 67) C (nI (k + 1)) [(6, .int (nI (k + 1))), (7, .null), (4, .long (lN (mvm S a m k))), (0, .ref a0), (1, .ref b), (2, .ref d), (3, .int (nI m))] dX4_moveWords_67 1 rfl (nI_add k 1) (by decide) rfl ?_
          refine j_goto (pc := 70) C 6 dX4_moveWords_70 (by decide) ?_
          have hno : mvd S a m k = false := decide_eq_false (fun z => c2 z.1)
          have l0 := ih (k + 1) σ9 (by omega) (by omega) hF (hO.cong (fun u hu => by
            have hd9 : (u < k ∧ mvd S a m u = true) ↔ (u < k + 1 ∧ mvd S a m u = true) := ⟨fun z => ⟨by omega, z.2⟩, fun z => ⟨by
              have h9 := z.1
              by_cases e : u = k
              · subst e; rw [hno] at z; exact absurd z.2 (by decide)
              · omega, z.2⟩⟩
            simp only [hd9]))
          rw [hms k, if_neg (by rw [hno]; decide)] at l0
          exact J.to [0, 2, 3, 4, 5, 6] rfl l0
  exact J.to [0, 1, 2, 3, 4, 5] rfl (loop (nW S + 1) 0 σ (Nat.zero_le _) (by omega) Fr.rf (LXo.cong (o := ol S) hv (fun u hu => (if_neg (fun z => absurd z.1 (Nat.not_lt_zero u))).symm)))
