theorem ubitL {m s : Nat} (hm : m < 2 ^ 64) (hs : s < 64) : ((lN m).toUInt64 >>> ((nI s).toInt64.toUInt64 &&& Int64.toUInt64 63)).toInt64 &&& lN 1 = lN (m.testBit s).toNat := by
  have k := wb_bit hm hs
  rw [show (1 : Int64) = lN 1 from rfl] at k
  rw [k, Nat.testBit_eq_decide_div_mod_eq]
  have h2 := Nat.mod_two_eq_zero_or_one (m / 2 ^ s)
  rcases h2 with e | e
  · rw [e]; rfl
  · rw [e]; rfl
set_option maxHeartbeats 4000000 in
set_option maxRecDepth 100000 in
theorem c_X4_takeBack (L9 : Launch) (w9 : Wd) {σ : HS} {S : SP} (hw : WF S) (hp : LX9 S σ) {a0 : Nat} (ha0 : At σ (5, 0) a0) (hn : nD S ≠ 0) : MJ L9 w9 yX4_takeBack cX4_takeBack 6 (some .int) ({ frames := 3, cells := 0, slots := 0, locals := 66 } : Room) [.ref a0] σ (fun a9 σ' => a9 = some (.int (nI (nD S - 1))) ∧ LX9 (S_undo S) σ' ∧ Fr tgY σ σ') := by
  refine MJ.of (by decide +kernel) (Nat.le_of_ble_eq_true rfl) (fun X hX1 hX2 C Q hinit => ?_)
  subst hX1; subst hX2
  show J X 0 0 σ [(0, .ref a0)] [] 0
  have hpp := hp
  obtain ⟨hf, hl, hx, hv, hch⟩ := hp
  obtain ⟨y0, y1, y2, y3⟩ := id hf
  have gL := hw.2.2.1.1
  have gW := hw.2.2.2.1.1
  have gD := hw.2.2.2.2.1
  obtain ⟨g, N, hc1, hc2, hc3, hc4⟩ := id hch
  have hc1n : LS9 σ 5 (nD S - 1 + 1) (fun d => (2, g d)) := by rw [Nat.sub_add_cancel (by omega)]; exact hc1
  have e9 : nD S - 1 < nD S := by omega
  obtain ⟨k1, k2, k3, k4, k5, f9, k6, k7⟩ := (hc2 (nD S - 1) e9).2
  obtain ⟨u1, u2, u3, u4, u5⟩ := hw.2.2.2.2.2.1 (nD S - 1) e9
  have tb0 : th S (d2 S (nD S - 1)) = 1 := by
    have z := (hw.2.2.2.2.2.2.2.2.2 0 (by omega)).1
    rw [Nat.sub_zero] at z
    exact z
  have v5 : hV σ (0, 5) = true := hc1.self
  refine j_aload_n (pc := 0) C dX4_takeBack_0 rfl 0 rfl ?_
  refine j_getA (pc := 1) C fp_X4_21 ha0 rfl (f := 322) rfl (0, 5) (hG σ (0, 5)) y3 (⟨v5, rfl⟩ : At _ (0, 5) _) dX4_takeBack_1 ?_
  refine j_callV (pc := 4) C [] [] (rm0 := ({ frames := 3, cells := 0, slots := 0, locals := 66 } : Room)) (k' := 0) (n' := 0) Q.1 (k_size (xl X) (xw X) hc1 (⟨v5, rfl⟩ : At _ (0, 5) _)) mp_Jx4a65c_size_8abf5 wm_247 (⟨v5, rfl⟩ : At _ (0, 5) _) rfl rfl (by decide) rfl rfl (Nat.le_of_ble_eq_true rfl) dX4_takeBack_4 ⟨by decide, by decide⟩ ⟨Nat.le_of_ble_eq_true rfl, Nat.le_of_ble_eq_true rfl⟩ rfl rfl (det1 ?_)
  refine j_iconst (pc := 7) C (nI 1) dX4_takeBack_7 (by decide) ?_
  refine j_isub (pc := 8) C dX4_takeBack_8 ?_
  refine j_topi (nI (nD S - 1)) (pk_sub (a := nD S) (b := 1) (by omega)) ?_
  refine j_istore_n (pc := 9) C [(1, .int (nI (nD S - 1))), (0, .ref a0)] dX4_takeBack_9 rfl (by decide) rfl ?_
  refine j_iload_n (pc := 10) C dX4_takeBack_10 rfl 0 rfl ?_
  refine jn_if_ge (pc := 11) C 16 (a := nD S - 1) (by omega) dX4_takeBack_11 (by decide) (fun c0 => ?_) (fun c0 => (c0 : False).elim)
  refine j_aload_n (pc := 16) C dX4_takeBack_16 rfl 1 rfl ?_
  refine j_getA (pc := 17) C fp_X4_21 ha0 rfl (f := 322) rfl (0, 5) (hG σ (0, 5)) y3 (⟨v5, rfl⟩ : At _ (0, 5) _) dX4_takeBack_17 ?_
  refine j_iload_n (pc := 20) C dX4_takeBack_20 rfl 0 rfl ?_
  refine j_callV (pc := 21) C [.int (nI (nD S - 1))] [] (rm0 := ({ frames := 3, cells := 0, slots := 0, locals := 66 } : Room)) (k' := 0) (n' := 0) Q.1 (k_remS (xl X) (xw X) hc1n (⟨v5, rfl⟩ : At _ (0, 5) _)) mp_Jx4a65c_remove_915e3 wm_909 (⟨v5, rfl⟩ : At _ (0, 5) _) rfl rfl (by decide) rfl rfl (Nat.le_of_ble_eq_true rfl) dX4_takeBack_21 ⟨by decide, by decide⟩ ⟨Nat.le_of_ble_eq_true rfl, Nat.le_of_ble_eq_true rfl⟩ rfl rfl (fun v8 σ1 hp8 => ?_)
  obtain ⟨rfl, hL1, hF1⟩ := hp8
  have hA1 : At σ1 (2, g (nD S - 1)) (hG σ (2, g (nD S - 1))) := hF1.at ⟨hc1.live e9, rfl⟩
  show J X 0 0 σ1 [(1, .int (nI (nD S - 1))), (0, .ref a0)] [.ref (hG σ (2, g (nD S - 1)))] 24
  refine j_cast (pc := 24) C cp_X4_95 hA1 dX4_takeBack_24 ?_
  refine j_astore_n (pc := 27) C [(2, .ref (hG σ (2, g (nD S - 1)))), (1, .int (nI (nD S - 1))), (0, .ref a0)] dX4_takeBack_27 rfl (by decide) rfl ?_
  refine j_iconst (pc := 28) C (nI 0) dX4_takeBack_28 (by decide) ?_
  refine j_istore_n (pc := 29) C [(3, .int (nI 0)), (2, .ref (hG σ (2, g (nD S - 1)))), (1, .int (nI (nD S - 1))), (0, .ref a0)] dX4_takeBack_29 rfl (by decide) rfl ?_
  have loop : ∀ (f : Nat) (k : Nat) (σ9 : HS), (k ≤ nW S) → (nW S < k + f) → (Fr (fun t => tgL 5 t ∨ (t.1 = 8 ∧ t.2 < 100)) σ σ9) → (LXo S (fun w => if w < k ∧ bck S (nD S - 1) w = true then (if im S (nD S - 1) = 1 then d1 S (nD S - 1) else d2 S (nD S - 1)) else ol S w) σ9) → (LS9 σ9 5 (nD S - 1) (fun d => (2, g d))) → J X 0 0 σ9 [(3, .int (nI k)), (2, .ref (hG σ (2, g (nD S - 1)))), (1, .int (nI (nD S - 1))), (0, .ref a0)] [] 30 := by
    intro f
    induction f with
    | zero => intro k σ9 h1 h2 hF hO hL5; exact absurd h2 (by omega)
    | succ f ih =>
      intro k σ9 h1 h2 hF hO hL5
      have hA9 : At σ9 (2, g (nD S - 1)) (hG σ (2, g (nD S - 1))) := hF.at ⟨hc1.live e9, rfl⟩
      have hf9 := hf.fr hF (by simp only [tgL]; omega)
      have y29 := hf9.2.2.1
      have hok : (if k < k ∧ bck S (nD S - 1) k = true then (if im S (nD S - 1) = 1 then d1 S (nD S - 1) else d2 S (nD S - 1)) else ol S k) = ol S k := if_neg (fun z => absurd z.1 (Nat.lt_irrefl k))
      have q1 : hR σ9 128 (g (nD S - 1)) 0 = some (4, (if im S (nD S - 1) = 1 then d1 S (nD S - 1) else d2 S (nD S - 1))) := (hF.rR (f := 128) (by simp only [tgL]; omega)).trans k1
      have q2 : hR σ9 129 (g (nD S - 1)) 0 = some (4, (if im S (nD S - 1) = 1 then d2 S (nD S - 1) else d1 S (nD S - 1))) := (hF.rR (f := 129) (by simp only [tgL]; omega)).trans k2
      have q3 : hI σ9 130 (g (nD S - 1)) 0 = bI (decide (im S (nD S - 1) ≠ 1)) := (hF.rI (f := 130) (by simp only [tgL]; omega)).trans k3
      have q5 : hL σ9 132 (g (nD S - 1)) 0 = lN (mv S (nD S - 1)) := (hF.rL (f := 132) (by simp only [tgL]; omega)).trans k5
      have w1 : hV σ9 (4, (if im S (nD S - 1) = 1 then d1 S (nD S - 1) else d2 S (nD S - 1))) = true := by
        split
        · exact hF.live (hl.1.live u2)
        · exact hF.live (hl.1.live u3)
      have w2 : hV σ9 (4, (if im S (nD S - 1) = 1 then d2 S (nD S - 1) else d1 S (nD S - 1))) = true := by
        split
        · exact hF.live (hl.1.live u3)
        · exact hF.live (hl.1.live u2)
      refine j_iload_n (pc := 30) C dX4_takeBack_30 rfl 0 rfl ?_
      refine j_aload_n (pc := 31) C dX4_takeBack_31 rfl 3 rfl ?_
      refine j_getA (pc := 32) C fp_X4_18 (hF.at ha0) rfl (f := 321) rfl (0, 4) (hG σ9 (0, 4)) y29 (⟨hO.1.self, rfl⟩ : At _ (0, 4) _) dX4_takeBack_32 ?_
      refine j_callV (pc := 35) C [] [.int (nI k)] (rm0 := ({ frames := 3, cells := 0, slots := 0, locals := 66 } : Room)) (k' := 0) (n' := 0) Q.1 (k_size (xl X) (xw X) hO.1 (⟨hO.1.self, rfl⟩ : At _ (0, 4) _)) mp_Jx4a65c_size_8abf5 wm_247 (⟨hO.1.self, rfl⟩ : At _ (0, 4) _) rfl rfl (by decide) rfl rfl (Nat.le_of_ble_eq_true rfl) dX4_takeBack_35 ⟨by decide, by decide⟩ ⟨Nat.le_of_ble_eq_true rfl, Nat.le_of_ble_eq_true rfl⟩ rfl rfl (det1 ?_)
      refine jn_icmp_ge (pc := 38) C 121 (a := k) (b := nW S) (by omega) (by omega) dX4_takeBack_38 (by decide) (fun c1 => ?_) (fun c1 => ?_)
      · have e8 : k = nW S := Nat.le_antisymm h1 c1
        rw [e8] at hO
        have p6 := k6.fr hF (fun t z => by simp only [tgC, tgL] at z ⊢; omega)
        have q4 : hR σ9 131 (g (nD S - 1)) 0 = some (1, 1000 + g (nD S - 1)) := (hF.rR (f := 131) (by simp only [tgL]; omega)).trans k4
        have X2 := ((hx _ u3).t tb0).fr hF (fun t z => by simp only [tgC, tgL] at z ⊢; omega)
        have r2 : hR σ9 259 (d2 S (nD S - 1)) 0 = some (1, d2 S (nD S - 1)) := (hF.rR (f := 259) (by simp only [tgL]; omega)).trans (hl.2.1 _ u3).2.2.2
        have v42 : hV σ9 (4, d2 S (nD S - 1)) = true := hF.live (hl.1.live u3)
        have hst : (if decide (im S (nD S - 1) ≠ 1) = true then ((4 : Nat), (if im S (nD S - 1) = 1 then d1 S (nD S - 1) else d2 S (nD S - 1))) else (4, (if im S (nD S - 1) = 1 then d2 S (nD S - 1) else d1 S (nD S - 1)))) = (4, d2 S (nD S - 1)) := by
          by_cases e : im S (nD S - 1) = 1
          · rw [if_neg (by rw [decide_eq_false (fun z => z e)]; decide), if_pos e]
          · rw [if_pos (decide_eq_true e), if_neg e]
        refine j_aload_n (pc := 121) C dX4_takeBack_121 rfl 1 rfl ?_
        refine j_callV (pc := 122) C [] [] (rm0 := ({ frames := 3, cells := 0, slots := 0, locals := 66 } : Room)) (k' := 0) (n' := 0) Q.1 (MJ.at hA9 (c_X1_staying (xl X) (xw X) ⟨hA9.1, rfl⟩ q1 w1 q2 w2 (d := decide (im S (nD S - 1) ≠ 1)) q3)) mp_X1_staying wm_857 hA9 rfl rfl (Nat.le_of_ble_eq_true rfl) rfl rfl (Nat.le_of_ble_eq_true rfl) dX4_takeBack_122 ⟨by decide, by decide⟩ ⟨Nat.le_of_ble_eq_true rfl, Nat.le_of_ble_eq_true rfl⟩ rfl rfl (det1 ?_)
        rw [hst]
        show J X 0 0 σ9 [(3, .int (nI k)), (2, .ref (hG σ (2, g (nD S - 1)))), (1, .int (nI (nD S - 1))), (0, .ref a0)] [.ref (hG σ9 (4, d2 S (nD S - 1)))] 125
        refine j_getA (pc := 125) C fp_X4_80 (⟨v42, rfl⟩ : At _ (4, d2 S (nD S - 1)) _) rfl (f := 259) rfl (1, d2 S (nD S - 1)) (hG σ9 (1, d2 S (nD S - 1))) r2 (⟨X2.1, rfl⟩ : At _ (1, d2 S (nD S - 1)) _) dX4_takeBack_125 ?_
        refine j_aload_n (pc := 128) C dX4_takeBack_128 rfl 1 rfl ?_
        refine j_getA (pc := 129) C fp_X4_120 hA9 rfl (f := 131) rfl (1, 1000 + g (nD S - 1)) (hG σ9 (1, 1000 + g (nD S - 1))) q4 (⟨p6.1, rfl⟩ : At _ (1, 1000 + g (nD S - 1)) _) dX4_takeBack_129 ?_
        refine j_callV (pc := 132) C [.ref (hG σ9 (1, 1000 + g (nD S - 1)))] [] (rm0 := ({ frames := 3, cells := 0, slots := 0, locals := 66 } : Room)) (k' := 0) (n' := 0) Q.1 (c_X0_copyFrom (xl X) (xw X) X2 p6 (by omega) ⟨X2.1, rfl⟩ ⟨p6.1, rfl⟩) mp_X0_copyFrom wm_861 (⟨X2.1, rfl⟩ : At _ (1, d2 S (nD S - 1)) _) rfl rfl (Nat.le_of_ble_eq_true rfl) rfl rfl (Nat.le_of_ble_eq_true rfl) dX4_takeBack_132 ⟨by decide, by decide⟩ ⟨Nat.le_of_ble_eq_true rfl, Nat.le_of_ble_eq_true rfl⟩ rfl rfl (fun v8 σ8 hp8 => ?_)
        obtain ⟨rfl, X8, hF8⟩ := hp8
        have hA8 := hF8.at hA9
        have z1 : hR σ8 128 (g (nD S - 1)) 0 = some (4, (if im S (nD S - 1) = 1 then d1 S (nD S - 1) else d2 S (nD S - 1))) := (hF8.rR (f := 128) (by simp only [tgC]; omega)).trans q1
        have z2 : hR σ8 129 (g (nD S - 1)) 0 = some (4, (if im S (nD S - 1) = 1 then d2 S (nD S - 1) else d1 S (nD S - 1))) := (hF8.rR (f := 129) (by simp only [tgC]; omega)).trans q2
        have z3 : hI σ8 130 (g (nD S - 1)) 0 = bI (decide (im S (nD S - 1) ≠ 1)) := (hF8.rI (f := 130) (by simp only [tgC]; omega)).trans q3
        show J X 0 0 σ8 [(3, .int (nI k)), (2, .ref (hG σ (2, g (nD S - 1)))), (1, .int (nI (nD S - 1))), (0, .ref a0)] [] 135
        refine j_aload_n (pc := 135) C dX4_takeBack_135 rfl 1 rfl ?_
        refine j_getA (pc := 136) C fp_X4_134 hA8 rfl (f := 129) rfl (4, (if im S (nD S - 1) = 1 then d2 S (nD S - 1) else d1 S (nD S - 1))) (hG σ8 (4, (if im S (nD S - 1) = 1 then d2 S (nD S - 1) else d1 S (nD S - 1)))) z2 (⟨hF8.live w2, rfl⟩ : At _ (4, (if im S (nD S - 1) = 1 then d2 S (nD S - 1) else d1 S (nD S - 1))) _) dX4_takeBack_136 ?_
        refine j_aload_n (pc := 139) C dX4_takeBack_139 rfl 1 rfl ?_
        refine j_getI (pc := 140) C fp_X4_131 hA8 rfl (f := 130) rfl dX4_takeBack_140 ?_
        refine j_topi (bI (decide (im S (nD S - 1) ≠ 1))) z3 ?_
        refine j_putI (pc := 143) C fp_X4_34 (⟨hF8.live w2, rfl⟩ : At _ (4, (if im S (nD S - 1) = 1 then d2 S (nD S - 1) else d1 S (nD S - 1))) _) (bI_nar _) (bI_fits _) (Or.inl rfl) rfl (by decide) (f := 258) rfl dX4_takeBack_143 ?_
        refine j_aload_n (pc := 146) C dX4_takeBack_146 rfl 1 rfl ?_
        refine j_getA (pc := 147) C fp_X4_137 hA8 rfl (f := 128) rfl (4, (if im S (nD S - 1) = 1 then d1 S (nD S - 1) else d2 S (nD S - 1))) (hG σ8 (4, (if im S (nD S - 1) = 1 then d1 S (nD S - 1) else d2 S (nD S - 1)))) z1 (⟨hF8.live w1, rfl⟩ : At _ (4, (if im S (nD S - 1) = 1 then d1 S (nD S - 1) else d2 S (nD S - 1))) _) dX4_takeBack_147 ?_
        refine j_iconst (pc := 150) C (nI 0) dX4_takeBack_150 (by decide) ?_
        refine j_putI (pc := 151) C fp_X4_34 (⟨hF8.live w1, rfl⟩ : At _ (4, (if im S (nD S - 1) = 1 then d1 S (nD S - 1) else d2 S (nD S - 1))) _) (by decide) rfl (Or.inl rfl) rfl (by decide) (f := 258) rfl dX4_takeBack_151 ?_
        have hF98 : Fr (fun t => t.1 = 4 ∧ (t.2 = (if im S (nD S - 1) = 1 then d1 S (nD S - 1) else d2 S (nD S - 1)) ∨ t.2 = (if im S (nD S - 1) = 1 then d2 S (nD S - 1) else d1 S (nD S - 1)))) σ8 (sI (sI σ8 258 (if im S (nD S - 1) = 1 then d2 S (nD S - 1) else d1 S (nD S - 1)) 0 (bI (decide (im S (nD S - 1) ≠ 1)))) 258 (if im S (nD S - 1) = 1 then d1 S (nD S - 1) else d2 S (nD S - 1)) 0 (nI 0)) := (Fr.rf.sI (f := 258) ⟨show 258 / 64 = 4 by decide, Or.inr rfl⟩).sI (f := 258) ⟨show 258 / 64 = 4 by decide, Or.inl rfl⟩
        have hx2 : ((if im S (nD S - 1) = 1 then d1 S (nD S - 1) else d2 S (nD S - 1)) = d1 S (nD S - 1) ∧ (if im S (nD S - 1) = 1 then d2 S (nD S - 1) else d1 S (nD S - 1)) = d2 S (nD S - 1)) ∨ ((if im S (nD S - 1) = 1 then d1 S (nD S - 1) else d2 S (nD S - 1)) = d2 S (nD S - 1) ∧ (if im S (nD S - 1) = 1 then d2 S (nD S - 1) else d1 S (nD S - 1)) = d1 S (nD S - 1)) := by
          by_cases e : im S (nD S - 1) = 1
          · exact Or.inl ⟨if_pos e, if_pos e⟩
          · exact Or.inr ⟨if_neg e, if_neg e⟩
        have hF98M : Fr (fun t => t.1 = 4 ∧ (t.2 = d1 S (nD S - 1) ∨ t.2 = d2 S (nD S - 1))) σ8 (sI (sI σ8 258 (if im S (nD S - 1) = 1 then d2 S (nD S - 1) else d1 S (nD S - 1)) 0 (bI (decide (im S (nD S - 1) ≠ 1)))) 258 (if im S (nD S - 1) = 1 then d1 S (nD S - 1) else d2 S (nD S - 1)) 0 (nI 0)) := hF98.wide (fun t z => ⟨z.1, by have := z.2; omega⟩)
        have hF89 := (hF8.wide (Q := fun t => tgC (d2 S (nD S - 1)) t ∨ (t.1 = 4 ∧ (t.2 = d1 S (nD S - 1) ∨ t.2 = d2 S (nD S - 1)))) (fun t z => Or.inl z)).tr (hF98M.wide (fun t z => Or.inr z))
        have hF0 := (hF.wide (Q := fun t => (tgL 5 t ∨ (t.1 = 8 ∧ t.2 < 100)) ∨ tgC (d2 S (nD S - 1)) t ∨ (t.1 = 4 ∧ (t.2 = d1 S (nD S - 1) ∨ t.2 = d2 S (nD S - 1)))) (fun t z => Or.inl z)).tr (hF89.wide (fun t z => Or.inr z))
        have hF08 := (hF.wide (Q := fun t => (tgL 5 t ∨ (t.1 = 8 ∧ t.2 < 100)) ∨ tgC (d2 S (nD S - 1)) t) (fun t z => Or.inl z)).tr (hF8.wide (fun t z => Or.inr z))
        have hF0M := hF0.wide (fun t z => undo_M z)
        refine j_iload_n (pc := 154) C dX4_takeBack_154 rfl 2 rfl ?_
        exact j_ireturn (pc := 155) C Q dX4_takeBack_155 (Nat.le_of_ble_eq_true rfl) (Nat.le_of_ble_eq_true rfl) (⟨rfl, lx_undo hpp hw hn ⟨hc1, hc2, hc3, hc4⟩ hF0M (hL5.fr hF89 (fun t z => by simp only [tgC, tgL] at z ⊢; omega)) (fun d q => (hc2 d (by omega)).2.fr hF0 (by simp only [tgC, tgL]; omega) (fun t z => by simp only [tgC, tgL] at z ⊢; omega)) (fun s q => ⟨(hF0.rV (by simp only [tgC, tgL]; omega)).trans (hc4 s q).1, (hF0.rV (by simp only [tgC, tgL]; omega)).trans (hc4 s q).2.1, (hF0.rV (by simp only [tgC, tgL]; omega)).trans (hc4 s q).2.2⟩) (fun f hf => hf.fr hF0 (fun t z => by simp only [tgC, tgL] at z ⊢; omega)) ((X8.fr hF98M (fun t z => by simp only [tgC] at z ⊢; omega)).cong k7) (hO.fr hF89 (fun t z => by simp only [tgC, tgW, tgL] at z ⊢; omega) (by omega)) (fun l q9 => ⟨(show up3 (up3 (hI σ8) 258 (if im S (nD S - 1) = 1 then d2 S (nD S - 1) else d1 S (nD S - 1)) 0 (bI (decide (im S (nD S - 1) ≠ 1)))) 258 (if im S (nD S - 1) = 1 then d1 S (nD S - 1) else d2 S (nD S - 1)) 0 (nI 0) 256 l 0 = hI σ 256 l 0 from ((up3_ne (fun z => absurd z.1 (by decide))).trans (up3_ne (fun z => absurd z.1 (by decide)))).trans (hF08.rI (f := 256) (by simp only [tgC, tgL]; omega))), hF08.rL (f := 257) (by simp only [tgC, tgL]; omega), hF08.rR (f := 259) (by simp only [tgC, tgL]; omega), by
          show up3 (up3 (hI σ8) 258 (if im S (nD S - 1) = 1 then d2 S (nD S - 1) else d1 S (nD S - 1)) 0 (bI (decide (im S (nD S - 1) ≠ 1)))) 258 (if im S (nD S - 1) = 1 then d1 S (nD S - 1) else d2 S (nD S - 1)) 0 (nI 0) 258 l 0 = _
          have k8 : hI σ8 258 l 0 = hI σ 258 l 0 := hF08.rI (f := 258) (by simp only [tgC, tgL]; omega)
          have k9 : hI σ 258 (d2 S (nD S - 1)) 0 = nI 0 := by rw [(hl.2.1 _ u3).2.2.1, decide_eq_false (fun z => z tb0)]; rfl
          by_cases e : im S (nD S - 1) = 1
          · rw [if_pos e, if_pos e, decide_eq_false (fun z => z e)]
            by_cases b1 : l = d1 S (nD S - 1)
            · rw [b1, up3_eq, if_pos rfl]; rfl
            · rw [up3_ne (fun z => b1 z.2.1), if_neg b1]
              by_cases b2 : l = d2 S (nD S - 1)
              · rw [b2, up3_eq, k9]; rfl
              · rw [up3_ne (fun z => b2 z.2.1)]; exact k8
          · rw [if_neg e, if_neg e, decide_eq_true e]
            by_cases b1 : l = d1 S (nD S - 1)
            · rw [b1, up3_ne (fun z => u4 z.2.1), up3_eq, if_pos rfl]
            · rw [if_neg b1]
              by_cases b2 : l = d2 S (nD S - 1)
              · rw [b2, up3_eq, k9]
              · rw [up3_ne (fun z => b2 z.2.1), up3_ne (fun z => b1 z.2.1)]; exact k8⟩), hF0M.wide (fun t z => tgM_Y (by omega) (by omega) z)⟩)
      · obtain ⟨o1, -, -, -, -⟩ := hO.2.1 k c1
        dsimp only at o1
        rw [hok] at o1
        have o9 := (hw.2.2.2.1.2.2 k c1).1
        have mvl := u5
        refine j_aload_n (pc := 41) C dX4_takeBack_41 rfl 3 rfl ?_
        refine j_getA (pc := 42) C fp_X4_18 (hF.at ha0) rfl (f := 321) rfl (0, 4) (hG σ9 (0, 4)) y29 (⟨hO.1.self, rfl⟩ : At _ (0, 4) _) dX4_takeBack_42 ?_
        refine j_iload_n (pc := 45) C dX4_takeBack_45 rfl 0 rfl ?_
        refine j_callV (pc := 46) C [.int (nI k)] [] (rm0 := ({ frames := 3, cells := 0, slots := 0, locals := 66 } : Room)) (k' := 0) (n' := 0) Q.1 (k_get (xl X) (xw X) hO.1 c1 (⟨hO.1.self, rfl⟩ : At _ (0, 4) _)) mp_Jx4a65c_get_915e3 wm_252 (⟨hO.1.self, rfl⟩ : At _ (0, 4) _) rfl rfl (by decide) rfl rfl (Nat.le_of_ble_eq_true rfl) dX4_takeBack_46 ⟨by decide, by decide⟩ ⟨Nat.le_of_ble_eq_true rfl, Nat.le_of_ble_eq_true rfl⟩ rfl rfl (det1 ?_)
        refine j_cast (pc := 49) C cp_X4_38 (⟨hO.1.live c1, rfl⟩ : At _ (8, k) _) dX4_takeBack_49 ?_
        refine j_astore (pc := 52) C [(4, .ref (hG σ9 (8, k))), (3, .int (nI k)), (2, .ref (hG σ (2, g (nD S - 1)))), (1, .int (nI (nD S - 1))), (0, .ref a0)] dX4_takeBack_52 (by decide) rfl ?_
        have tail : J X 0 0 σ9 [(4, .ref (hG σ9 (8, k))), (3, .int (nI k)), (2, .ref (hG σ (2, g (nD S - 1)))), (1, .int (nI (nD S - 1))), (0, .ref a0)] [.int (bI (bck S (nD S - 1) k))] 99 := by
          refine j_istore (pc := 99) C [(5, .int (bI (bck S (nD S - 1) k))), (4, .ref (hG σ9 (8, k))), (3, .int (nI k)), (2, .ref (hG σ (2, g (nD S - 1)))), (1, .int (nI (nD S - 1))), (0, .ref a0)] dX4_takeBack_99 (by decide) rfl ?_
          refine j_iload (pc := 101) C dX4_takeBack_101 0 rfl ?_
          refine jb_if_eq (pc := 103) C 115 (b := bck S (nD S - 1) k) dX4_takeBack_103 (by decide) (fun c5 => ?_) (fun c5 => ?_)
          · refine j_iinc (pc := 115) C (nI (k + 1)) [(3, .int (nI (k + 1))), (5, .int (bI (bck S (nD S - 1) k))), (4, .ref (hG σ9 (8, k))), (2, .ref (hG σ (2, g (nD S - 1)))), (1, .int (nI (nD S - 1))), (0, .ref a0)] dX4_takeBack_115 2 rfl (nI_add k 1) (by decide) rfl ?_
            refine j_goto (pc := 118) C 30 dX4_takeBack_118 (by decide) ?_
            exact J.to [0, 3, 4, 5] rfl (ih (k + 1) σ9 (by omega) (by omega) hF (hO.cong (fun u hu => by
              have hd9 : (u < k ∧ bck S (nD S - 1) u = true) ↔ (u < k + 1 ∧ bck S (nD S - 1) u = true) := ⟨fun z => ⟨by omega, z.2⟩, fun z => ⟨by
                have h9 := z.1
                by_cases e : u = k
                · subst e; rw [c5] at z; exact absurd z.2 (by decide)
                · omega, z.2⟩⟩
              simp only [hd9])) hL5)
          · have c6 : bck S (nD S - 1) k = true := by cases e : bck S (nD S - 1) k with
              | false => rw [e] at c5; cases c5
              | true => rfl
            refine j_aload (pc := 106) C dX4_takeBack_106 1 rfl ?_
            refine j_aload_n (pc := 108) C dX4_takeBack_108 rfl 3 rfl ?_
            refine j_getA (pc := 109) C fp_X4_137 hA9 rfl (f := 128) rfl (4, (if im S (nD S - 1) = 1 then d1 S (nD S - 1) else d2 S (nD S - 1))) (hG σ9 (4, (if im S (nD S - 1) = 1 then d1 S (nD S - 1) else d2 S (nD S - 1)))) q1 (⟨w1, rfl⟩ : At _ (4, (if im S (nD S - 1) = 1 then d1 S (nD S - 1) else d2 S (nD S - 1))) _) dX4_takeBack_109 ?_
            refine j_putR (pc := 112) C (4, (if im S (nD S - 1) = 1 then d1 S (nD S - 1) else d2 S (nD S - 1))) (⟨w1, rfl⟩ : At _ (4, (if im S (nD S - 1) = 1 then d1 S (nD S - 1) else d2 S (nD S - 1))) _).2 (Or.inl (⟨w1, rfl⟩ : At _ (4, (if im S (nD S - 1) = 1 then d1 S (nD S - 1) else d2 S (nD S - 1))) _).1) fp_X4_57 (⟨hO.1.live c1, rfl⟩ : At _ (8, k) _) rfl rfl (Or.inl rfl) rfl (by decide) (f := 512) rfl dX4_takeBack_112 ?_
            refine j_iinc (pc := 115) C (nI (k + 1)) [(3, .int (nI (k + 1))), (5, .int (bI (bck S (nD S - 1) k))), (4, .ref (hG σ9 (8, k))), (2, .ref (hG σ (2, g (nD S - 1)))), (1, .int (nI (nD S - 1))), (0, .ref a0)] dX4_takeBack_115 2 rfl (nI_add k 1) (by decide) rfl ?_
            refine j_goto (pc := 118) C 30 dX4_takeBack_118 (by decide) ?_
            exact J.to [0, 3, 4, 5] rfl (ih (k + 1) _ (by omega) (by omega) (hF.sR (f := 512) (i := k) (j := 0) (v := some (4, (if im S (nD S - 1) = 1 then d1 S (nD S - 1) else d2 S (nD S - 1)))) (show tgL 5 (512 / 64, k) ∨ (512 / 64 = 8 ∧ k < 100) from Or.inr ⟨by decide, by omega⟩)) ((hO.upd (w := k) (b := (if im S (nD S - 1) = 1 then d1 S (nD S - 1) else d2 S (nD S - 1)))).cong (fun u hu => by
              show (if u = k then (if im S (nD S - 1) = 1 then d1 S (nD S - 1) else d2 S (nD S - 1)) else if u < k ∧ bck S (nD S - 1) u = true then (if im S (nD S - 1) = 1 then d1 S (nD S - 1) else d2 S (nD S - 1)) else ol S u) = if u < k + 1 ∧ bck S (nD S - 1) u = true then (if im S (nD S - 1) = 1 then d1 S (nD S - 1) else d2 S (nD S - 1)) else ol S u
              by_cases e : u = k
              · subst e; rw [if_pos (rfl : u = u), if_pos (show u < u + 1 ∧ bck S (nD S - 1) u = true from ⟨Nat.lt_succ_self u, c6⟩)]
              · rw [if_neg e]
                have hd9 : (u < k ∧ bck S (nD S - 1) u = true) ↔ (u < k + 1 ∧ bck S (nD S - 1) u = true) := ⟨fun z => ⟨by omega, z.2⟩, fun z => ⟨by have := z.1; omega, z.2⟩⟩
                simp only [hd9])) (hL5.fr (P := fun t => t.1 = 8 ∧ t.2 < 100) (Fr.rf.sR (f := 512) (show 512 / 64 = 8 ∧ k < 100 from ⟨by decide, by omega⟩)) (fun t z => by simp only [tgL] at z ⊢; omega)))
        refine j_aload_n (pc := 54) C dX4_takeBack_54 rfl 2 rfl ?_
        refine j_getI (pc := 55) C fp_X4_131 hA9 rfl (f := 130) rfl dX4_takeBack_55 ?_
        refine j_topi (bI (decide (im S (nD S - 1) ≠ 1))) q3 ?_
        refine j_topi (bI (decide (im S (nD S - 1) ≠ 1))) rfl ?_
        refine jb_if_eq (pc := 58) C 81 (b := decide (im S (nD S - 1) ≠ 1)) dX4_takeBack_58 (by decide) (fun c2 => ?_) (fun c2 => ?_)
        · have c3 : im S (nD S - 1) = 1 := Decidable.byContradiction (fun z => by rw [decide_eq_true (show im S (nD S - 1) ≠ 1 from z)] at c2; cases c2)
          have hbk : bck S (nD S - 1) k = (mv S (nD S - 1)).testBit k := if_pos c3
          refine j_aload_n (pc := 81) C dX4_takeBack_81 rfl 2 rfl ?_
          refine j_getL (pc := 82) C fp_X4_94 hA9 rfl (f := 132) rfl dX4_takeBack_82 ?_
          refine j_topl (lN (mv S (nD S - 1))) q5 ?_
          refine j_iload_n (pc := 85) C dX4_takeBack_85 rfl 1 rfl ?_
          refine j_lushr (pc := 86) C dX4_takeBack_86 ?_
          refine j_lconst (pc := 87) C (lN 1) dX4_takeBack_87 (by decide) ?_
          refine j_land (pc := 88) C dX4_takeBack_88 ?_
          refine j_topl (lN ((mv S (nD S - 1)).testBit k).toNat) (by rw [ubitL (by omega) (by omega)]) ?_
          refine j_lconst (pc := 89) C (lN 0) dX4_takeBack_89 (by decide) ?_
          refine j_lcmp (pc := 90) C dX4_takeBack_90 ?_
          refine jl_if_eq (pc := 91) C 98 dX4_takeBack_91 (by decide) (fun c4 => ?_) (fun c4 => ?_)
          · refine j_iconst (pc := 98) C (nI 0) dX4_takeBack_98 (by decide) ?_
            refine j_topi (bI (bck S (nD S - 1) k)) (by
              rw [hbk]
              cases h : (mv S (nD S - 1)).testBit k with
              | false => rfl
              | true => rw [h] at c4; exact absurd c4 (by decide)) ?_
            exact tail
          · refine j_iconst (pc := 94) C (nI 1) dX4_takeBack_94 (by decide) ?_
            refine j_goto (pc := 95) C 99 dX4_takeBack_95 (by decide) ?_
            refine j_topi (bI (bck S (nD S - 1) k)) (by
              rw [hbk]
              cases h : (mv S (nD S - 1)).testBit k with
              | true => rfl
              | false => rw [h] at c4; exact absurd rfl c4) ?_
            exact tail
        · have c3 : im S (nD S - 1) ≠ 1 := of_decide_eq_true (by cases h : decide (im S (nD S - 1) ≠ 1) with
            | true => rfl
            | false => rw [h] at c2; cases c2)
          have hbk : bck S (nD S - 1) k = decide (ol S k = d1 S (nD S - 1)) := if_neg c3
          have hxj : (if im S (nD S - 1) = 1 then d2 S (nD S - 1) else d1 S (nD S - 1)) = d1 S (nD S - 1) := if_neg c3
          refine j_aload (pc := 61) C dX4_takeBack_61 0 rfl ?_
          refine j_getA (pc := 63) C fp_X4_57 (⟨hO.1.live c1, rfl⟩ : At _ (8, k) _) rfl (f := 512) rfl (4, ol S k) (hG σ9 (4, ol S k)) o1 (⟨hF.live (hl.1.live o9), rfl⟩ : At _ (4, ol S k) _) dX4_takeBack_63 ?_
          refine j_aload_n (pc := 66) C dX4_takeBack_66 rfl 2 rfl ?_
          refine j_getA (pc := 67) C fp_X4_134 hA9 rfl (f := 129) rfl (4, (if im S (nD S - 1) = 1 then d2 S (nD S - 1) else d1 S (nD S - 1))) (hG σ9 (4, (if im S (nD S - 1) = 1 then d2 S (nD S - 1) else d1 S (nD S - 1)))) q2 (⟨w2, rfl⟩ : At _ (4, (if im S (nD S - 1) = 1 then d2 S (nD S - 1) else d1 S (nD S - 1))) _) dX4_takeBack_67 ?_
          refine jt_acmp_ne (pc := 70) C 77 (⟨hF.live (hl.1.live o9), rfl⟩ : At _ (4, ol S k) _) (⟨w2, rfl⟩ : At _ (4, (if im S (nD S - 1) = 1 then d2 S (nD S - 1) else d1 S (nD S - 1))) _) dX4_takeBack_70 (by decide) (fun c4 => ?_) (fun c4 => ?_)
          · refine j_iconst (pc := 77) C (nI 0) dX4_takeBack_77 (by decide) ?_
            refine j_goto (pc := 78) C 99 dX4_takeBack_78 (by decide) ?_
            refine j_topi (bI (bck S (nD S - 1) k)) (by rw [hbk, decide_eq_false (fun z => c4 (by rw [z, hxj]))]; rfl) ?_
            exact tail
          · refine j_iconst (pc := 73) C (nI 1) dX4_takeBack_73 (by decide) ?_
            refine j_goto (pc := 74) C 99 dX4_takeBack_74 (by decide) ?_
            refine j_topi (bI (bck S (nD S - 1) k)) (by rw [hbk, decide_eq_true ((congrArg Prod.snd c4).trans hxj)]; rfl) ?_
            exact tail
  exact J.to [0, 1, 2, 3] rfl (loop (nW S + 1) 0 σ1 (Nat.zero_le _) (by omega) (hF1.wide (fun t z => Or.inl z)) (LXo.cong (o := ol S) (show LXo S (ol S) σ1 from hv.fr hF1 (fun t z => by simp only [tgW, tgL] at z ⊢; omega) (by omega)) (fun u hu => (if_neg (fun z => absurd z.1 (Nat.not_lt_zero u))).symm)) hL1)
