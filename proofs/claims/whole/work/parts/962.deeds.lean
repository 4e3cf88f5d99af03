theorem undo_M {a b : Nat} {t : Tg} (h : (tgL 5 t ∨ (t.1 = 8 ∧ t.2 < 100)) ∨ tgC b t ∨ (t.1 = 4 ∧ (t.2 = a ∨ t.2 = b))) : tgM a b t := by
  rcases h with (z | z) | z | z
  · exact Or.inl (Or.inr (Or.inl z))
  · exact Or.inr (Or.inl z)
  · exact Or.inr (Or.inr (Or.inr (Or.inl z)))
  · exact Or.inr (Or.inr (Or.inr (Or.inr z)))
theorem tgM_Y {a b : Nat} (ha : a < 100) (hb : b < 100) {t : Tg} (h : tgM a b t) : tgX t ∨ tgW t ∨ tgD t := by
  rcases h with z | z | z | z | z
  · exact Or.inr (Or.inr z)
  · exact Or.inr (Or.inl (Or.inl z))
  · exact Or.inl (Or.inr (Or.inr ⟨z.1, by have := z.2; omega⟩))
  · exact Or.inl (Or.inr (Or.inr ⟨z.1, by have := z.2; omega⟩))
  · exact Or.inl (Or.inl ⟨z.1, by have := z.2; omega⟩)
theorem ct_cut {p : Nat → Bool} {n m : Nat} (h : n ≤ m) (hp : ∀ i, n ≤ i → p i = false) : fb_ct p m = fb_ct p n := by
  have k := fb_ct_split p n (m - n)
  have e : n + (m - n) = m := by omega
  rw [e] at k
  have z : fb_ct (fun k => p (n + k)) (m - n) = 0 := fb_ct_zero.mpr (fun i _ => hp (n + i) (by omega))
  omega
theorem mvm_cnt (S : SP) (a m n : Nat) (hn : n ≤ 64) : cnt (mvm S a m n) 64 = moveN S a m n := by
  rw [cnt_ct, ct_cut (n := n) hn (fun i hi => Nat.testBit_lt_two_pow (Nat.lt_of_lt_of_le (mvm_lt S a m n) (Nat.pow_le_pow_right (by decide) hi))), mvm_ct]
set_option maxHeartbeats 4000000 in
set_option maxRecDepth 100000 in
theorem c_X4_mergeInto (L9 : Launch) (w9 : Wd) {σ : HS} {S : SP} (hw : WF S) (hp : LX9 S σ) {a0 : Nat} (ha0 : At σ (5, 0) a0) {a b p q : Nat} (ha : a < nL S) (hb : b < nL S) (hab : a ≠ b) (ta : th S a = 1) (tb : th S b = 1) (hp9 : At σ (4, a) p) (hq9 : At σ (4, b) q) : MJ L9 w9 yX4_mergeInto cX4_mergeInto 4 (some .int) ({ frames := 8, cells := 4, slots := 64, locals := 215 } : Room) [.ref a0, .ref p, .ref q] σ (fun a9 σ' => a9 = some (.int (nI (moveN S a 255 (nW S)))) ∧ LX9 (S_merge S a b) σ' ∧ Fr (tgM a b) σ σ') := by
  refine MJ.of (by decide +kernel) (Nat.le_of_ble_eq_true rfl) (fun X hX1 hX2 C Q hinit => ?_)
  subst hX1; subst hX2
  show J X 0 0 σ [(0, .ref a0), (1, .ref p), (2, .ref q)] [] 0
  have hpp := hp
  obtain ⟨hf, hl, hx, hv, hch⟩ := hp
  obtain ⟨y0, y1, y2, y3⟩ := id hf
  have gL := hw.2.2.1.1
  have gW := hw.2.2.2.1.1
  have gD := hw.2.2.2.2.1
  refine j_aload_n (pc := 0) C dX4_mergeInto_0 rfl 0 rfl ?_
  refine j_aload_n (pc := 1) C dX4_mergeInto_1 rfl 1 rfl ?_
  refine j_aload_n (pc := 2) C dX4_mergeInto_2 rfl 2 rfl ?_
  refine j_iconst (pc := 3) C (nI 0) dX4_mergeInto_3 (by decide) ?_
  refine j_topi (bI false) rfl ?_
  refine j_callV (pc := 4) C [.ref p, .ref q, .int (bI false)] [] (rm0 := ({ frames := 8, cells := 4, slots := 64, locals := 215 } : Room)) (k' := 4) (n' := 64) Q.1 (c_X4_begin (xl X) (xw X) hw hpp ha0 (a := a) (c := b) (m := 1) (its := a) (into := b) (x := false) hp9 hq9 (if_pos rfl) (if_pos rfl) rfl (if_neg (by decide)) hb tb) mp_X4_begin wm_825 ha0 rfl rfl (by decide) rfl rfl (Nat.le_of_ble_eq_true rfl) dX4_mergeInto_4 ⟨by decide, by decide⟩ ⟨Nat.le_of_ble_eq_true rfl, Nat.le_of_ble_eq_true rfl⟩ rfl rfl (fun v8 σ1 hp8 => ?_)
  obtain ⟨g, N, rfl, hG1, hF1⟩ := hp8
  have v21 : hV σ1 (2, g (nD S)) = true := hG1.1.live (by rw [dd_nD]; omega)
  have XA1 : CR9 σ1 a (fun c => xc9 S a c) := ((hx a ha).t ta).fr hF1 (fun t z => by simp only [tgD, tgC, tgL] at z ⊢; omega)
  have XB1 : CR9 σ1 b (fun c => xc9 S b c) := ((hx b hb).t tb).fr hF1 (fun t z => by simp only [tgD, tgC, tgL] at z ⊢; omega)
  have rA1 : hR σ1 259 a 0 = some (1, a) := (hF1.rR (f := 259) (by simp only [tgD, tgC, tgL]; omega)).trans (hl.2.1 a ha).2.2.2
  have rB1 : hR σ1 259 b 0 = some (1, b) := (hF1.rR (f := 259) (by simp only [tgD, tgC, tgL]; omega)).trans (hl.2.1 b hb).2.2.2
  show J X 4 64 σ1 [(0, .ref a0), (1, .ref p), (2, .ref q)] [.ref (hG σ1 (2, g (nD S)))] 7
  refine j_astore_n (pc := 7) C [(3, .ref (hG σ1 (2, g (nD S)))), (0, .ref a0), (1, .ref p), (2, .ref q)] dX4_mergeInto_7 rfl (by decide) rfl ?_
  refine j_aload_n (pc := 8) C dX4_mergeInto_8 rfl 3 rfl ?_
  refine j_getA (pc := 9) C fp_X4_80 (hF1.at hq9) rfl (f := 259) rfl (1, b) (hG σ1 (1, b)) rB1 (⟨XB1.1, rfl⟩ : At _ (1, b) _) dX4_mergeInto_9 ?_
  refine j_aload_n (pc := 12) C dX4_mergeInto_12 rfl 2 rfl ?_
  refine j_getA (pc := 13) C fp_X4_80 (hF1.at hp9) rfl (f := 259) rfl (1, a) (hG σ1 (1, a)) rA1 (⟨XA1.1, rfl⟩ : At _ (1, a) _) dX4_mergeInto_13 ?_
  refine j_callV (pc := 16) C [.ref (hG σ1 (1, a))] [] (rm0 := ({ frames := 8, cells := 4, slots := 64, locals := 215 } : Room)) (k' := 4) (n' := 64) Q.1 (c_X0_fillGapsFrom (xl X) (xw X) XB1 XA1 (fun z => hab z.symm) ⟨XB1.1, rfl⟩ ⟨XA1.1, rfl⟩) mp_X0_fillGapsFrom wm_866 (⟨XB1.1, rfl⟩ : At _ (1, b) _) rfl rfl (Nat.le_of_ble_eq_true rfl) rfl rfl (Nat.le_of_ble_eq_true rfl) dX4_mergeInto_16 ⟨by decide, by decide⟩ ⟨Nat.le_of_ble_eq_true rfl, Nat.le_of_ble_eq_true rfl⟩ rfl rfl (fun v8 σ2 hp8 => ?_)
  obtain ⟨rfl, XB2, hF2⟩ := hp8
  have hF12 : Fr (fun t => tgD t ∨ tgC b t) σ σ2 := (hF1.wide (fun t z => Or.inl z)).tr (hF2.wide (fun t z => Or.inr z))
  have hf2 : LXf σ2 := hf.fr hF12 (by simp only [tgD, tgC, tgL]; omega)
  have hv2 : LXw S σ2 := hv.fr hF12 (fun t z => by simp only [tgD, tgC, tgW, tgL] at z ⊢; omega) (by omega)
  have v22 := hF2.live v21
  show J X 4 64 σ2 [(3, .ref (hG σ1 (2, g (nD S)))), (0, .ref a0), (1, .ref p), (2, .ref q)] [] 19
  refine j_aload_n (pc := 19) C dX4_mergeInto_19 rfl 0 rfl ?_
  refine j_aload_n (pc := 20) C dX4_mergeInto_20 rfl 1 rfl ?_
  refine j_aload_n (pc := 21) C dX4_mergeInto_21 rfl 2 rfl ?_
  refine j_aload_n (pc := 22) C dX4_mergeInto_22 rfl 3 rfl ?_
  refine j_sipush (pc := 23) C (nI 255) dX4_mergeInto_23 (by decide) ?_
  refine j_callV (pc := 26) C [.ref p, .ref q, .int (nI 255)] [.ref (hG σ1 (2, g (nD S)))] (rm0 := ({ frames := 8, cells := 4, slots := 64, locals := 215 } : Room)) (k' := 4) (n' := 64) Q.1 (c_X4_moveWords (xl X) (xw X) gW hf2 hv2 (hF12.at ha0) (fun u q => (hw.2.2.2.1.2.2 u q).2.1) (fun u q => hF12.live (hl.1.live (hw.2.2.2.1.2.2 u q).1)) (hF12.at hp9) (hF12.at hq9) (m := 255) (by decide)) mp_X4_moveWords wm_872 (hF12.at ha0) rfl rfl (by decide) rfl rfl (Nat.le_of_ble_eq_true rfl) dX4_mergeInto_26 ⟨by decide, by decide⟩ ⟨Nat.le_of_ble_eq_true rfl, Nat.le_of_ble_eq_true rfl⟩ rfl rfl (fun v8 σ3 hp8 => ?_)
  obtain ⟨rfl, hO3, hF3⟩ := hp8
  have hF13 : Fr (fun t => tgD t ∨ tgC b t ∨ (t.1 = 8 ∧ t.2 < 100)) σ σ3 := (hF12.wide (fun t z => z.elim Or.inl (fun z => Or.inr (Or.inl z)))).tr (hF3.wide (fun t z => Or.inr (Or.inr z)))
  have hA2 := hF3.at (hF2.at (⟨v21, rfl⟩ : At σ1 (2, g (nD S)) _))
  show J X 4 64 σ3 [(3, .ref (hG σ1 (2, g (nD S)))), (0, .ref a0), (1, .ref p), (2, .ref q)] [.long (lN (mvm S a 255 (nW S))), .ref (hG σ1 (2, g (nD S)))] 29
  refine j_putL (pc := 29) C fp_X4_94 hA2 rfl rfl (Or.inl rfl) rfl (by decide) (f := 132) rfl dX4_mergeInto_29 ?_
  refine j_aload_n (pc := 32) C dX4_mergeInto_32 rfl 2 rfl ?_
  refine j_iconst (pc := 33) C (nI 1) dX4_mergeInto_33 (by decide) ?_
  refine j_putI (pc := 34) C fp_X4_34 (hF13.at hp9) (by decide) rfl (Or.inl rfl) rfl (by decide) (f := 258) rfl dX4_mergeInto_34 ?_
  refine j_aload_n (pc := 37) C dX4_mergeInto_37 rfl 0 rfl ?_
  refine j_getL (pc := 38) C fp_X4_94 hA2 rfl (f := 132) rfl dX4_mergeInto_38 ?_
  refine j_topl (lN (mvm S a 255 (nW S))) (sL_eq (σ := σ3) (f := 132) (i := g (nD S)) (j := 0) (v := lN (mvm S a 255 (nW S)))) ?_
  refine j_callS (pc := 41) C [.long (lN (mvm S a 255 (nW S)))] [] (rm0 := ({ frames := 8, cells := 4, slots := 64, locals := 215 } : Room)) (k' := 4) (n' := 64) Q.1 (c_J13_bitCount_95d88 (xl X) (xw X) (Nat.lt_of_lt_of_le (mvm_lt S a 255 (nW S)) (Nat.pow_le_pow_right (by decide) (by omega)))) mp_J13_bitCount_95d88 wm_876 rfl rfl (Nat.le_of_ble_eq_true rfl) dX4_mergeInto_41 ⟨by decide, by decide⟩ ⟨Nat.le_of_ble_eq_true rfl, Nat.le_of_ble_eq_true rfl⟩ rfl rfl (det1 ?_)
  refine j_topi (nI (moveN S a 255 (nW S))) (congrArg nI (mvm_cnt S a 255 (nW S) (by omega))) ?_
  have hF35 : Fr (fun t => t.1 = 2 ∨ (t.1 = 4 ∧ t.2 = a)) σ3 (sI (sL σ3 132 (g (nD S)) 0 (lN (mvm S a 255 (nW S)))) 258 a 0 (nI 1)) := (Fr.rf.sL (f := 132) (Or.inl (show 132 / 64 = 2 by decide))).sI (f := 258) (Or.inr ⟨show 258 / 64 = 4 by decide, rfl⟩)
  have hF25 := (hF3.wide (Q := fun t => (t.1 = 8 ∧ t.2 < 100) ∨ t.1 = 2 ∨ (t.1 = 4 ∧ t.2 = a)) (fun t z => Or.inl z)).tr (hF35.wide (fun t z => Or.inr z))
  have hF15 := (hF2.wide (Q := fun t => tgC b t ∨ (t.1 = 8 ∧ t.2 < 100) ∨ t.1 = 2 ∨ (t.1 = 4 ∧ t.2 = a)) (fun t z => Or.inl z)).tr (hF25.wide (fun t z => Or.inr z))
  have hF05 : Fr (tgM a b) σ (sI (sL σ3 132 (g (nD S)) 0 (lN (mvm S a 255 (nW S)))) 258 a 0 (nI 1)) := (hF13.wide (fun t z => by simp only [tgM, tgD, tgC, tgL] at z ⊢; omega)).tr (hF35.wide (fun t z => by simp only [tgM, tgD, tgC, tgL] at z ⊢; omega))
  have hF123 := (hF2.wide (Q := fun t => tgC b t ∨ (t.1 = 8 ∧ t.2 < 100)) (fun t z => Or.inl z)).tr (hF3.wide (fun t z => Or.inr z))
  have hG3 := (hG1.fr hF123 (fun t z => by simp only [tgD, tgC, tgL] at z ⊢; omega)).moved (v' := mvm S a 255 (nW S))
  have hG5 : LXdG (S_deed S 1 a b (mvm S a 255 (nW S))) (sI (sL σ3 132 (g (nD S)) 0 (lN (mvm S a 255 (nW S)))) 258 a 0 (nI 1)) g N := hG3.fr (P := fun t => t.1 = 4 ∧ t.2 = a) (Fr.rf.sI (f := 258) ⟨show 258 / 64 = 4 by decide, rfl⟩) (fun t z => by simp only [tgD, tgL] at z ⊢; omega)
  exact j_ireturn (pc := 44) C Q dX4_mergeInto_44 (Nat.le_of_ble_eq_true rfl) (Nat.le_of_ble_eq_true rfl) (⟨rfl, lx_merge hpp hw ha hb hab ta tb hF05 hG5 (XA1.fr hF15 (fun t z => by simp only [tgC] at z ⊢; omega)) (XB2.fr hF25 (fun t z => by simp only [tgC] at z ⊢; omega)) (hO3.fr hF35 (fun t z => by simp only [tgW, tgL] at z ⊢; omega) (by omega)) (fun l q9 => ⟨(show up3 (hI σ3) 258 a 0 (nI 1) 256 l 0 = hI σ 256 l 0 from (up3_ne (fun z => absurd z.1 (by decide))).trans (hF13.rI (f := 256) (by simp only [tgD, tgC, tgL]; omega))), (show up3 (hL σ3) 132 (g (nD S)) 0 (lN (mvm S a 255 (nW S))) 257 l 0 = hL σ 257 l 0 from (up3_ne (fun z => absurd z.1 (by decide))).trans (hF13.rL (f := 257) (by simp only [tgD, tgC, tgL]; omega))), hF13.rR (f := 259) (by simp only [tgD, tgC, tgL]; omega), by
    show up3 (hI σ3) 258 a 0 (nI 1) 258 l 0 = if l = a then nI 1 else hI σ 258 l 0
    by_cases e : l = a
    · rw [e, if_pos rfl, up3_eq]
    · rw [if_neg e, up3_ne (fun z => e z.2.1)]; exact hF13.rI (f := 258) (by simp only [tgD, tgC, tgL]; omega)⟩), hF05⟩)
set_option maxHeartbeats 4000000 in
set_option maxRecDepth 100000 in
theorem c_X4_splitOff (L9 : Launch) (w9 : Wd) {σ : HS} {S : SP} (hw : WF S) (hp : LX9 S σ) {a0 : Nat} (ha0 : At σ (5, 0) a0) {a m p : Nat} (ha : a < nL S) (ta : th S a = 1) (hn : nL S < 16) (hm : m < 256) (hp9 : At σ (4, a) p) : MJ L9 w9 yX4_splitOff cX4_splitOff 5 (some .int) ({ frames := 8, cells := 8, slots := 127, locals := 215 } : Room) [.ref a0, .ref p, .int (nI m)] σ (fun a9 σ' => a9 = some (.int (nI (nL S))) ∧ LX9 (S_spl (makes9 S (fo S a)) a (nL S) m) σ' ∧ Fr tgY σ σ') := by
  refine MJ.of (by decide +kernel) (Nat.le_of_ble_eq_true rfl) (fun X hX1 hX2 C Q hinit => ?_)
  subst hX1; subst hX2
  show J X 0 0 σ [(0, .ref a0), (1, .ref p), (2, .int (nI m))] [] 0
  have hpp := hp
  obtain ⟨hf, hl, hx, hv, hch⟩ := hp
  obtain ⟨y0, y1, y2, y3⟩ := id hf
  have gL := hw.2.2.1.1
  have gW := hw.2.2.2.1.1
  have gD := hw.2.2.2.2.1
  obtain ⟨hfo, hf1, hf6⟩ := WF_fo hw ha
  have hw1 := hw.makes hfo hf1 hf6 hn
  have k1 : th (makes9 S (fo S a)) a = 1 := by rw [mk_th, if_neg (by omega)]; exact ta
  have k2 : th (makes9 S (fo S a)) (nL S) = 1 := by rw [mk_th, if_pos rfl]
  have k3 : nL (makes9 S (fo S a)) = nL S + 1 := mk_nL
  have k4 : nW (makes9 S (fo S a)) = nW S := mk_N (p := fun f _ => decide (f = 666)) rfl rfl 666 0 0 rfl
  have k5 : nD (makes9 S (fo S a)) = nD S := mk_N (p := fun f _ => decide (f = 672)) rfl rfl 672 0 0 rfl
  have k6 : ∀ c, c < 8 → xc9 (makes9 S (fo S a)) (nL S) c = none := fun c hc => (mk_x _).trans (hw.2.2.1.2.2.2.2.2.2.2.2 (nL S) c (Nat.le_refl _) hn hc)
  refine j_aload_n (pc := 0) C dX4_splitOff_0 rfl 0 rfl ?_
  refine j_aload_n (pc := 1) C dX4_splitOff_1 rfl 1 rfl ?_
  refine j_getL (pc := 2) C fp_X4_105 hp9 rfl (f := 257) rfl dX4_splitOff_2 ?_
  refine j_topl (enc5 (fo S a)) ((hl.2.1 a ha).2.1) ?_
  refine j_callV (pc := 5) C [.long (enc5 (fo S a))] [] (rm0 := ({ frames := 8, cells := 8, slots := 127, locals := 215 } : Room)) (k' := 4) (n' := 63) Q.1 (c_X4_addLexeme (xl X) (xw X) hw hpp ha0 (r := fo S a) hn) mp_X4_addLexeme wm_888 ha0 rfl rfl (by decide) rfl rfl (Nat.le_of_ble_eq_true rfl) dX4_splitOff_5 ⟨by decide, by decide⟩ ⟨Nat.le_of_ble_eq_true rfl, Nat.le_of_ble_eq_true rfl⟩ rfl rfl (fun v8 σ1 hp8 => ?_)
  obtain ⟨rfl, hp1, hF1⟩ := hp8
  obtain ⟨hf1, hl1, hx1, hv1, hch1⟩ := id hp1
  have a1 : a < nL (makes9 S (fo S a)) := by omega
  have b1 : nL S < nL (makes9 S (fo S a)) := by omega
  have vb := hl1.1.live b1
  show J X 4 63 σ1 [(0, .ref a0), (1, .ref p), (2, .int (nI m))] [.ref (hG σ1 (4, nL S))] 8
  refine j_astore_n (pc := 8) C [(3, .ref (hG σ1 (4, nL S))), (0, .ref a0), (1, .ref p), (2, .int (nI m))] dX4_splitOff_8 rfl (by decide) rfl ?_
  refine j_aload_n (pc := 9) C dX4_splitOff_9 rfl 1 rfl ?_
  refine j_aload_n (pc := 10) C dX4_splitOff_10 rfl 2 rfl ?_
  refine j_aload_n (pc := 11) C dX4_splitOff_11 rfl 0 rfl ?_
  refine j_iconst (pc := 12) C (nI 1) dX4_splitOff_12 (by decide) ?_
  refine j_topi (bI true) rfl ?_
  refine j_callV (pc := 13) C [.ref p, .ref (hG σ1 (4, nL S)), .int (bI true)] [] (rm0 := ({ frames := 8, cells := 8, slots := 127, locals := 215 } : Room)) (k' := 8) (n' := 127) Q.1 (c_X4_begin (xl X) (xw X) hw1 hp1 (hF1.at ha0) (a := a) (c := nL S) (m := 0) (its := nL S) (into := a) (x := true) (hF1.at hp9) (⟨vb, rfl⟩ : At _ (4, nL S) _) (if_neg (by decide)) (if_neg (by decide)) rfl (if_pos rfl) a1 k1) mp_X4_begin wm_825 (hF1.at ha0) rfl rfl (by decide) rfl rfl (Nat.le_of_ble_eq_true rfl) dX4_splitOff_13 ⟨by decide, by decide⟩ ⟨Nat.le_of_ble_eq_true rfl, Nat.le_of_ble_eq_true rfl⟩ rfl rfl (fun v8 σ2 hp8 => ?_)
  obtain ⟨g, N, rfl, hG2, hF2⟩ := hp8
  have v21 : hV σ2 (2, g (nD (makes9 S (fo S a)))) = true := hG2.1.live (by rw [dd_nD]; omega)
  have vb2 := hF2.live vb
  have XA2 : CR9 σ2 a (fun c => xc9 (makes9 S (fo S a)) a c) := ((hx1 a a1).t k1).fr hF2 (fun t z => by simp only [tgD, tgC, tgL] at z ⊢; omega)
  have XB2 : CR9 σ2 (nL S) (fun c => xc9 (makes9 S (fo S a)) (nL S) c) := ((hx1 (nL S) b1).t k2).fr hF2 (fun t z => by simp only [tgD, tgC, tgL] at z ⊢; omega)
  have rA2 : hR σ2 259 a 0 = some (1, a) := (hF2.rR (f := 259) (by simp only [tgD, tgC, tgL]; omega)).trans (hl1.2.1 a a1).2.2.2
  have rB2 : hR σ2 259 (nL S) 0 = some (1, nL S) := (hF2.rR (f := 259) (by simp only [tgD, tgC, tgL]; omega)).trans (hl1.2.1 (nL S) b1).2.2.2
  have hA02 := hF2.at (hF1.at ha0)
  have hAa2 := hF2.at (hF1.at hp9)
  have hAb2 := hF2.at (⟨vb, rfl⟩ : At σ1 (4, nL S) _)
  show J X 8 127 σ2 [(3, .ref (hG σ1 (4, nL S))), (0, .ref a0), (1, .ref p), (2, .int (nI m))] [.ref (hG σ2 (2, g (nD (makes9 S (fo S a)))))] 16
  refine j_astore (pc := 16) C [(4, .ref (hG σ2 (2, g (nD (makes9 S (fo S a)))))), (3, .ref (hG σ1 (4, nL S))), (0, .ref a0), (1, .ref p), (2, .int (nI m))] dX4_splitOff_16 (by decide) rfl ?_
  refine j_aload_n (pc := 18) C dX4_splitOff_18 rfl 3 rfl ?_
  refine j_getA (pc := 19) C fp_X4_80 hAa2 rfl (f := 259) rfl (1, a) (hG σ2 (1, a)) rA2 (⟨XA2.1, rfl⟩ : At _ (1, a) _) dX4_splitOff_19 ?_
  refine j_aload_n (pc := 22) C dX4_splitOff_22 rfl 1 rfl ?_
  refine j_getA (pc := 23) C fp_X4_80 hAb2 rfl (f := 259) rfl (1, nL S) (hG σ2 (1, nL S)) rB2 (⟨XB2.1, rfl⟩ : At _ (1, nL S) _) dX4_splitOff_23 ?_
  refine j_iload_n (pc := 26) C dX4_splitOff_26 rfl 4 rfl ?_
  refine j_callV (pc := 27) C [.ref (hG σ2 (1, nL S)), .int (nI m)] [] (rm0 := ({ frames := 8, cells := 8, slots := 127, locals := 215 } : Room)) (k' := 8) (n' := 127) Q.1 (c_X0_moveTo (xl X) (xw X) XA2 XB2 (by omega) ⟨XA2.1, rfl⟩ ⟨XB2.1, rfl⟩ hm) mp_X0_moveTo wm_889 (⟨XA2.1, rfl⟩ : At _ (1, a) _) rfl rfl (Nat.le_of_ble_eq_true rfl) rfl rfl (Nat.le_of_ble_eq_true rfl) dX4_splitOff_27 ⟨by decide, by decide⟩ ⟨Nat.le_of_ble_eq_true rfl, Nat.le_of_ble_eq_true rfl⟩ rfl rfl (fun v8 σ3 hp8 => ?_)
  obtain ⟨rfl, XA3, XB3, hF3⟩ := hp8
  have hF13 : Fr (fun t => tgD t ∨ tgC a t ∨ tgC (nL S) t) σ1 σ3 := (hF2.wide (fun t z => Or.inl z)).tr (hF3.wide (fun t z => Or.inr z))
  have hf3 : LXf σ3 := hf1.fr hF13 (by simp only [tgD, tgC, tgL]; omega)
  have hv3 : LXw (makes9 S (fo S a)) σ3 := hv1.fr hF13 (fun t z => by simp only [tgD, tgC, tgW, tgL] at z ⊢; omega) (by omega)
  have hA03 := hF3.at hA02
  have hAa3 := hF3.at hAa2
  have hAb3 := hF3.at hAb2
  have hA23 := hF3.at (⟨v21, rfl⟩ : At σ2 (2, g (nD (makes9 S (fo S a)))) _)
  show J X 8 127 σ3 [(4, .ref (hG σ2 (2, g (nD (makes9 S (fo S a)))))), (3, .ref (hG σ1 (4, nL S))), (0, .ref a0), (1, .ref p), (2, .int (nI m))] [] 30
  refine j_aload (pc := 30) C dX4_splitOff_30 0 rfl ?_
  refine j_aload_n (pc := 32) C dX4_splitOff_32 rfl 2 rfl ?_
  refine j_aload_n (pc := 33) C dX4_splitOff_33 rfl 3 rfl ?_
  refine j_aload_n (pc := 34) C dX4_splitOff_34 rfl 1 rfl ?_
  refine j_iload_n (pc := 35) C dX4_splitOff_35 rfl 4 rfl ?_
  refine j_callV (pc := 36) C [.ref p, .ref (hG σ1 (4, nL S)), .int (nI m)] [.ref (hG σ2 (2, g (nD (makes9 S (fo S a)))))] (rm0 := ({ frames := 8, cells := 8, slots := 127, locals := 215 } : Room)) (k' := 8) (n' := 127) Q.1 (c_X4_moveWords (xl X) (xw X) (by omega) hf3 hv3 hA03 (fun u q => (hw1.2.2.2.1.2.2 u q).2.1) (fun u q => hF13.live (hl1.1.live (hw1.2.2.2.1.2.2 u q).1)) hAa3 hAb3 (m := m) hm) mp_X4_moveWords wm_872 hA03 rfl rfl (by decide) rfl rfl (Nat.le_of_ble_eq_true rfl) dX4_splitOff_36 ⟨by decide, by decide⟩ ⟨Nat.le_of_ble_eq_true rfl, Nat.le_of_ble_eq_true rfl⟩ rfl rfl (fun v8 σ4 hp8 => ?_)
  obtain ⟨rfl, hO4, hF4⟩ := hp8
  have hA24 := hF4.at hA23
  show J X 8 127 σ4 [(4, .ref (hG σ2 (2, g (nD (makes9 S (fo S a)))))), (3, .ref (hG σ1 (4, nL S))), (0, .ref a0), (1, .ref p), (2, .int (nI m))] [.long (lN (mvm (makes9 S (fo S a)) a m (nW (makes9 S (fo S a))))), .ref (hG σ2 (2, g (nD (makes9 S (fo S a)))))] 39
  refine j_putL (pc := 39) C fp_X4_94 hA24 rfl rfl (Or.inl rfl) rfl (by decide) (f := 132) rfl dX4_splitOff_39 ?_
  have hF45 : Fr (fun t => t.1 = 2) σ4 (sL σ4 132 (g (nD (makes9 S (fo S a)))) 0 (lN (mvm (makes9 S (fo S a)) a m (nW (makes9 S (fo S a)))))) := Fr.rf.sL (f := 132) (show 132 / 64 = 2 by decide)
  have hF35 := (hF4.wide (Q := fun t => (t.1 = 8 ∧ t.2 < 100) ∨ t.1 = 2) (fun t z => Or.inl z)).tr (hF45.wide (fun t z => Or.inr z))
  have hF15 := (hF13.wide (Q := fun t => (tgD t ∨ tgC a t ∨ tgC (nL S) t) ∨ (t.1 = 8 ∧ t.2 < 100) ∨ t.1 = 2) (fun t z => Or.inl z)).tr (hF35.wide (fun t z => Or.inr z))
  have hF15M : Fr (tgM a (nL S)) σ1 (sL σ4 132 (g (nD (makes9 S (fo S a)))) 0 (lN (mvm (makes9 S (fo S a)) a m (nW (makes9 S (fo S a)))))) := hF15.wide (fun t z => by simp only [tgM, tgD, tgC, tgL] at z ⊢; omega)
  have hF24 := (hF3.wide (Q := fun t => (tgC a t ∨ tgC (nL S) t) ∨ (t.1 = 8 ∧ t.2 < 100)) (fun t z => Or.inl z)).tr (hF4.wide (fun t z => Or.inr z))
  have hG5 := (hG2.fr hF24 (fun t z => by simp only [tgD, tgC, tgL] at z ⊢; omega)).moved (v' := (mvm (makes9 S (fo S a)) a m (nW (makes9 S (fo S a)))))
  have hD5 : ∀ l, l < nL (makes9 S (fo S a)) → hI (sL σ4 132 (g (nD (makes9 S (fo S a)))) 0 (lN (mvm (makes9 S (fo S a)) a m (nW (makes9 S (fo S a)))))) 256 l 0 = hI σ1 256 l 0 ∧ hL (sL σ4 132 (g (nD (makes9 S (fo S a)))) 0 (lN (mvm (makes9 S (fo S a)) a m (nW (makes9 S (fo S a)))))) 257 l 0 = hL σ1 257 l 0 ∧ hR (sL σ4 132 (g (nD (makes9 S (fo S a)))) 0 (lN (mvm (makes9 S (fo S a)) a m (nW (makes9 S (fo S a)))))) 259 l 0 = hR σ1 259 l 0 ∧ hI (sL σ4 132 (g (nD (makes9 S (fo S a)))) 0 (lN (mvm (makes9 S (fo S a)) a m (nW (makes9 S (fo S a)))))) 258 l 0 = hI σ1 258 l 0 := fun l q9 => ⟨hF15.rI (f := 256) (by simp only [tgD, tgC, tgL]; omega), hF15.rL (f := 257) (by simp only [tgD, tgC, tgL]; omega), hF15.rR (f := 259) (by simp only [tgD, tgC, tgL]; omega), hF15.rI (f := 258) (by simp only [tgD, tgC, tgL]; omega)⟩
  refine j_aload_n (pc := 42) C dX4_splitOff_42 rfl 1 rfl ?_
  refine j_getI (pc := 43) C fp_X4_114 (hF45.at (hF4.at hAb3)) rfl (f := 256) rfl dX4_splitOff_43 ?_
  refine j_topi (nI (nL S)) (((hD5 (nL S) b1).1).trans (hl1.2.1 (nL S) b1).1) ?_
  exact j_ireturn (pc := 46) C Q dX4_splitOff_46 (Nat.le_of_ble_eq_true rfl) (Nat.le_of_ble_eq_true rfl) (⟨rfl, lx_split hp1 hw1 a1 b1 (by omega) k1 k2 k6 hF15M hG5 (XA3.fr hF35 (fun t z => by simp only [tgC] at z ⊢; omega)) (XB3.fr hF35 (fun t z => by simp only [tgC] at z ⊢; omega)) (hO4.fr hF45 (fun t z => by simp only [tgW, tgL] at z ⊢; omega) (by omega)) hD5, (hF1.wide (fun t z => Or.inl z)).tr (hF15M.wide (fun t z => tgM_Y (by omega) (by omega) z))⟩)
