def tgY (t : Tg) : Prop := tgX t ∨ tgW t ∨ tgD t
set_option maxHeartbeats 4000000 in
set_option maxRecDepth 100000 in
theorem c_X4_addLexeme (L9 : Launch) (w9 : Wd) {σ : HS} {S : SP} (hw : WF S) (hp : LX9 S σ) {a0 : Nat} (ha0 : At σ (5, 0) a0) {r : List Nat} (hn : nL S < 16) : MJ L9 w9 yX4_addLexeme cX4_addLexeme 4 (some (.object "Fieldgrammar$Lexeme")) ({ frames := 7, cells := 4, slots := 63, locals := 191 } : Room) [.ref a0, .long (enc5 r)] σ (fun a9 σ' => a9 = some (.ref (hG σ' (4, nL S))) ∧ LX9 (makes9 S r) σ' ∧ Fr tgX σ σ') := by
  refine MJ.of (by decide +kernel) (Nat.le_of_ble_eq_true rfl) (fun X hX1 hX2 C Q hinit => ?_)
  subst hX1; subst hX2
  show J X 0 0 σ [(0, .ref a0), (1, .long (enc5 r))] [] 0
  have hpp := hp
  obtain ⟨hf, hl, hx, hv, hch⟩ := hp
  obtain ⟨y0, y1, y2, y3⟩ := id hf
  have gL := hw.2.2.1.1
  have gW := hw.2.2.2.1.1
  have gD := hw.2.2.2.2.1
  obtain ⟨v4, v1, v12⟩ := hl.2.2 (nL S) (Nat.le_refl _) (by omega)
  refine j_new (pc := 0) C (k' := 1) (n' := 4) (rm0 := ({ frames := 7, cells := 4, slots := 63, locals := 191 } : Room)) (4, nL S) Q.1 np_X4_32 v4 dX4_addLexeme_0 ⟨by decide, by decide⟩ rfl rfl (fun q => ?_)
  show J X 1 4 (sNew σ (4, nL S) q 0) [(0, .ref a0), (1, .long (enc5 r))] [.ref q] 3
  have hF1 : Fr (fun t => (t.1 = 4 ∧ t.2 = nL S) ∨ tgC (nL S) t) σ (sNew σ (4, nL S) q 0) := Fr.rf.new v4 (Or.inl ⟨rfl, rfl⟩)
  refine j_dup (pc := 3) C dX4_addLexeme_3 rfl ?_
  refine j_aload_n (pc := 4) C dX4_addLexeme_4 rfl 0 rfl ?_
  refine j_getA (pc := 5) C fp_X4_12 (hF1.at ha0) rfl (f := 320) rfl (0, 3) (hG (sNew σ (4, nL S) q 0) (0, 3)) ((hF1.rR (f := 320) (i := 0) (j := 0) (by simp only [tgC]; omega)).trans y1) (⟨hF1.live hl.1.self, rfl⟩ : At _ (0, 3) _) dX4_addLexeme_5 ?_
  refine j_callV (pc := 8) C [] [.ref q, .ref q] (rm0 := ({ frames := 7, cells := 4, slots := 63, locals := 191 } : Room)) (k' := 1) (n' := 4) Q.1 (k_size (xl X) (xw X) (hl.1.fr hF1 (fun t z => by simp only [tgC, tgL] at z ⊢; omega)) (⟨hF1.live hl.1.self, rfl⟩ : At _ (0, 3) _)) mp_Jx4a65c_size_8abf5 wm_247 (⟨hF1.live hl.1.self, rfl⟩ : At _ (0, 3) _) rfl rfl (by decide) rfl rfl (Nat.le_of_ble_eq_true rfl) dX4_addLexeme_8 ⟨by decide, by decide⟩ ⟨Nat.le_of_ble_eq_true rfl, Nat.le_of_ble_eq_true rfl⟩ rfl rfl (det1 ?_)
  refine j_lload_n (pc := 11) C dX4_addLexeme_11 rfl 1 rfl ?_
  refine j_callI (pc := 12) C [.int (nI (nL S)), .long (enc5 r)] [.ref q] (rm0 := ({ frames := 7, cells := 4, slots := 63, locals := 191 } : Room)) (k' := 3) (n' := 14) Q.1 (c_X3_init (xl X) (xw X) (σ := sNew σ (4, nL S) q 0) (l := nL S) At.new (nI (nL S)) (enc5 r) ((new_V (fun z => absurd (congrArg Prod.fst z) (show ¬ (1 : Nat) = 4 by decide))).trans v1) ((new_V (fun z => absurd (congrArg Prod.fst z) (show ¬ (12 : Nat) = 4 by decide))).trans v12)) mp_X3_init wm_602 rfl rfl (Nat.le_of_ble_eq_true rfl) dX4_addLexeme_12 ⟨by decide, by decide⟩ ⟨Nat.le_of_ble_eq_true rfl, Nat.le_of_ble_eq_true rfl⟩ rfl rfl (fun v8 σ2 hp8 => ?_)
  obtain ⟨rfl, hC, e1, e2, e3, e4, hF8⟩ := hp8
  have hF2 : Fr (fun t => (t.1 = 4 ∧ t.2 = nL S) ∨ tgC (nL S) t) σ σ2 := hF1.tr hF8
  have hA4 : At σ2 (4, nL S) q := hF8.at At.new
  have e5 : hI σ2 258 (nL S) 0 = nI 0 := e3.trans (new_I (t := (4, nL S)) (f := 258) rfl)
  have hl2 := hl.1.fr hF2 (fun t z => by simp only [tgC, tgL] at z ⊢; omega)
  show J X 3 14 σ2 [(0, .ref a0), (1, .long (enc5 r))] [.ref q] 15
  refine j_astore_n (pc := 15) C [(3, .ref q), (0, .ref a0), (1, .long (enc5 r))] dX4_addLexeme_15 rfl (by decide) rfl ?_
  refine j_aload_n (pc := 16) C dX4_addLexeme_16 rfl 1 rfl ?_
  refine j_getA (pc := 17) C fp_X4_12 (hF2.at ha0) rfl (f := 320) rfl (0, 3) (hG σ2 (0, 3)) ((hF2.rR (f := 320) (i := 0) (j := 0) (by simp only [tgC]; omega)).trans y1) (⟨hF2.live hl.1.self, rfl⟩ : At _ (0, 3) _) dX4_addLexeme_17 ?_
  refine j_aload_n (pc := 20) C dX4_addLexeme_20 rfl 0 rfl ?_
  refine j_callV (pc := 21) C [.ref q] [] (rm0 := ({ frames := 7, cells := 4, slots := 63, locals := 191 } : Room)) (k' := 4) (n' := 63) Q.1 (k_addS (xl X) (xw X) (g := fun l => (4, l)) hl2 (by omega) hA4 (show (4 : Nat) < 11 by decide) (fun _ _ => rfl) ⟨hl2.self, rfl⟩) mp_Jx4a65c_add_9ea2d wm_628 (⟨hF2.live hl.1.self, rfl⟩ : At _ (0, 3) _) rfl rfl (by decide) rfl rfl (Nat.le_of_ble_eq_true rfl) dX4_addLexeme_21 ⟨by decide, by decide⟩ ⟨Nat.le_of_ble_eq_true rfl, Nat.le_of_ble_eq_true rfl⟩ rfl rfl (fun v8 σ3 hp8 => ?_)
  obtain ⟨rfl, hL3, hF3⟩ := hp8
  have hA3 := hF3.at hA4
  have hF23 : Fr tgX σ σ3 := (hF2.wide (fun t z => by simp only [tgX, tgC, tgL] at z ⊢; omega)).tr (hF3.wide (fun t z => by simp only [tgX, tgL] at z ⊢; omega))
  have hq3 : q = hG σ3 (4, nL S) := hA3.2.symm
  show J X 4 63 σ3 [(3, .ref q), (0, .ref a0), (1, .long (enc5 r))] [.int (bI true)] 24
  refine j_pop (pc := 24) C dX4_addLexeme_24 rfl ?_
  refine j_aload_n (pc := 25) C dX4_addLexeme_25 rfl 0 rfl ?_
  exact j_areturn (pc := 26) C Q (Or.inl ⟨_, rfl⟩) (Or.inr ⟨_, rfl⟩) dX4_addLexeme_26 (Nat.le_of_ble_eq_true rfl) (Nat.le_of_ble_eq_true rfl) (⟨by rw [hq3], hpp.addL hw hn hF23 hL3 (fun l q9 => ((hl.2.1 l q9).fr hF2 (by simp only [tgC]; omega)).fr hF3 (by simp only [tgL]; omega)) ((hF3.rI (f := 256) (by simp only [tgL]; omega)).trans e1) ((hF3.rL (f := 257) (by simp only [tgL]; omega)).trans e2) ((hF3.rI (f := 258) (by simp only [tgL]; omega)).trans e5) ((hF3.rR (f := 259) (by simp only [tgL]; omega)).trans e4) (fun l q9 => ((hx l q9).fr hF2 (fun t z => by simp only [tgC] at z ⊢; omega)).fr hF3 (fun t z => by simp only [tgC, tgL] at z ⊢; omega)) (hC.fr hF3 (fun t z => by simp only [tgC, tgL] at z ⊢; omega)) (fun l q1 q2 => ⟨(hF3.rV (by simp only [tgL]; omega)).trans ((hF2.rV (by simp only [tgC]; omega)).trans (hl.2.2 l (by omega) q2).1), (hF3.rV (by simp only [tgL]; omega)).trans ((hF2.rV (by simp only [tgC]; omega)).trans (hl.2.2 l (by omega) q2).2.1), (hF3.rV (by simp only [tgL]; omega)).trans ((hF2.rV (by simp only [tgC]; omega)).trans (hl.2.2 l (by omega) q2).2.2)⟩), hF23⟩)
