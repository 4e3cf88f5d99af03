set_option maxHeartbeats 4000000 in
set_option maxRecDepth 100000 in
theorem c_X4_addWord (L9 : Launch) (w9 : Wd) {σ : HS} {S : SP} (hw : WF S) (hp : LX9 S σ) {a0 : Nat} (ha0 : At σ (5, 0) a0) {l b c p : Nat} {r : List Nat} (hb : At σ (4, l) b) (hn : nW S < 40) : MJ L9 w9 yX4_addWord cX4_addWord 6 (some .int) ({ frames := 7, cells := 2, slots := 54, locals := 191 } : Room) [.ref a0, .ref b, .int (nI c), .int (nI p), .long (enc5 r)] σ (fun a9 σ' => a9 = some (.int (nI (nW S))) ∧ LX9 (S_word S l c p r) σ' ∧ Fr tgW σ σ') := by
  refine MJ.of (by decide +kernel) (Nat.le_of_ble_eq_true rfl) (fun X hX1 hX2 C Q hinit => ?_)
  subst hX1; subst hX2
  show J X 0 0 σ [(0, .ref a0), (1, .ref b), (2, .int (nI c)), (3, .int (nI p)), (4, .long (enc5 r))] [] 0
  have hpp := hp
  obtain ⟨hf, hl, hx, hv, hch⟩ := hp
  obtain ⟨y0, y1, y2, y3⟩ := id hf
  have gL := hw.2.2.1.1
  have gW := hw.2.2.2.1.1
  have gD := hw.2.2.2.2.1
  have v8 := hv.2.2 (nW S) (Nat.le_refl _) (by omega)
  refine j_aload_n (pc := 0) C dX4_addWord_0 rfl 0 rfl ?_
  refine j_getA (pc := 1) C fp_X4_18 ha0 rfl (f := 321) rfl (0, 4) (hG σ (0, 4)) y2 (⟨hv.1.self, rfl⟩ : At _ (0, 4) _) dX4_addWord_1 ?_
  refine j_new (pc := 4) C (k' := 1) (n' := 5) (rm0 := ({ frames := 7, cells := 2, slots := 54, locals := 191 } : Room)) (8, nW S) Q.1 np_X4_38 v8 dX4_addWord_4 ⟨by decide, by decide⟩ rfl rfl (fun q => ?_)
  show J X 1 5 (sNew σ (8, nW S) q 0) [(0, .ref a0), (1, .ref b), (2, .int (nI c)), (3, .int (nI p)), (4, .long (enc5 r))] [.ref q, .ref (hG σ (0, 4))] 7
  have hF1 : Fr (fun t => t.1 = 8 ∧ t.2 = nW S) σ (sNew σ (8, nW S) q 0) := Fr.rf.new v8 ⟨rfl, rfl⟩
  refine j_dup (pc := 7) C dX4_addWord_7 rfl ?_
  refine j_aload_n (pc := 8) C dX4_addWord_8 rfl 1 rfl ?_
  refine j_iload_n (pc := 9) C dX4_addWord_9 rfl 2 rfl ?_
  refine j_iload_n (pc := 10) C dX4_addWord_10 rfl 3 rfl ?_
  refine j_lload (pc := 11) C dX4_addWord_11 4 rfl ?_
  refine j_callI (pc := 13) C [.ref b, .int (nI c), .int (nI p), .long (enc5 r)] [.ref q, .ref (hG σ (0, 4))] (rm0 := ({ frames := 7, cells := 2, slots := 54, locals := 191 } : Room)) (k' := 1) (n' := 5) Q.1 (c_X8_init (xl X) (xw X) (u := nW S) At.new (hF1.at hb) (nI c) (nI p) (enc5 r)) mp_X8_init wm_752 rfl rfl (Nat.le_of_ble_eq_true rfl) dX4_addWord_13 ⟨by decide, by decide⟩ ⟨Nat.le_of_ble_eq_true rfl, Nat.le_of_ble_eq_true rfl⟩ rfl rfl (det0 ?_)
  have hF2 : Fr (fun t => t.1 = 8 ∧ t.2 = nW S) σ (sL (sI (sI (sR (sNew σ (8, nW S) q 0) 512 (nW S) 0 (some (4, l))) 513 (nW S) 0 (nI c)) 514 (nW S) 0 (nI p)) 515 (nW S) 0 (enc5 r)) := (((hF1.sR ⟨rfl, rfl⟩).sI ⟨rfl, rfl⟩).sI ⟨rfl, rfl⟩).sL ⟨rfl, rfl⟩
  have hA8 : At (sL (sI (sI (sR (sNew σ (8, nW S) q 0) 512 (nW S) 0 (some (4, l))) 513 (nW S) 0 (nI c)) 514 (nW S) 0 (nI p)) 515 (nW S) 0 (enc5 r)) (8, nW S) q := At.new
  have e1 : hR (sL (sI (sI (sR (sNew σ (8, nW S) q 0) 512 (nW S) 0 (some (4, l))) 513 (nW S) 0 (nI c)) 514 (nW S) 0 (nI p)) 515 (nW S) 0 (enc5 r)) 512 (nW S) 0 = some (4, l) := up3_eq
  have e2 : hI (sL (sI (sI (sR (sNew σ (8, nW S) q 0) 512 (nW S) 0 (some (4, l))) 513 (nW S) 0 (nI c)) 514 (nW S) 0 (nI p)) 515 (nW S) 0 (enc5 r)) 513 (nW S) 0 = nI c := (show up3 (up3 (hI (sNew σ (8, nW S) q 0)) 513 (nW S) 0 (nI c)) 514 (nW S) 0 (nI p) 513 (nW S) 0 = nI c from (up3_ne (fun z => absurd z.1 (by decide))).trans up3_eq)
  have e3 : hI (sL (sI (sI (sR (sNew σ (8, nW S) q 0) 512 (nW S) 0 (some (4, l))) 513 (nW S) 0 (nI c)) 514 (nW S) 0 (nI p)) 515 (nW S) 0 (enc5 r)) 514 (nW S) 0 = nI p := up3_eq
  have e4 : hL (sL (sI (sI (sR (sNew σ (8, nW S) q 0) 512 (nW S) 0 (some (4, l))) 513 (nW S) 0 (nI c)) 514 (nW S) 0 (nI p)) 515 (nW S) 0 (enc5 r)) 515 (nW S) 0 = enc5 r := up3_eq
  have e5 : hI (sL (sI (sI (sR (sNew σ (8, nW S) q 0) 512 (nW S) 0 (some (4, l))) 513 (nW S) 0 (nI c)) 514 (nW S) 0 (nI p)) 515 (nW S) 0 (enc5 r)) 516 (nW S) 0 = nI 0 := (show up3 (up3 (hI (sNew σ (8, nW S) q 0)) 513 (nW S) 0 (nI c)) 514 (nW S) 0 (nI p) 516 (nW S) 0 = nI 0 from (up3_ne (fun z => absurd z.1 (by decide))).trans ((up3_ne (fun z => absurd z.1 (by decide))).trans (new_I (t := (8, nW S)) (f := 516) rfl)))
  have hl2 := hv.1.fr hF2 (fun t z => by simp only [tgL] at z ⊢; omega)
  generalize sL (sI (sI (sR (sNew σ (8, nW S) q 0) 512 (nW S) 0 (some (4, l))) 513 (nW S) 0 (nI c)) 514 (nW S) 0 (nI p)) 515 (nW S) 0 (enc5 r) = σ2 at hF2 hA8 e1 e2 e3 e4 e5 hl2 ⊢
  show J X 1 5 σ2 [(0, .ref a0), (1, .ref b), (2, .int (nI c)), (3, .int (nI p)), (4, .long (enc5 r))] [.ref q, .ref (hG σ (0, 4))] 16
  refine j_callV (pc := 16) C [.ref q] [] (rm0 := ({ frames := 7, cells := 2, slots := 54, locals := 191 } : Room)) (k' := 2) (n' := 54) Q.1 (k_addS (xl X) (xw X) (g := fun u => (8, u)) hl2 (by omega) hA8 (show (8 : Nat) < 11 by decide) (fun _ _ => rfl) (hF2.at (⟨hv.1.self, rfl⟩ : At σ (0, 4) _))) mp_Jx4a65c_add_9ea2d wm_628 (hF2.at (⟨hv.1.self, rfl⟩ : At σ (0, 4) _)) rfl rfl (by decide) rfl rfl (Nat.le_of_ble_eq_true rfl) dX4_addWord_16 ⟨by decide, by decide⟩ ⟨Nat.le_of_ble_eq_true rfl, Nat.le_of_ble_eq_true rfl⟩ rfl rfl (fun v8 σ3 hp8 => ?_)
  obtain ⟨rfl, hL3, hF3⟩ := hp8
  have hF23 : Fr tgW σ σ3 := (hF2.wide (fun t z => by simp only [tgW, tgL] at z ⊢; omega)).tr (hF3.wide (fun t z => by simp only [tgW, tgL] at z ⊢; omega))
  have y23 : hR σ3 321 0 0 = some (0, 4) := (hF23.rR (f := 321) (by simp only [tgW, tgL]; omega)).trans y2
  have v04 := hL3.self
  show J X 2 54 σ3 [(0, .ref a0), (1, .ref b), (2, .int (nI c)), (3, .int (nI p)), (4, .long (enc5 r))] [.int (bI true)] 19
  refine j_pop (pc := 19) C dX4_addWord_19 rfl ?_
  refine j_aload_n (pc := 20) C dX4_addWord_20 rfl 0 rfl ?_
  refine j_getA (pc := 21) C fp_X4_18 (hF23.at ha0) rfl (f := 321) rfl (0, 4) (hG σ3 (0, 4)) y23 (⟨v04, rfl⟩ : At _ (0, 4) _) dX4_addWord_21 ?_
  refine j_callV (pc := 24) C [] [] (rm0 := ({ frames := 7, cells := 2, slots := 54, locals := 191 } : Room)) (k' := 2) (n' := 54) Q.1 (k_size (xl X) (xw X) hL3 ⟨v04, rfl⟩) mp_Jx4a65c_size_8abf5 wm_247 (⟨v04, rfl⟩ : At _ (0, 4) _) rfl rfl (by decide) rfl rfl (Nat.le_of_ble_eq_true rfl) dX4_addWord_24 ⟨by decide, by decide⟩ ⟨Nat.le_of_ble_eq_true rfl, Nat.le_of_ble_eq_true rfl⟩ rfl rfl (det1 ?_)
  refine j_iconst (pc := 27) C (nI 1) dX4_addWord_27 (by decide) ?_
  refine j_isub (pc := 28) C dX4_addWord_28 ?_
  refine j_topi (nI (nW S)) (pk_sub (a := nW S + 1) (b := 1) (by omega)) ?_
  exact j_ireturn (pc := 29) C Q dX4_addWord_29 (Nat.le_of_ble_eq_true rfl) (Nat.le_of_ble_eq_true rfl) (⟨rfl, hpp.addW hw hF23 hL3 (fun u q9 => ((hv.2.1 u q9).fr hF2 (by simp; omega)).fr hF3 (by simp only [tgL]; omega)) ((hF3.rR (f := 512) (by simp only [tgL]; omega)).trans e1) ((hF3.rI (f := 513) (by simp only [tgL]; omega)).trans e2) ((hF3.rI (f := 514) (by simp only [tgL]; omega)).trans e3) ((hF3.rL (f := 515) (by simp only [tgL]; omega)).trans e4) ((hF3.rI (f := 516) (by simp only [tgL]; omega)).trans e5) (fun u q1 q2 => (hF3.rV (by simp only [tgL]; omega)).trans ((hF2.rV (by simp; omega)).trans (hv.2.2 u (by omega) q2))), hF23⟩)
