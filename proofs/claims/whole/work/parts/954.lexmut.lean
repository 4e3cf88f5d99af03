set_option maxHeartbeats 4000000 in
set_option maxRecDepth 100000 in
theorem c_X4_begin (L9 : Launch) (w9 : Wd) {σ : HS} {S : SP} (hw : WF S) (hp : LX9 S σ) {a0 : Nat} (ha0 : At σ (5, 0) a0) {a b c d m its into : Nat} {x : Bool} (hb : At σ (4, a) b) (hd : At σ (4, c) d) (h1 : (if m = 1 then its else into) = a) (h2 : (if m = 1 then into else its) = c) (h3 : decide (m ≠ 1) = x) (h4 : (if x = true then ((4 : Nat), a) else (4, c)) = (4, into)) (hi : into < nL S) (ti : th S into = 1) : MJ L9 w9 yX4_begin cX4_begin 5 (some (.object "Fieldgrammar$Change")) ({ frames := 7, cells := 4, slots := 64, locals := 191 } : Room) [.ref a0, .ref b, .ref d, .int (bI x)] σ (fun a9 σ' => ∃ (g : Nat → Nat) (N : Nat), a9 = some (.ref (hG σ' (2, g (nD S)))) ∧ LXdG (S_deed S m its into 0) σ' g N ∧ Fr tgD σ σ') := by
  refine MJ.of (by decide +kernel) (Nat.le_of_ble_eq_true rfl) (fun X hX1 hX2 C Q hinit => ?_)
  subst hX1; subst hX2
  show J X 0 0 σ [(0, .ref a0), (1, .ref b), (2, .ref d), (3, .int (bI x))] [] 0
  have hpp := hp
  obtain ⟨hf, hl, hx, hv, hch⟩ := hp
  obtain ⟨y0, y1, y2, y3⟩ := id hf
  have gL := hw.2.2.1.1
  have gW := hw.2.2.2.1.1
  have gD := hw.2.2.2.2.1
  obtain ⟨g, N, hc1, hc2, hc3, hc4⟩ := hch
  obtain ⟨v2, v1, v12⟩ := hc4 N (Nat.le_refl _)
  refine j_new (pc := 0) C (k' := 1) (n' := 5) (rm0 := ({ frames := 7, cells := 4, slots := 64, locals := 191 } : Room)) (2, N) Q.1 np_X4_95 v2 dX4_begin_0 ⟨by decide, by decide⟩ rfl rfl (fun q => ?_)
  show J X 1 5 (sNew σ (2, N) q 0) [(0, .ref a0), (1, .ref b), (2, .ref d), (3, .int (bI x))] [.ref q] 3
  have hF1 : Fr (fun t => (t.1 = 2 ∧ t.2 = N) ∨ tgC (1000 + N) t) σ (sNew σ (2, N) q 0) := Fr.rf.new v2 (Or.inl ⟨rfl, rfl⟩)
  refine j_dup (pc := 3) C dX4_begin_3 rfl ?_
  refine j_aload_n (pc := 4) C dX4_begin_4 rfl 1 rfl ?_
  refine j_aload_n (pc := 5) C dX4_begin_5 rfl 2 rfl ?_
  refine j_iload_n (pc := 6) C dX4_begin_6 rfl 3 rfl ?_
  refine j_callI (pc := 7) C [.ref b, .ref d, .int (bI x)] [.ref q] (rm0 := ({ frames := 7, cells := 4, slots := 64, locals := 191 } : Room)) (k' := 3) (n' := 15) Q.1 (c_X1_init (xl X) (xw X) (σ := sNew σ (2, N) q 0) (s := N) At.new (hF1.at hb) (hF1.at hd) x ((new_V (fun z => absurd (congrArg Prod.fst z) (show ¬ (1 : Nat) = 2 by decide))).trans v1) ((new_V (fun z => absurd (congrArg Prod.fst z) (show ¬ (12 : Nat) = 2 by decide))).trans v12)) mp_X1_init wm_831 rfl rfl (Nat.le_of_ble_eq_true rfl) dX4_begin_7 ⟨by decide, by decide⟩ ⟨Nat.le_of_ble_eq_true rfl, Nat.le_of_ble_eq_true rfl⟩ rfl rfl (fun v8 σ2 hp8 => ?_)
  obtain ⟨rfl, hC, e1, e2, e3, e4, e50, hF8⟩ := hp8
  have e5 : hL σ2 132 N 0 = lN 0 := e50.trans (new_L (t := (2, N)) (f := 132) rfl)
  have hF2 : Fr (fun t => (t.1 = 2 ∧ t.2 = N) ∨ tgC (1000 + N) t) σ σ2 := hF1.tr hF8
  have hA2 : At σ2 (2, N) q := hF8.at At.new
  show J X 3 15 σ2 [(0, .ref a0), (1, .ref b), (2, .ref d), (3, .int (bI x))] [.ref q] 10
  have hX2 := ((hx into hi).t ti).fr hF2 (fun t z => by simp only [tgC] at z ⊢; omega)
  have r4 : hR σ2 259 into 0 = some (1, into) := (hF2.rR (f := 259) (by simp only [tgC]; omega)).trans (hl.2.1 into hi).2.2.2
  have v4i : hV σ2 (4, into) = true := hF2.live (hl.1.live hi)
  refine j_astore (pc := 10) C [(4, .ref q), (0, .ref a0), (1, .ref b), (2, .ref d), (3, .int (bI x))] dX4_begin_10 (by decide) rfl ?_
  refine j_aload (pc := 12) C dX4_begin_12 0 rfl ?_
  refine j_getA (pc := 14) C fp_X4_120 hA2 rfl (f := 131) rfl (1, 1000 + N) (hG σ2 (1, 1000 + N)) e4 (⟨hC.1, rfl⟩ : At _ (1, 1000 + N) _) dX4_begin_14 ?_
  refine j_aload (pc := 17) C dX4_begin_17 0 rfl ?_
  refine j_callV (pc := 19) C [] [.ref (hG σ2 (1, 1000 + N))] (rm0 := ({ frames := 7, cells := 4, slots := 64, locals := 191 } : Room)) (k' := 3) (n' := 15) Q.1 (MJ.at hA2 (c_X1_staying (xl X) (xw X) ⟨hA2.1, rfl⟩ e1 (hF2.live hb.1) e2 (hF2.live hd.1) e3)) mp_X1_staying wm_857 hA2 rfl rfl (Nat.le_of_ble_eq_true rfl) rfl rfl (Nat.le_of_ble_eq_true rfl) dX4_begin_19 ⟨by decide, by decide⟩ ⟨Nat.le_of_ble_eq_true rfl, Nat.le_of_ble_eq_true rfl⟩ rfl rfl (det1 ?_)
  rw [h4]
  show J X 3 15 σ2 [(4, .ref q), (0, .ref a0), (1, .ref b), (2, .ref d), (3, .int (bI x))] [.ref (hG σ2 (4, into)), .ref (hG σ2 (1, 1000 + N))] 22
  refine j_getA (pc := 22) C fp_X4_80 (⟨v4i, rfl⟩ : At _ (4, into) _) rfl (f := 259) rfl (1, into) (hG σ2 (1, into)) r4 (⟨hX2.1, rfl⟩ : At _ (1, into) _) dX4_begin_22 ?_
  refine j_callV (pc := 25) C [.ref (hG σ2 (1, into))] [] (rm0 := ({ frames := 7, cells := 4, slots := 64, locals := 191 } : Room)) (k' := 3) (n' := 15) Q.1 (c_X0_copyFrom (xl X) (xw X) hC hX2 (by omega) ⟨hC.1, rfl⟩ ⟨hX2.1, rfl⟩) mp_X0_copyFrom wm_861 (⟨hC.1, rfl⟩ : At _ (1, 1000 + N) _) rfl rfl (Nat.le_of_ble_eq_true rfl) rfl rfl (Nat.le_of_ble_eq_true rfl) dX4_begin_25 ⟨by decide, by decide⟩ ⟨Nat.le_of_ble_eq_true rfl, Nat.le_of_ble_eq_true rfl⟩ rfl rfl (fun v8 σ3 hp8 => ?_)
  obtain ⟨rfl, hC3, hF3⟩ := hp8
  have hF23 : Fr (fun t => (t.1 = 2 ∧ t.2 = N) ∨ tgC (1000 + N) t) σ σ3 := hF2.tr (hF3.wide (fun t z => Or.inr z))
  have hl3 := hc1.fr hF23 (fun t z => by simp only [tgC, tgL] at z ⊢; omega)
  have hA3 := hF3.at hA2
  show J X 3 15 σ3 [(4, .ref q), (0, .ref a0), (1, .ref b), (2, .ref d), (3, .int (bI x))] [] 28
  refine j_aload_n (pc := 28) C dX4_begin_28 rfl 1 rfl ?_
  refine j_getA (pc := 29) C fp_X4_21 (hF23.at ha0) rfl (f := 322) rfl (0, 5) (hG σ3 (0, 5)) ((hF23.rR (f := 322) (by simp only [tgC]; omega)).trans y3) (⟨hl3.self, rfl⟩ : At _ (0, 5) _) dX4_begin_29 ?_
  refine j_aload (pc := 32) C dX4_begin_32 0 rfl ?_
  refine j_callV (pc := 34) C [.ref q] [] (rm0 := ({ frames := 7, cells := 4, slots := 64, locals := 191 } : Room)) (k' := 4) (n' := 64) Q.1 (k_addS (xl X) (xw X) (g := fun d => (2, if d = nD S then N else g d)) hl3 (by omega) (by show At _ (2, if nD S = nD S then N else g (nD S)) _; rw [if_pos rfl]; exact hA3) (show (2 : Nat) < 11 by decide) (fun p hp => by show ((2 : Nat), g p) = (2, if p = nD S then N else g p); rw [if_neg (by omega)]) ⟨hl3.self, rfl⟩) mp_Jx4a65c_add_9ea2d wm_628 (⟨hl3.self, rfl⟩ : At _ (0, 5) _) rfl rfl (by decide) rfl rfl (Nat.le_of_ble_eq_true rfl) dX4_begin_34 ⟨by decide, by decide⟩ ⟨Nat.le_of_ble_eq_true rfl, Nat.le_of_ble_eq_true rfl⟩ rfl rfl (fun v8 σ4 hp8 => ?_)
  obtain ⟨rfl, hL4, hF4⟩ := hp8
  have hA4 := hF4.at hA3
  have hq4 : q = hG σ4 (2, N) := hA4.2.symm
  have hF34 : Fr (fun t => tgC (1000 + N) t ∨ tgL 5 t) σ2 σ4 := (hF3.wide (fun t z => Or.inl z)).tr (hF4.wide (fun t z => Or.inr z))
  have hF24 : Fr (fun t => (t.1 = 2 ∧ t.2 = N) ∨ tgC (1000 + N) t ∨ tgL 5 t) σ σ4 := (hF23.wide (fun t z => by simp only [tgC, tgL] at z ⊢; omega)).tr (hF4.wide (fun t z => Or.inr (Or.inr z)))
  show J X 4 64 σ4 [(4, .ref q), (0, .ref a0), (1, .ref b), (2, .ref d), (3, .int (bI x))] [.int (bI true)] 37
  refine j_pop (pc := 37) C dX4_begin_37 rfl ?_
  refine j_aload (pc := 38) C dX4_begin_38 0 rfl ?_
  exact j_areturn (pc := 40) C Q (Or.inl ⟨_, rfl⟩) (Or.inr ⟨_, rfl⟩) dX4_begin_40 (Nat.le_of_ble_eq_true rfl) (Nat.le_of_ble_eq_true rfl) (⟨fun d => if d = nD S then N else g d, N + 1, by show some (Value.ref q) = some (Value.ref (hG σ4 (2, if nD S = nD S then N else g (nD S)))); rw [if_pos rfl, hq4], LXd_new (fun d q => (hc2 d q).1) hc3 (fun d q => (hc2 d q).2.fr hF24 (by have := (hc2 d q).1; simp only [tgC, tgL]; omega) (fun t z => by have := (hc2 d q).1; simp only [tgC, tgL] at z ⊢; omega)) hL4 (by rw [h1]; exact (hF34.rR (f := 128) (by simp only [tgC, tgL]; omega)).trans e1) (by rw [h2]; exact (hF34.rR (f := 129) (by simp only [tgC, tgL]; omega)).trans e2) (by rw [h3]; exact (hF34.rI (f := 130) (by simp only [tgC, tgL]; omega)).trans e3) ((hF34.rR (f := 131) (by simp only [tgC, tgL]; omega)).trans e4) ((hF34.rL (f := 132) (by simp only [tgC, tgL]; omega)).trans e5) (hC3.fr hF4 (fun t z => by simp only [tgC, tgL] at z ⊢; omega)) (fun _ _ => rfl) (fun s q => ⟨(hF24.rV (by simp only [tgC, tgL]; omega)).trans (hc4 s (by omega)).1, (hF24.rV (by simp only [tgC, tgL]; omega)).trans (hc4 s (by omega)).2.1, (hF24.rV (by simp only [tgC, tgL]; omega)).trans (hc4 s (by omega)).2.2⟩), hF24.wide (fun t z => by simp only [tgD, tgC, tgL] at z ⊢; omega)⟩)
