def tgF9 (t : Tg) : Prop := tgF5 t ∨ tgF4 t ∨ t = (6, 0) ∨ t = (5, 0) ∨ t = (1, 100) ∨ t = (12, 100)
section ST9
variable {P : Tg → Prop} {f0 : Nat} {t : Tg} {σ σ2 : HS}
theorem st9 (ht : t.1 ≠ 9) (hf : f0 / 64 = 9) (hP : ¬ P (9, 0)) {q : Nat} (hv : hV σ t = false) (h : Fr P (sNew σ t q 0) σ2) : Fr (fun u => P u ∨ u = t ∨ u = (9, 0)) σ (sR σ2 f0 0 0 (some t)) ∧ (∀ f, f / 64 = 9 → f ≠ f0 → hR (sR σ2 f0 0 0 (some t)) f 0 0 = hR σ f 0 0) ∧ hR (sR σ2 f0 0 0 (some t)) f0 0 0 = some t ∧ Fr (fun u => u = (9, 0)) σ2 (sR σ2 f0 0 0 (some t)) := by
  have e : Fr (fun u => P u ∨ u = t ∨ u = (9, 0)) σ (sNew σ t q 0) := Fr.rf.new hv (Or.inr (Or.inl rfl))
  refine ⟨(e.tr (h.wide (fun u z => Or.inl z))).sR (Or.inr (Or.inr (by rw [hf]))), fun f hf9 hne => ?_, sR_eq, Fr.rf.sR (by rw [hf])⟩
  exact (up3_ne (fun z => hne z.1)).trans ((h.rR (fun z => hP (by rw [hf9] at z; exact z))).trans (new_Rne (fun z => ht (z.1.symm.trans hf9))))
end ST9
theorem f4_1 {t : Tg} (ht : tgF4 t) : ¬ (tgPi t ∨ t = (6, 0) ∨ t = (9, 0)) := fun z => by
  rcases z with z | z | z
  · simp only [tgPi, tgF4] at z ht; omega
  · rw [z] at ht; unfold tgF4 at ht; exact absurd ht (by decide)
  · rw [z] at ht; unfold tgF4 at ht; exact absurd ht (by decide)
theorem p_2 {t : Tg} (z : tgP t) : ¬ (tgXi t ∨ t = (5, 0) ∨ t = (9, 0)) := fun y => by
  rcases y with y | y | y
  · simp only [tgXi, tgP] at y z; omega
  · rw [y] at z; unfold tgP at z; exact absurd z (by decide)
  · rw [y] at z; unfold tgP at z; exact absurd z (by decide)
theorem p_3 {t : Tg} (z : tgP t) : ¬ (tgC 100 t ∨ t = (1, 100) ∨ t = (9, 0)) := fun y => by
  rcases y with y | y | y
  · simp only [tgC, tgP] at y z; omega
  · rw [y] at z; unfold tgP at z; exact absurd z (by decide)
  · rw [y] at z; unfold tgP at z; exact absurd z (by decide)
theorem x_3 {t : Tg} (z : (t.1 = 5 ∧ t.2 = 0) ∨ tgX t ∨ tgW t ∨ tgD t) : ¬ (tgC 100 t ∨ t = (1, 100) ∨ t = (9, 0)) := fun y => by
  have h : (t.1 = 1 ∧ t.2 = 100) ∨ (t.1 = 12 ∧ t.2 = 100) ∨ (t.1 = 9 ∧ t.2 = 0) := by
    rcases y with y | y | y
    · exact y.1.elim (fun q => Or.inl ⟨q, y.2⟩) (fun q => Or.inr (Or.inl ⟨q, y.2⟩))
    · rw [y]; exact Or.inl ⟨rfl, rfl⟩
    · rw [y]; exact Or.inr (Or.inr ⟨rfl, rfl⟩)
  simp only [tgX, tgW, tgD, tgL] at z
  omega
theorem tgPi_U {t : Tg} (z : tgPi t) : tgU t := by
  simp only [tgPi] at z
  rcases z with z | z | z | z | z
  · exact Or.inl (Or.inl (Or.inl z))
  · exact Or.inl (Or.inl (Or.inr (Or.inl z)))
  · exact Or.inl (Or.inl (Or.inr (Or.inr (Or.inr (Or.inr (Or.inl z))))))
  · exact Or.inl (Or.inl (Or.inr (Or.inr (Or.inl z.1))))
  · exact Or.inr z
theorem tgXi_U {t : Tg} (z : tgXi t) : tgU t := by
  rcases z with z | z
  · exact Or.inl (Or.inr (Or.inr (Or.inl z)))
  · have h : t.2 = 3 ∨ t.2 = 4 ∨ t.2 = 5 := by omega
    rcases h with h | h | h
    · exact Or.inl (Or.inr (Or.inr (Or.inr (Or.inl (Or.inr (Or.inl (Or.inl ⟨z.1, h⟩)))))))
    · exact Or.inl (Or.inr (Or.inr (Or.inr (Or.inr (Or.inl (Or.inr (Or.inl ⟨z.1, h⟩)))))))
    · exact Or.inl (Or.inr (Or.inr (Or.inr (Or.inr (Or.inr (Or.inl (Or.inr (Or.inl (Or.inl ⟨z.1, h⟩)))))))))
theorem tgC_U {t : Tg} (z : tgC 100 t) : tgU t := Or.inl (Or.inr (Or.inl z))
theorem tg9_U {t : Tg} (z : t = (9, 0)) : tgU t := tg99_U (by rw [z]; exact ⟨rfl, rfl⟩)
set_option maxHeartbeats 4000000 in
set_option maxRecDepth 100000 in
theorem c_X9_init (L9 : Launch) (w9 : Wd) {σ : HS} {a0 : Nat} (ha0 : At σ (9, 0) a0) (hz : ∀ t, tgF9 t → hV σ t = false) : MJ L9 w9 yX9_init cX9_init 1 none ({ frames := 5, cells := 15, slots := 207, locals := 92 } : Room) [.ref a0] σ (fun a9 σ' => a9 = none ∧ CI S00 σ' ∧ Fr tgU σ σ') := by
  refine MJ.of (by decide +kernel) (Nat.le_of_ble_eq_true rfl) (fun X hX1 hX2 C Q hinit => ?_)
  subst hX1; subst hX2
  show J X 0 0 σ [(0, .ref a0)] [] 0
  have hv1 : hV σ (6, 0) = false := hz _ (Or.inr (Or.inr (Or.inl rfl)))
  refine j_aload_n (pc := 0) C dX9_init_0 rfl 0 rfl ?_
  refine j_objInit (pc := 1) C (rm0 := ({ frames := 5, cells := 15, slots := 207, locals := 92 } : Room)) Q.1 wm_86 wm_87 wm_88 rfl dX9_init_1 ⟨by decide, by decide⟩ ?_
  refine j_aload_n (pc := 4) C dX9_init_4 rfl 0 rfl ?_
  refine j_new (pc := 5) C (k' := 1) (n' := 10) (rm0 := ({ frames := 5, cells := 15, slots := 207, locals := 92 } : Room)) (6, 0) Q.1 np_X9_7 hv1 dX9_init_5 ⟨by decide, by decide⟩ rfl rfl (fun q1 => ?_)
  show J X 1 10 (sNew σ (6, 0) q1 0) [(0, .ref a0)] [.ref q1, .ref a0] 8
  refine j_dup (pc := 8) C dX9_init_8 rfl ?_
  refine j_callIN (pc := 9) C [] [.ref q1, .ref a0] (host := "Fieldgrammar") (rm0 := ({ frames := 5, cells := 15, slots := 207, locals := 92 } : Room)) (k' := 9) (n' := 185) Q.1 (c_X5_init (xl X) (xw X) (At.new (σ := σ) (t := (6, 0)) (q := q1) (n := 0)) (new_I (t := (6, 0)) rfl) (new_I (t := (6, 0)) rfl) (fun t ht => (new_V (t := (6, 0)) (fun z => by rw [z] at ht; unfold tgF5 at ht; exact absurd ht (by decide))).trans (hz t (Or.inl ht)))) mp_X5_init (by decide +kernel) rfl rfl (Nat.le_of_ble_eq_true rfl) dX9_init_9 ⟨by decide, by decide⟩ ⟨Nat.le_of_ble_eq_true rfl, Nat.le_of_ble_eq_true rfl⟩ rfl rfl (fun v8 σ2 hp8 => ?_)
  obtain ⟨rfl, hP2, hF2⟩ := hp8
  obtain ⟨hE1, hK1, hR1, hD1⟩ := st9 (f0 := 576) (t := (6, 0)) (show (6 : Nat) ≠ 9 by decide) rfl (by unfold tgPi; decide) hv1 hF2
  have hP3 := hP2.fr WF00 hD1 (fun t z y => by rw [y] at z; unfold tgP at z; exact absurd z (by decide))
  show J X 9 185 σ2 [(0, .ref a0)] [.ref q1, .ref a0] 12
  refine j_putR (pc := 12) C (6, 0) (hF2.at (At.new (σ := σ) (t := (6, 0)) (q := q1) (n := 0))).2 (Or.inl (hF2.at (At.new (σ := σ) (t := (6, 0)) (q := q1) (n := 0))).1) fp_X9_10 (hF2.at (ha0.ext (Ext.new hv1))) rfl rfl (Or.inr ⟨rfl, hinit rfl⟩) rfl (by decide) (f := 576) rfl dX9_init_12 ?_
  generalize sR σ2 576 0 0 (some (6, 0)) = τ1 at hE1 hK1 hR1 hD1 hP3 ⊢
  show J X 9 185 τ1 [(0, .ref a0)] [] 15
  have hv2 : hV τ1 (5, 0) = false := (hE1.rV (by unfold tgPi; decide)).trans (hz _ (Or.inr (Or.inr (Or.inr (Or.inl rfl)))))
  refine j_aload_n (pc := 15) C dX9_init_15 rfl 0 rfl ?_
  refine j_new (pc := 16) C (k' := 10) (n' := 188) (rm0 := ({ frames := 5, cells := 15, slots := 207, locals := 92 } : Room)) (5, 0) Q.1 np_X9_16 hv2 dX9_init_16 ⟨by decide, by decide⟩ rfl rfl (fun q2 => ?_)
  show J X 10 188 (sNew τ1 (5, 0) q2 0) [(0, .ref a0)] [.ref q2, .ref a0] 19
  refine j_dup (pc := 19) C dX9_init_19 rfl ?_
  refine j_callIN (pc := 20) C [] [.ref q2, .ref a0] (host := "Fieldgrammar") (rm0 := ({ frames := 5, cells := 15, slots := 207, locals := 92 } : Room)) (k' := 13) (n' := 197) Q.1 (c_X4_init (xl X) (xw X) (At.new (σ := τ1) (t := (5, 0)) (q := q2) (n := 0)) (fun t ht => (new_V (t := (5, 0)) (fun z => by rw [z] at ht; unfold tgF4 at ht; exact absurd ht (by decide))).trans ((hE1.rV (f4_1 ht)).trans (hz t (Or.inr (Or.inl ht)))))) mp_X4_init (by decide +kernel) rfl rfl (Nat.le_of_ble_eq_true rfl) dX9_init_20 ⟨by decide, by decide⟩ ⟨Nat.le_of_ble_eq_true rfl, Nat.le_of_ble_eq_true rfl⟩ rfl rfl (fun v8 σ5 hp8 => ?_)
  obtain ⟨rfl, hX5, hF5⟩ := hp8
  obtain ⟨hE2, hK2, hR2, hD2⟩ := st9 (f0 := 577) (t := (5, 0)) (show (5 : Nat) ≠ 9 by decide) rfl (by unfold tgXi; decide) hv2 hF5
  have hX6 := hX5.fr WF00 hD2 (fun t z y => by rw [y] at z; simp only [tgX, tgW, tgD, tgL] at z; omega)
  show J X 13 197 σ5 [(0, .ref a0)] [.ref q2, .ref a0] 23
  refine j_putR (pc := 23) C (5, 0) (hF5.at (At.new (σ := τ1) (t := (5, 0)) (q := q2) (n := 0))).2 (Or.inl (hF5.at (At.new (σ := τ1) (t := (5, 0)) (q := q2) (n := 0))).1) fp_X9_19 (hF5.at ((hE1.at ha0).ext (Ext.new hv2))) rfl rfl (Or.inr ⟨rfl, hinit rfl⟩) rfl (by decide) (f := 577) rfl dX9_init_23 ?_
  generalize sR σ5 577 0 0 (some (5, 0)) = τ2 at hE2 hK2 hR2 hD2 hX6 ⊢
  show J X 13 197 τ2 [(0, .ref a0)] [] 26
  have hv3 : hV τ2 (1, 100) = false := (hE2.rV (by unfold tgXi; decide)).trans ((hE1.rV (by unfold tgPi; decide)).trans (hz _ (Or.inr (Or.inr (Or.inr (Or.inr (Or.inl rfl)))))))
  have hv4 : hV τ2 (12, 100) = false := (hE2.rV (by unfold tgXi; decide)).trans ((hE1.rV (by unfold tgPi; decide)).trans (hz _ (Or.inr (Or.inr (Or.inr (Or.inr (Or.inr rfl)))))))
  refine j_aload_n (pc := 26) C dX9_init_26 rfl 0 rfl ?_
  refine j_new (pc := 27) C (k' := 14) (n' := 199) (rm0 := ({ frames := 5, cells := 15, slots := 207, locals := 92 } : Room)) (1, 100) Q.1 np_X9_23 hv3 dX9_init_27 ⟨by decide, by decide⟩ rfl rfl (fun q3 => ?_)
  show J X 14 199 (sNew τ2 (1, 100) q3 0) [(0, .ref a0)] [.ref q3, .ref a0] 30
  refine j_dup (pc := 30) C dX9_init_30 rfl ?_
  refine j_callIN (pc := 31) C [] [.ref q3, .ref a0] (host := "Fieldgrammar") (rm0 := ({ frames := 5, cells := 15, slots := 207, locals := 92 } : Room)) (k' := 15) (n' := 207) Q.1 (c_X0_init (xl X) (xw X) (At.new (σ := τ2) (t := (1, 100)) (q := q3) (n := 0)) (new_I (t := (1, 100)) rfl) ((new_V (t := (1, 100)) (by decide)).trans hv4)) mp_X0_init (by decide +kernel) rfl rfl (Nat.le_of_ble_eq_true rfl) dX9_init_31 ⟨by decide, by decide⟩ ⟨Nat.le_of_ble_eq_true rfl, Nat.le_of_ble_eq_true rfl⟩ rfl rfl (fun v8 σ8 hp8 => ?_)
  obtain ⟨rfl, hC8, hF8⟩ := hp8
  obtain ⟨hE3, hK3, hR3, hD3⟩ := st9 (f0 := 578) (t := (1, 100)) (show (1 : Nat) ≠ 9 by decide) rfl (by unfold tgC; decide) hv3 hF8
  have hC9 := hC8.fr hD3 (fun t z y => by rw [y] at z; unfold tgC at z; exact absurd z (by decide))
  show J X 15 207 σ8 [(0, .ref a0)] [.ref q3, .ref a0] 34
  refine j_putR (pc := 34) C (1, 100) (hF8.at (At.new (σ := τ2) (t := (1, 100)) (q := q3) (n := 0))).2 (Or.inl (hF8.at (At.new (σ := τ2) (t := (1, 100)) (q := q3) (n := 0))).1) fp_X9_26 (hF8.at ((hE2.at (hE1.at ha0)).ext (Ext.new hv3))) rfl rfl (Or.inr ⟨rfl, hinit rfl⟩) rfl (by decide) (f := 578) rfl dX9_init_34 ?_
  generalize sR σ8 578 0 0 (some (1, 100)) = τ3 at hE3 hK3 hR3 hD3 hC9 ⊢
  show J X 15 207 τ3 [(0, .ref a0)] [] 37
  refine j_aload_n (pc := 37) C dX9_init_37 rfl 0 rfl ?_
  refine j_lconst (pc := 38) C (lN 0) dX9_init_38 (by decide) ?_
  refine j_putL (pc := 39) C fp_X9_32 (hE3.at (hE2.at (hE1.at ha0))) rfl rfl (Or.inl rfl) rfl (by decide) (f := 579) rfl dX9_init_39 ?_
  have hE4 : Fr (fun u => u = (9, 0)) τ3 (sL τ3 579 0 0 (lN 0)) := Fr.rf.sL (f := 579) rfl
  have hE34 := (hE3.wide (Q := fun u => tgC 100 u ∨ u = (1, 100) ∨ u = (9, 0)) (fun t z => z)).tr (hE4.wide (fun t z => Or.inr (Or.inr z)))
  have hPe := (hP3.fr WF00 hE2 (fun t z => p_2 z)).fr WF00 hE34 (fun t z => p_3 z)
  have hXe := hX6.fr WF00 hE34 (fun t z => x_3 z)
  have hCe := hC9.fr hE4 (fun t z y => by rw [y] at z; unfold tgC at z; exact absurd z (by decide))
  have hAll : Fr tgU σ (sL τ3 579 0 0 (lN 0)) := (((hE1.wide (fun t z => z.elim tgPi_U (fun z => z.elim (fun z => by rw [z]; exact Or.inl (Or.inl (Or.inl ⟨rfl, rfl⟩))) tg9_U))).tr (hE2.wide (fun t z => z.elim tgXi_U (fun z => z.elim (fun z => by rw [z]; exact Or.inl (Or.inr (Or.inr (Or.inl ⟨rfl, rfl⟩)))) tg9_U)))).tr (hE3.wide (fun t z => z.elim tgC_U (fun z => z.elim (fun z => by rw [z]; exact tgC_U ⟨Or.inl rfl, rfl⟩) tg9_U)))).tr (hE4.wide (fun t z => tg9_U z))
  have hFe : FGf (sL τ3 579 0 0 (lN 0)) := ⟨hAll.live ha0.1, (hK3 576 rfl (by decide)).trans ((hK2 576 rfl (by decide)).trans hR1), (hK3 577 rfl (by decide)).trans hR2, hR3⟩
  exact j_vreturn (pc := 42) C Q dX9_init_42 (Nat.le_of_ble_eq_true rfl) (Nat.le_of_ble_eq_true rfl) (⟨rfl, ⟨hPe, ⟨_, hCe, fun c hc => S00_R.symm⟩, hXe, hFe, sL_eq.trans (by rw [show dr S00 = [] from S00_R]; rfl)⟩, hAll⟩)
