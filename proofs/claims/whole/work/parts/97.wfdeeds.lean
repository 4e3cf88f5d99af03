/-! deeds keep what holds of the spec's state -/
theorem deeds_le {n m : Nat} {D1 IM : Nat → Nat} (h1 : ∀ d, d < n → IM d ≤ 1 ∧ D1 d < m) (h2 : ∀ i j, i < j → j < n → D1 i = D1 j → IM i = 0 ∧ IM j = 1) (h3 : ∀ d, d < n → IM d = 0 → 1 ≤ D1 d) (hm : m ≤ 16) : n ≤ 31 := by
  refine fb_holes 31 n (fun d => 2 * D1 d + IM d - 1) (fun d hd => ?_) (fun i j hij hj e => ?_)
  · have := h1 d hd
    show 2 * D1 d + IM d - 1 < 31
    omega
  · have a1 := h1 i (by omega)
    have a2 := h1 j hj
    have b1 := h3 i (by omega)
    have b2 := h3 j hj
    have e' : 2 * D1 i + IM i - 1 = 2 * D1 j + IM j - 1 := e
    have hd : D1 i = D1 j := by
      by_cases c1 : IM i = 0
      · have := b1 c1
        by_cases c2 : IM j = 0
        · have := b2 c2
          omega
        · omega
      · by_cases c2 : IM j = 0
        · have := b2 c2
          omega
        · omega
    have k := h2 i j hij hj hd
    have := b1 k.1
    omega
section WFM
variable {S : SP}
theorem kps_ok {m its into : Nat} (h1 : ∀ j r, S.2 768 412 j = some r → okS S r) (h2 : ∀ j r, S.2 768 431 j = some r → okS S r) : ∀ j r, kp (keeps9 S m its into) j = some r → okS S r := by
  intro j r z
  have k := keepC_kp (zN (zN (zN (zN S 832 27 (nD S) m) 704 38 (nD S) its) 704 39 (nD S) into) 768 430 (nD S) 0) its into j 8 (Nat.le_refl _)
  have k2 : kp (keeps9 S m its into) j = if 16 * nD S ≤ j ∧ j < 16 * nD S + 8 then xc9 S its (j - 16 * nD S) else if 16 * nD S + 8 ≤ j ∧ j < 16 * nD S + 8 + 8 then xc9 S into (j - (16 * nD S + 8)) else S.2 768 431 j := k
  rw [k2] at z
  split at z
  · exact h1 _ r z
  · split at z
    · exact h1 _ r z
    · exact h2 _ r z
theorem eqn_merge {a b : Nat} {p : Nat → Nat → Bool} (h1 : p 832 27 = false) (h2 : p 704 38 = false) (h3 : p 704 39 = false) (h4 : p 768 430 = false) (h5 : p 704 31 = false) (h6 : p 832 9 = false) (h7 : ∀ i, p 672 i = false) : EqN p S (S_merge S a b) := fun f i j q => mg_N (fun z => by rw [z.1, z.2, h1] at q; cases q) (fun z => by rw [z.1, z.2, h2] at q; cases q) (fun z => by rw [z.1, z.2, h3] at q; cases q) (fun z => by rw [z.1, z.2, h4] at q; cases q) (fun z => by rw [z.1, z.2, h5] at q; cases q) (fun z => by rw [z.1, z.2, h6] at q; cases q) (fun z => by rw [z, h7] at q; cases q)
theorem mg_thB {a b : Nat} (ta : th S a = 1) (l : Nat) : ∀ k, k ≤ nD S → thB (S_merge S a b) l (k + 1) = thB S l k
  | 0, _ => by
    show (if l = d1 (S_merge S a b) (nD (S_merge S a b) - 1 - 0) then im (S_merge S a b) (nD (S_merge S a b) - 1 - 0) else th (S_merge S a b) l) = th S l
    rw [mg_nD, mg_d1, mg_im, mg_th, if_pos (show nD S + 1 - 1 - 0 = nD S by omega), if_pos (show nD S + 1 - 1 - 0 = nD S by omega)]
    by_cases e : l = a
    · rw [if_pos e, e, ta]
    · rw [if_neg e, if_neg e]
  | k + 1, h => by
    have ih := mg_thB (b := b) ta l k (by omega)
    show (if l = d1 (S_merge S a b) (nD (S_merge S a b) - 1 - (k + 1)) then im (S_merge S a b) (nD (S_merge S a b) - 1 - (k + 1)) else thB (S_merge S a b) l (k + 1)) = if l = d1 S (nD S - 1 - k) then im S (nD S - 1 - k) else thB S l k
    rw [ih, mg_nD, mg_d1, mg_im, if_neg (show ¬ nD S + 1 - 1 - (k + 1) = nD S by omega), if_neg (show ¬ nD S + 1 - 1 - (k + 1) = nD S by omega), show nD S + 1 - 1 - (k + 1) = nD S - 1 - k by omega]
theorem WF.merge (h : WF S) {a b : Nat} (ha : a < nL S) (hb : b < nL S) (hab : a ≠ b) (ta : th S a = 1) (tb : th S b = 1) : WF (S_merge S a b) := by
  have h0 := h
  obtain ⟨hs, hr9, ⟨l1, l2, l3, l4, l5, l6, l7, l8, l9⟩, ⟨w1, w2, w3⟩, ⟨v1, v2, v3, v4, v5, v6⟩⟩ := h
  have eS : nS (S_merge S a b) = nS S := mg_N (by decide) (by decide) (by decide) (by decide) (by decide) (by decide) (by decide)
  have eok : ∀ r, okS (S_merge S a b) r = okS S r := fun r => by unfold okS; rw [eS]
  have ecw : ∀ w, cw (S_merge S a b) w = cw S w := fun w => mg_N (by decide) (by decide) (by decide) (by decide) (by decide) (by decide) (by decide)
  have esw : ∀ w, sw (S_merge S a b) w = sw S w := fun w => mg_N (by decide) (by decide) (by decide) (by decide) (by decide) (by decide) (by decide)
  have ehd : ∀ w, hd9 (S_merge S a b) w = hd9 S w := fun w => mg_N (by decide) (by decide) (by decide) (by decide) (by decide) (by decide) (by decide)
  have ehr : ∀ w, hr (S_merge S a b) w = hr S w := fun w => congrArg (fun z => Option.getD z []) (mg_R (by decide) (by decide))
  have efo : ∀ l, fo (S_merge S a b) l = fo S l := fun l => congrArg (fun z => Option.getD z []) (mg_R (by decide) (by decide))
  have een : ∀ c, en (S_merge S a b) c = en S c := fun c => congrArg (fun z => Option.getD z []) (mg_R (by decide) (by decide))
  have edr : dr (S_merge S a b) = dr S := congrArg (fun z => Option.getD z []) (mg_R (by decide) (by decide))
  have hv2 : ∀ d, d < nD S + 1 → im (S_merge S a b) d ≤ 1 ∧ d1 (S_merge S a b) d < nL S ∧ d2 (S_merge S a b) d < nL S ∧ d1 (S_merge S a b) d ≠ d2 (S_merge S a b) d ∧ mv (S_merge S a b) d < 2 ^ 40 := fun d hd => by
    rw [mg_im, mg_d1, mg_d2, mg_mv]
    by_cases e : d = nD S
    · rw [if_pos e, if_pos e, if_pos e, if_pos e]
      have g1 := mvm_lt S a 255 (nW S)
      have g2 : 2 ^ nW S ≤ 2 ^ 40 := Nat.pow_le_pow_right (by decide) w1
      exact ⟨Nat.le_refl _, ha, hb, hab, by omega⟩
    · rw [if_neg e, if_neg e, if_neg e, if_neg e]
      exact v2 d (by omega)
  have hv3 : ∀ i j, i < j → j < nD S + 1 → d1 (S_merge S a b) i = d1 (S_merge S a b) j → im (S_merge S a b) i = 0 ∧ im (S_merge S a b) j = 1 := fun i j hij hj e => by
    rw [mg_d1, mg_d1, if_neg (by omega)] at e
    rw [mg_im, mg_im, if_neg (by omega)]
    by_cases e2 : j = nD S
    · rw [if_pos e2] at e ⊢
      refine ⟨?_, rfl⟩
      have k := (v2 i (by omega)).1
      by_cases k0 : im S i = 0
      · exact k0
      · have k4 := v4 i (by omega) (by omega)
        rw [e, ta] at k4
        cases k4
    · rw [if_neg e2] at e ⊢
      exact v3 i j hij (by omega) e
  have hv5 : ∀ d, d < nD S + 1 → im (S_merge S a b) d = 0 → 1 ≤ d1 (S_merge S a b) d := fun d hd e => by
    rw [mg_im] at e
    rw [mg_d1]
    by_cases e2 : d = nD S
    · rw [if_pos e2] at e; cases e
    · rw [if_neg e2] at e ⊢
      exact v5 d (by omega) e
  refine ⟨hs.cg (eqn_merge rfl rfl rfl rfl rfl rfl (fun _ => rfl)), hr9.cg (eqn_merge rfl rfl rfl rfl rfl rfl (fun _ => rfl)), ⟨by rw [mg_nL]; exact l1, fun l hl => ?_, fun c => ?_, by rw [eok, edr]; exact l4, fun j r z => ?_, fun j r z => ?_, fun l => ?_, fun l hl => ?_, fun l c q1 q2 q3 => ?_⟩, ⟨by rw [mg_nW]; exact w1, fun w => ?_, fun w hw => ?_⟩, ⟨?_, fun d hd => ?_, fun i j hij hj e => ?_, fun i hi hm => ?_, fun d hd => ?_, fun k hk => ?_⟩⟩
  · rw [mg_nL] at hl
    rw [eok, efo]
    exact l2 l hl
  · rw [eok, een]
    exact l3 c
  · rw [eok]
    have k := mg_x (S := S) hab (l := j / 8) (c := j % 8) (Nat.mod_lt _ (by decide))
    have ej : 8 * (j / 8) + j % 8 = j := by omega
    have k2 : (S_merge S a b).2 768 412 j = xc9 (S_merge S a b) (j / 8) (j % 8) := by
      show _ = (S_merge S a b).2 768 412 (8 * (j / 8) + j % 8)
      rw [ej]
    rw [k2, k] at z
    split at z
    · cases z
    · split at z
      · split at z
        · exact l5 _ r z
        · exact l5 _ r z
      · exact l5 _ r z
  · rw [eok]
    exact kps_ok l5 l6 j r ((mg_kp j).symm.trans z)
  · rw [mg_th]; split
    · exact Nat.zero_le _
    · exact l7 l
  · rw [mg_nL] at hl
    rw [mg_th]; split
    · rfl
    · exact l8 l hl
  · rw [mg_nL] at q1
    rw [mg_x hab q3, if_neg (by omega), if_neg (by omega)]
    exact l9 l c q1 q2 q3
  · rw [eok, ehr]
    exact w2 w
  · rw [mg_nW] at hw
    obtain ⟨b1, b2, b3, b4, b5⟩ := w3 w hw
    rw [mg_ol, mg_nL, ecw, esw, ehd]
    by_cases e : w < nW S ∧ mvd S a 255 w = true
    · rw [if_pos e]
      refine ⟨hb, b2, b3, b4, fun _ => ?_⟩
      rw [mg_th, if_neg (fun z => hab z.symm)]
      exact tb
    · rw [if_neg e]
      refine ⟨b1, b2, b3, b4, fun z => ?_⟩
      rw [mg_th, if_neg (fun z2 => e ⟨hw, decide_eq_true ⟨z, z2, ?_⟩⟩)]
      · exact b5 z
      · have key : ∀ c, c < 8 → (255 : Nat).testBit c = true := by decide
        exact key _ b2
  · rw [mg_nD]
    exact deeds_le (fun d hd => ⟨(hv2 d hd).1, (hv2 d hd).2.1⟩) hv3 hv5 l1
  · rw [mg_nD] at hd
    rw [mg_nL]
    exact hv2 d hd
  · rw [mg_nD] at hj
    exact hv3 i j hij hj e
  · rw [mg_nD] at hi
    rw [mg_th, mg_d1]
    rw [mg_im] at hm
    by_cases e : i = nD S
    · rw [if_pos e, if_pos rfl]
    · rw [if_neg e] at hm ⊢
      split
      · rfl
      · exact v4 i (by omega) hm
  · rw [mg_nD] at hd
    exact hv5 d hd
  · rw [mg_nD] at hk
    cases k with
    | zero =>
      rw [mg_nD, mg_d2, mg_d1, mg_im, if_pos (by omega), if_pos (by omega), if_pos (by omega)]
      refine ⟨?_, fun z => absurd z (by decide)⟩
      show th (S_merge S a b) b = 1
      rw [mg_th, if_neg (fun z => hab z.symm)]
      exact tb
    | succ k =>
      have k6 := v6 k (by omega)
      rw [mg_thB ta _ k (by omega), mg_thB ta _ k (by omega), mg_nD, mg_d2, mg_d1, mg_im, if_neg (by omega), if_neg (by omega), if_neg (by omega), show nD S + 1 - 1 - (k + 1) = nD S - 1 - k by omega]
      exact k6
theorem eqn_spl {a b m : Nat} {p : Nat → Nat → Bool} (h1 : p 832 27 = false) (h2 : p 704 38 = false) (h3 : p 704 39 = false) (h4 : p 768 430 = false) (h5 : p 704 31 = false) (h7 : ∀ i, p 672 i = false) : EqN p S (S_spl S a b m) := fun f i j q => sp_N (fun z => by rw [z.1, z.2, h1] at q; cases q) (fun z => by rw [z.1, z.2, h2] at q; cases q) (fun z => by rw [z.1, z.2, h3] at q; cases q) (fun z => by rw [z.1, z.2, h4] at q; cases q) (fun z => by rw [z.1, z.2, h5] at q; cases q) (fun z => by rw [z, h7] at q; cases q)
/-- T: S with a lexeme more -/
theorem sp_thB {T : SP} {a b m : Nat} (e0 : nD T = nD S) (e1 : ∀ d, d1 T d = d1 S d) (e2 : ∀ d, im T d = im S d) (e3 : ∀ l, th S l = if l = b then 0 else th T l) (l : Nat) : ∀ k, k ≤ nD S → thB (S_spl T a b m) l (k + 1) = thB S l k
  | 0, _ => by
    show (if l = d1 (S_spl T a b m) (nD (S_spl T a b m) - 1 - 0) then im (S_spl T a b m) (nD (S_spl T a b m) - 1 - 0) else th (S_spl T a b m) l) = th S l
    rw [sp_nD, sp_d1, sp_im, sp_th, if_pos (show nD T + 1 - 1 - 0 = nD T by omega), if_pos (show nD T + 1 - 1 - 0 = nD T by omega), e3]
  | k + 1, h => by
    have ih := sp_thB (a := a) (m := m) e0 e1 e2 e3 l k (by omega)
    show (if l = d1 (S_spl T a b m) (nD (S_spl T a b m) - 1 - (k + 1)) then im (S_spl T a b m) (nD (S_spl T a b m) - 1 - (k + 1)) else thB (S_spl T a b m) l (k + 1)) = if l = d1 S (nD S - 1 - k) then im S (nD S - 1 - k) else thB S l k
    rw [ih, sp_nD, sp_d1, sp_im, if_neg (show ¬ nD T + 1 - 1 - (k + 1) = nD T by omega), if_neg (show ¬ nD T + 1 - 1 - (k + 1) = nD T by omega), show nD T + 1 - 1 - (k + 1) = nD S - 1 - k by omega, e1, e2]
theorem WF.split (h : WF S) {a m : Nat} (ha : a < nL S) (ta : th S a = 1) (hn : nL S < 16) : WF (S_spl (makes9 S (fo S a)) a (nL S) m) := by
  have hfa := WF_fo h ha
  have h9 := h.makes hfa.1 hfa.2.1 hfa.2.2 hn
  have hab : a ≠ nL S := by omega
  have tnew : th S (nL S) = 0 := h.2.2.1.2.2.2.2.2.2.2.1 (nL S) (Nat.le_refl _)
  obtain ⟨-, -, -, -, ⟨u1, u2, u3, u4, u5, u6⟩⟩ := h
  have e3 : ∀ l, th S l = if l = nL S then 0 else th (makes9 S (fo S a)) l := fun l => by
    rw [mk_th]
    by_cases e : l = nL S
    · rw [if_pos e, e, tnew]
    · rw [if_neg e, if_neg e]
  have tB := sp_thB (S := S) (T := makes9 S (fo S a)) (a := a) (b := nL S) (m := m) rfl (fun _ => rfl) (fun _ => rfl) e3
  have tb : th (makes9 S (fo S a)) (nL S) = 1 := (mk_th _).trans (if_pos rfl)
  have ta1 : th (makes9 S (fo S a)) a = 1 := (mk_th _).trans ((if_neg hab).trans ta)
  have hb : nL S < nL (makes9 S (fo S a)) := by rw [mk_nL]; omega
  have ha1 : a < nL (makes9 S (fo S a)) := by rw [mk_nL]; omega
  have eD : nD (makes9 S (fo S a)) = nD S := rfl
  have ed1 : ∀ d, d1 (makes9 S (fo S a)) d = d1 S d := fun _ => rfl
  have ed2 : ∀ d, d2 (makes9 S (fo S a)) d = d2 S d := fun _ => rfl
  have eim : ∀ d, im (makes9 S (fo S a)) d = im S d := fun _ => rfl
  have v2' : ∀ d, d < nD S → d1 (makes9 S (fo S a)) d < nL S := fun d hd => (u2 d hd).2.1
  generalize makes9 S (fo S a) = T at h9 tB tb ta1 hb ha1 eD v2' e3 ed1 ed2 eim ⊢
  generalize hbb : nL S = b at h9 tB tb ta1 hb ha1 eD v2' e3 hab hn ha ⊢
  obtain ⟨hs, hr9, ⟨l1, l2, l3, l4, l5, l6, l7, l8, l9⟩, ⟨w1, w2, w3⟩, ⟨v1, v2, v3, v4, v5, v6⟩⟩ := h9
  have eS : nS (S_spl T a b m) = nS T := sp_N (by decide) (by decide) (by decide) (by decide) (by decide) (by decide)
  have eok : ∀ r, okS (S_spl T a b m) r = okS T r := fun r => by unfold okS; rw [eS]
  have ecw : ∀ w, cw (S_spl T a b m) w = cw T w := fun w => sp_N (by decide) (by decide) (by decide) (by decide) (by decide) (by decide)
  have esw : ∀ w, sw (S_spl T a b m) w = sw T w := fun w => sp_N (by decide) (by decide) (by decide) (by decide) (by decide) (by decide)
  have ehd : ∀ w, hd9 (S_spl T a b m) w = hd9 T w := fun w => sp_N (by decide) (by decide) (by decide) (by decide) (by decide) (by decide)
  have ehr : ∀ w, hr (S_spl T a b m) w = hr T w := fun w => congrArg (fun z => Option.getD z []) (sp_R (by decide) (by decide))
  have efo : ∀ l, fo (S_spl T a b m) l = fo T l := fun l => congrArg (fun z => Option.getD z []) (sp_R (by decide) (by decide))
  have een : ∀ c, en (S_spl T a b m) c = en T c := fun c => congrArg (fun z => Option.getD z []) (sp_R (by decide) (by decide))
  have edr : dr (S_spl T a b m) = dr T := congrArg (fun z => Option.getD z []) (sp_R (by decide) (by decide))
  have hv2 : ∀ d, d < nD T + 1 → im (S_spl T a b m) d ≤ 1 ∧ d1 (S_spl T a b m) d < nL T ∧ d2 (S_spl T a b m) d < nL T ∧ d1 (S_spl T a b m) d ≠ d2 (S_spl T a b m) d ∧ mv (S_spl T a b m) d < 2 ^ 40 := fun d hd => by
    rw [sp_im, sp_d1, sp_d2, sp_mv]
    by_cases e : d = nD T
    · rw [if_pos e, if_pos e, if_pos e, if_pos e]
      have g1 := mvm_lt T a m (nW T)
      have g2 : 2 ^ nW T ≤ 2 ^ 40 := Nat.pow_le_pow_right (by decide) w1
      exact ⟨Nat.zero_le _, hb, ha1, fun z => hab z.symm, by omega⟩
    · rw [if_neg e, if_neg e, if_neg e, if_neg e]
      exact v2 d (by omega)
  have hv3 : ∀ i j, i < j → j < nD T + 1 → d1 (S_spl T a b m) i = d1 (S_spl T a b m) j → im (S_spl T a b m) i = 0 ∧ im (S_spl T a b m) j = 1 := fun i j hij hj e => by
    rw [sp_d1, sp_d1, if_neg (by omega)] at e
    rw [sp_im, sp_im, if_neg (by omega)]
    by_cases e2 : j = nD T
    · rw [if_pos e2] at e
      have := v2' i (by omega)
      omega
    · rw [if_neg e2] at e ⊢
      exact v3 i j hij (by omega) e
  have hv5 : ∀ d, d < nD T + 1 → im (S_spl T a b m) d = 0 → 1 ≤ d1 (S_spl T a b m) d := fun d hd e => by
    rw [sp_im] at e
    rw [sp_d1]
    by_cases e2 : d = nD T
    · rw [if_pos e2]; omega
    · rw [if_neg e2] at e ⊢
      exact v5 d (by omega) e
  refine ⟨hs.cg (eqn_spl rfl rfl rfl rfl rfl (fun _ => rfl)), hr9.cg (eqn_spl rfl rfl rfl rfl rfl (fun _ => rfl)), ⟨by rw [sp_nL]; exact l1, fun l hl => ?_, fun c => ?_, by rw [eok, edr]; exact l4, fun j r z => ?_, fun j r z => ?_, fun l => ?_, fun l hl => ?_, fun l c q1 q2 q3 => ?_⟩, ⟨by rw [sp_nW]; exact w1, fun w => ?_, fun w hw => ?_⟩, ⟨?_, fun d hd => ?_, fun i j hij hj e => ?_, fun i hi hm => ?_, fun d hd => ?_, fun k hk => ?_⟩⟩
  · rw [sp_nL] at hl
    rw [eok, efo]
    exact l2 l hl
  · rw [eok, een]
    exact l3 c
  · rw [eok]
    have k := sp_x (S := T) (m := m) hab (l := j / 8) (c := j % 8) (Nat.mod_lt _ (by decide))
    have ej : 8 * (j / 8) + j % 8 = j := by omega
    have k2 : (S_spl T a b m).2 768 412 j = xc9 (S_spl T a b m) (j / 8) (j % 8) := by
      show _ = (S_spl T a b m).2 768 412 (8 * (j / 8) + j % 8)
      rw [ej]
    rw [k2, k] at z
    split at z
    · split at z
      · cases z
      · split at z
        · exact l5 _ r z
        · exact l5 _ r z
    · exact l5 _ r z
  · rw [eok]
    exact kps_ok l5 l6 j r ((sp_kp j).symm.trans z)
  · rw [sp_th]; exact l7 l
  · rw [sp_nL] at hl
    rw [sp_th]; exact l8 l hl
  · rw [sp_nL] at q1
    rw [sp_x hab q3, if_neg (show ¬ l = a by omega), if_neg (show ¬ l = b by omega)]
    split <;> exact l9 l c q1 q2 q3
  · rw [eok, ehr]
    exact w2 w
  · rw [sp_nW] at hw
    obtain ⟨b1, b2, b3, b4, b5⟩ := w3 w hw
    rw [sp_ol, sp_nL, ecw, esw, ehd]
    by_cases e : w < nW T ∧ mvd T a m w = true
    · rw [if_pos e]
      refine ⟨hb, b2, b3, b4, fun _ => ?_⟩
      rw [sp_th]
      exact tb
    · rw [if_neg e]
      refine ⟨b1, b2, b3, b4, fun z => ?_⟩
      rw [sp_th]
      exact b5 z
  · rw [sp_nD]
    exact deeds_le (fun d hd => ⟨(hv2 d hd).1, (hv2 d hd).2.1⟩) hv3 hv5 l1
  · rw [sp_nD] at hd
    rw [sp_nL]
    exact hv2 d hd
  · rw [sp_nD] at hj
    exact hv3 i j hij hj e
  · rw [sp_nD] at hi
    rw [sp_th, sp_d1]
    rw [sp_im] at hm
    by_cases e : i = nD T
    · rw [if_pos e] at hm; cases hm
    · rw [if_neg e] at hm ⊢
      exact v4 i (by omega) hm
  · rw [sp_nD] at hd
    exact hv5 d hd
  · rw [sp_nD] at hk
    cases k with
    | zero =>
      rw [sp_nD, sp_d2, sp_d1, sp_im, if_pos (by omega), if_pos (by omega), if_pos (by omega)]
      refine ⟨?_, fun _ => ?_⟩
      · show th (S_spl T a b m) a = 1
        rw [sp_th]
        exact ta1
      · show th (S_spl T a b m) b = 1
        rw [sp_th]
        exact tb
    | succ k =>
      have k6 := u6 k (by omega)
      rw [tB _ k (by omega), tB _ k (by omega), sp_nD, sp_d2, sp_d1, sp_im, if_neg (by omega), if_neg (by omega), if_neg (by omega), show nD T + 1 - 1 - (k + 1) = nD S - 1 - k by omega, ed1, ed2, eim]
      exact k6
theorem un_thB (hn : nD S ≠ 0) (l : Nat) : ∀ k, k + 1 ≤ nD S → thB (S_undo S) l k = thB S l (k + 1)
  | 0, _ => by
    show th (S_undo S) l = if l = d1 S (nD S - 1 - 0) then im S (nD S - 1 - 0) else th S l
    rw [un_th, Nat.sub_zero]
  | k + 1, h => by
    have ih := un_thB hn l k (by omega)
    show (if l = d1 (S_undo S) (nD (S_undo S) - 1 - k) then im (S_undo S) (nD (S_undo S) - 1 - k) else thB (S_undo S) l k) = if l = d1 S (nD S - 1 - (k + 1)) then im S (nD S - 1 - (k + 1)) else thB S l (k + 1)
    rw [ih, un_nD, show d1 (S_undo S) (nD S - 1 - 1 - k) = d1 S (nD S - 1 - 1 - k) from un_N (by decide) (by decide) (by decide), show im (S_undo S) (nD S - 1 - 1 - k) = im S (nD S - 1 - 1 - k) from un_N (by decide) (by decide) (by decide), show nD S - 1 - 1 - k = nD S - 1 - (k + 1) by omega]
theorem eqn_undo {p : Nat → Nat → Bool} (h5 : p 704 31 = false) (h6 : p 832 9 = false) (h7 : ∀ i, p 672 i = false) : EqN p S (S_undo S) := fun f i j q => un_N (fun z => by rw [z.1, z.2, h5] at q; cases q) (fun z => by rw [z.1, z.2, h6] at q; cases q) (fun z => by rw [z, h7] at q; cases q)
theorem WF.undo (h : WF S) (hn : nD S ≠ 0) : WF (S_undo S) := by
  obtain ⟨hs, hr9, ⟨l1, l2, l3, l4, l5, l6, l7, l8, l9⟩, ⟨w1, w2, w3⟩, ⟨v1, v2, v3, v4, v5, v6⟩⟩ := h
  have dn : nD S - 1 < nD S := by omega
  obtain ⟨u1, u2, u3, u4, u5⟩ := v2 _ dn
  obtain ⟨t1, t2⟩ := v6 0 (by omega)
  rw [Nat.sub_zero] at t1 t2
  have t2' : th S (d2 S (nD S - 1)) = 1 := t1
  have t1' : im S (nD S - 1) = 1 → th S (d1 S (nD S - 1)) = 0 := v4 _ dn
  have eS : nS (S_undo S) = nS S := un_N (by decide) (by decide) (by decide)
  have eok : ∀ r, okS (S_undo S) r = okS S r := fun r => by unfold okS; rw [eS]
  have ecw : ∀ w, cw (S_undo S) w = cw S w := fun w => un_N (by decide) (by decide) (by decide)
  have esw : ∀ w, sw (S_undo S) w = sw S w := fun w => un_N (by decide) (by decide) (by decide)
  have ehd : ∀ w, hd9 (S_undo S) w = hd9 S w := fun w => un_N (by decide) (by decide) (by decide)
  have ehr : ∀ w, hr (S_undo S) w = hr S w := fun w => congrArg (fun z => Option.getD z []) (un_R (by decide))
  have efo : ∀ l, fo (S_undo S) l = fo S l := fun l => congrArg (fun z => Option.getD z []) (un_R (by decide))
  have een : ∀ c, en (S_undo S) c = en S c := fun c => congrArg (fun z => Option.getD z []) (un_R (by decide))
  have edr : dr (S_undo S) = dr S := congrArg (fun z => Option.getD z []) (un_R (by decide))
  have him : ∀ d, im (S_undo S) d = im S d := fun d => un_N (by decide) (by decide) (by decide)
  have hd1 : ∀ d, d1 (S_undo S) d = d1 S d := fun d => un_N (by decide) (by decide) (by decide)
  have hd2 : ∀ d, d2 (S_undo S) d = d2 S d := fun d => un_N (by decide) (by decide) (by decide)
  have hmv : ∀ d, mv (S_undo S) d = mv S d := fun d => un_N (by decide) (by decide) (by decide)
  have hkp : ∀ j, kp (S_undo S) j = kp S j := fun j => un_R (by decide)
  refine ⟨hs.cg (eqn_undo rfl rfl (fun _ => rfl)), hr9.cg (eqn_undo rfl rfl (fun _ => rfl)), ⟨by rw [un_nL]; exact l1, fun l hl => ?_, fun c => ?_, by rw [eok, edr]; exact l4, fun j r z => ?_, fun j r z => ?_, fun l => ?_, fun l hl => ?_, fun l c q1 q2 q3 => ?_⟩, ⟨by rw [un_nW]; exact w1, fun w => ?_, fun w hw => ?_⟩, ⟨by rw [un_nD]; omega, fun d hd => ?_, fun i j hij hj e => ?_, fun i hi hm => ?_, fun d hd => ?_, fun k hk => ?_⟩⟩
  · rw [un_nL] at hl
    rw [eok, efo]
    exact l2 l hl
  · rw [eok, een]
    exact l3 c
  · rw [eok]
    have k := un_x (S := S) (l := j / 8) (c := j % 8) (Nat.mod_lt _ (by decide))
    have ej : 8 * (j / 8) + j % 8 = j := by omega
    have k2 : (S_undo S).2 768 412 j = xc9 (S_undo S) (j / 8) (j % 8) := by
      show _ = (S_undo S).2 768 412 (8 * (j / 8) + j % 8)
      rw [ej]
    rw [k2, k] at z
    split at z
    · exact l6 _ r z
    · split at z
      · exact l6 _ r z
      · exact l5 _ r z
  · rw [eok]
    exact l6 j r ((hkp j).symm.trans z)
  · rw [un_th]; split
    · exact u1
    · exact l7 l
  · rw [un_nL] at hl
    rw [un_th, if_neg (by omega)]
    exact l8 l hl
  · rw [un_nL] at q1
    rw [un_x q3, if_neg (by omega), if_neg (by omega)]
    exact l9 l c q1 q2 q3
  · rw [eok, ehr]
    exact w2 w
  · rw [un_nW] at hw
    obtain ⟨b1, b2, b3, b4, b5⟩ := w3 w hw
    rw [un_ol, un_nL, ecw, esw, ehd]
    by_cases e : w < nW S ∧ bck S (nD S - 1) w = true
    · rw [if_pos e]
      by_cases hi : im S (nD S - 1) = 1
      · rw [if_pos hi]
        refine ⟨u2, b2, b3, b4, fun _ => ?_⟩
        rw [un_th, if_pos rfl]
        exact hi
      · rw [if_neg hi]
        refine ⟨u3, b2, b3, b4, fun _ => ?_⟩
        rw [un_th, if_neg (fun z => u4 z.symm)]
        exact t2'
    · rw [if_neg e]
      refine ⟨b1, b2, b3, b4, fun z => ?_⟩
      rw [un_th, if_neg (fun z2 => ?_)]
      · exact b5 z
      · by_cases hi : im S (nD S - 1) = 1
        · have k := b5 z
          rw [z2, t1' hi] at k
          cases k
        · refine e ⟨hw, ?_⟩
          unfold bck
          rw [if_neg hi]
          exact decide_eq_true z2
  · rw [un_nD] at hd
    rw [him, hd1, hd2, hmv, un_nL]
    exact v2 d (by omega)
  · rw [un_nD] at hj
    rw [hd1, hd1] at e
    rw [him, him]
    exact v3 i j hij (by omega) e
  · rw [un_nD] at hi
    rw [him] at hm
    rw [hd1, un_th]
    by_cases e : d1 S i = d1 S (nD S - 1)
    · have k := (v3 i (nD S - 1) (by omega) dn e).1
      rw [hm] at k
      cases k
    · rw [if_neg e]
      exact v4 i (by omega) hm
  · rw [un_nD] at hd
    rw [him, hd1]
    exact v5 d (by omega)
  · rw [un_nD] at hk
    have k6 := v6 (k + 1) (by omega)
    rw [hd2, hd1, him, un_thB hn _ k (by omega), un_thB hn _ k (by omega), un_nD, show nD S - 1 - 1 - k = nD S - 1 - (k + 1) by omega]
    exact k6
end WFM
