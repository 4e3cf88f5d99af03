/-! a split's and an undo's state, column by column; the lexicon behind each deed -/
def S_spl (S : SP) (a b m : Nat) : SP := zN (splitX (moveW (keeps9 S 0 b a) a b m (nW S)) a b m 8) 672 0 0 (nD S + 1)
section SPL
variable {S : SP} {a b m : Nat}
theorem sp_nD : nD (S_spl S a b m) = nD S + 1 := zN_eq
theorem sp_N {f i j : Nat} (h1 : ¬ (f = 832 ∧ i = 27)) (h2 : ¬ (f = 704 ∧ i = 38)) (h3 : ¬ (f = 704 ∧ i = 39)) (h4 : ¬ (f = 768 ∧ i = 430)) (h5 : ¬ (f = 704 ∧ i = 31)) (h7 : f ≠ 672) : (S_spl S a b m).1 f i j = S.1 f i j := by
  unfold S_spl
  rw [zN_f h7, splitX_N, moveW_N _ _ _ _ h5 h4]
  exact keeps9_N S 0 b a h1 h2 h3 h4 j
theorem sp_nL : nL (S_spl S a b m) = nL S := sp_N (by decide) (by decide) (by decide) (by decide) (by decide) (by decide)
theorem sp_nW : nW (S_spl S a b m) = nW S := sp_N (by decide) (by decide) (by decide) (by decide) (by decide) (by decide)
theorem sp_th (l : Nat) : th (S_spl S a b m) l = th S l := sp_N (by decide) (by decide) (by decide) (by decide) (by decide) (by decide)
theorem sp_ol (w : Nat) : ol (S_spl S a b m) w = if w < nW S ∧ mvd S a m w = true then b else ol S w := by
  unfold S_spl
  show (zN _ _ _ _ _).1 704 31 w = _
  rw [zN_f (by decide), splitX_N]
  refine (moveW_o _ a b m w (nW S)).trans ?_
  rw [mvd_kps, show ol (keeps9 S 0 b a) w = ol S w from keeps9_N S 0 b a (by decide) (by decide) (by decide) (by decide) w]
theorem sp_mv (d : Nat) : mv (S_spl S a b m) d = if d = nD S then mvm S a m (nW S) else mv S d := by
  unfold S_spl
  show (zN _ _ _ _ _).1 768 430 d = _
  rw [zN_f (by decide), splitX_N]
  refine (moveW_v _ a b m d (nW S)).trans ?_
  rw [kps_nD, mvm_kps, kps_mv, kps_mv, if_pos rfl, Nat.zero_or]
  by_cases e : d = nD S
  · rw [if_pos e, if_pos e]
  · rw [if_neg e, if_neg e, if_neg e]
theorem sp_im (d : Nat) : im (S_spl S a b m) d = if d = nD S then 0 else im S d := by
  unfold S_spl
  show (zN _ _ _ _ _).1 832 27 d = _
  rw [zN_f (by decide), splitX_N, moveW_N _ _ _ _ (by decide) (by decide)]
  exact kps_im S 0 b a d
theorem sp_d1 (d : Nat) : d1 (S_spl S a b m) d = if d = nD S then b else d1 S d := by
  unfold S_spl
  show (zN _ _ _ _ _).1 704 38 d = _
  rw [zN_f (by decide), splitX_N, moveW_N _ _ _ _ (by decide) (by decide)]
  exact kps_d1 S 0 b a d
theorem sp_d2 (d : Nat) : d2 (S_spl S a b m) d = if d = nD S then a else d2 S d := by
  unfold S_spl
  show (zN _ _ _ _ _).1 704 39 d = _
  rw [zN_f (by decide), splitX_N, moveW_N _ _ _ _ (by decide) (by decide)]
  exact kps_d2 S 0 b a d
theorem sp_R {f i j : Nat} (h1 : ¬ (f = 768 ∧ i = 412)) (h2 : ¬ (f = 768 ∧ i = 431)) : (S_spl S a b m).2 f i j = S.2 f i j := by
  unfold S_spl
  rw [zN_2, splitX_R _ _ _ _ h1, moveW_R]
  exact keeps9_X S 0 b a h2 j
theorem sp_kp (j : Nat) : kp (S_spl S a b m) j = kp (keeps9 S 0 b a) j := by
  unfold S_spl
  show (zN (splitX (moveW (keeps9 S 0 b a) a b m (nW S)) a b m 8) 672 0 0 (nD S + 1)).2 768 431 j = _
  rw [zN_2, splitX_R _ _ _ _ (by decide), moveW_R]
theorem sp_x (hab : a ≠ b) {l c : Nat} (hc : c < 8) : xc9 (S_spl S a b m) l c = if m.testBit c = true then (if l = a then none else if l = b then xc9 S a c else xc9 S l c) else xc9 S l c := by
  unfold S_spl
  have e : ∀ l, xc9 (moveW (keeps9 S 0 b a) a b m (nW S)) l c = xc9 S l c := fun l => by
    show (moveW (keeps9 S 0 b a) a b m (nW S)).2 768 412 (8 * l + c) = _
    rw [moveW_R]
    exact keeps9_X S 0 b a (by decide) _
  show (zN (splitX (moveW (keeps9 S 0 b a) a b m (nW S)) a b m 8) 672 0 0 (nD S + 1)).2 768 412 (8 * l + c) = _
  rw [zN_2]
  refine (splitX_x _ hab hc 8 (Nat.le_refl _)).trans ?_
  rw [e, e]
  simp only [hc, true_and]
theorem sp_LXd {σ : HS} {g : Nat → Nat} {N : Nat} (h : LXdG (S_deed S 0 b a (mvm S a m (nW S))) σ g N) : LXd (S_spl S a b m) σ := by
  have h' : LXd (S_deed S 0 b a (mvm S a m (nW S))) σ := ⟨g, N, h⟩
  refine h'.cg (fun f i j q => ?_) (fun f i j q => ?_)
  · simp only [nLd, Bool.or_eq_true, Bool.and_eq_true, decide_eq_true_eq] at q
    rcases q with ((((rfl | ⟨rfl, rfl⟩) | ⟨rfl, rfl⟩) | ⟨rfl, rfl⟩) | ⟨rfl, rfl⟩)
    · by_cases e : i = 0 ∧ j = 0
      · obtain ⟨rfl, rfl⟩ := e
        exact sp_nD.trans dd_nD.symm
      · unfold S_spl S_deed
        rw [zN_ne (fun z => e z.2), splitX_N, moveW_N _ _ _ _ (by simp) (by simp), zN_f (by decide), zN_ne (fun z => e z.2)]
    · exact (sp_im j).trans (dd_im j).symm
    · exact (sp_d1 j).trans (dd_d1 j).symm
    · exact (sp_d2 j).trans (dd_d2 j).symm
    · exact (sp_mv j).trans (dd_mv j).symm
  · simp only [rLd, Bool.and_eq_true, decide_eq_true_eq] at q
    obtain ⟨rfl, rfl⟩ := q
    exact sp_kp j
end SPL
def S_undo (S : SP) : SP := zN (backX (backW (zN S 672 0 0 (nD S - 1)) (nD S - 1) (nW S)) (nD S - 1) 8) 832 9 (d1 S (nD S - 1)) (im S (nD S - 1))
section UND
variable {S : SP}
theorem un_N {f i j : Nat} (h5 : ¬ (f = 704 ∧ i = 31)) (h6 : ¬ (f = 832 ∧ i = 9)) (h7 : f ≠ 672) : (S_undo S).1 f i j = S.1 f i j := by
  unfold S_undo
  rw [zN_ne (fun z => h6 ⟨z.1, z.2.1⟩), backX_N, backW_N _ _ h5, zN_f h7]
theorem un_nD : nD (S_undo S) = nD S - 1 := by
  unfold S_undo
  show (zN _ _ _ _ _).1 672 0 0 = _
  rw [zN_f (by decide), backX_N, backW_N _ _ (by decide), zN_eq]
theorem un_nL : nL (S_undo S) = nL S := un_N (by decide) (by decide) (by decide)
theorem un_nW : nW (S_undo S) = nW S := un_N (by decide) (by decide) (by decide)
theorem un_th (l : Nat) : th (S_undo S) l = if l = d1 S (nD S - 1) then im S (nD S - 1) else th S l := by
  unfold S_undo
  show (zN _ _ _ _ _).1 832 9 l = _
  rw [zN_row, backX_N, backW_N _ _ (by decide), zN_f (by decide)]
theorem un_ol (w : Nat) : ol (S_undo S) w = if w < nW S ∧ bck S (nD S - 1) w = true then (if im S (nD S - 1) = 1 then d1 S (nD S - 1) else d2 S (nD S - 1)) else ol S w := by
  unfold S_undo
  show (zN _ _ _ _ _).1 704 31 w = _
  rw [zN_f (by decide), backX_N]
  exact backW_o (zN S 672 0 0 (nD S - 1)) (nD S - 1) w (nW S)
theorem un_R {f i j : Nat} (h1 : ¬ (f = 768 ∧ i = 412)) : (S_undo S).2 f i j = S.2 f i j := by
  unfold S_undo
  rw [zN_2, backX_R _ _ h1, backW_R, zN_2]
theorem un_x {l c : Nat} (hc : c < 8) : xc9 (S_undo S) l c = if l = d2 S (nD S - 1) then kp S (16 * (nD S - 1) + 8 + c) else if l = d1 S (nD S - 1) then kp S (16 * (nD S - 1) + c) else xc9 S l c := by
  have b1 : d1 (backW (zN S 672 0 0 (nD S - 1)) (nD S - 1) (nW S)) (nD S - 1) = d1 S (nD S - 1) := by
    show (backW (zN S 672 0 0 (nD S - 1)) (nD S - 1) (nW S)).1 704 38 (nD S - 1) = _
    rw [backW_N _ _ (by decide), zN_f (by decide)]
  have b2 : d2 (backW (zN S 672 0 0 (nD S - 1)) (nD S - 1) (nW S)) (nD S - 1) = d2 S (nD S - 1) := by
    show (backW (zN S 672 0 0 (nD S - 1)) (nD S - 1) (nW S)).1 704 39 (nD S - 1) = _
    rw [backW_N _ _ (by decide), zN_f (by decide)]
  have b3 : ∀ f i j, (backW (zN S 672 0 0 (nD S - 1)) (nD S - 1) (nW S)).2 f i j = S.2 f i j := fun f i j => by rw [backW_R, zN_2]
  unfold S_undo
  show (zN (backX (backW (zN S 672 0 0 (nD S - 1)) (nD S - 1) (nW S)) (nD S - 1) 8) 832 9 (d1 S (nD S - 1)) (im S (nD S - 1))).2 768 412 (8 * l + c) = _
  rw [zN_2]
  refine (backX_x _ _ hc 8 (Nat.le_refl _)).trans ?_
  rw [if_pos hc, b1, b2]
  simp only [kp, xc9, b3]
end UND
section LXA
variable {S : SP} {σ σ' : HS}
/-- what the deeds touch -/
def tgM (a b : Nat) (t : Tg) : Prop := tgD t ∨ (t.1 = 8 ∧ t.2 < 100) ∨ tgC a t ∨ tgC b t ∨ (t.1 = 4 ∧ (t.2 = a ∨ t.2 = b))
theorem lx_merge (h : LX9 S σ) (hw : WF S) {a b : Nat} {g : Nat → Nat} {N : Nat} (ha : a < nL S) (hb : b < nL S) (hab : a ≠ b) (ta : th S a = 1) (tb : th S b = 1) (hF : Fr (tgM a b) σ σ') (hG : LXdG (S_deed S 1 a b (mvm S a 255 (nW S))) σ' g N) (hA : CR9 σ' a (fun c => xc9 S a c)) (hB : CR9 σ' b (fun c => if (xc9 S b c).isNone = true then xc9 S a c else xc9 S b c)) (hW : LXo S (fun w => if w < nW S ∧ mvd S a 255 w = true then b else ol S w) σ') (hD : ∀ l, l < nL S → hI σ' 256 l 0 = hI σ 256 l 0 ∧ hL σ' 257 l 0 = hL σ 257 l 0 ∧ hR σ' 259 l 0 = hR σ 259 l 0 ∧ hI σ' 258 l 0 = if l = a then nI 1 else hI σ 258 l 0) : LX9 (S_merge S a b) σ' := by
  obtain ⟨h1, h2, h3, h4, h5⟩ := h
  have gL := hw.2.2.1.1
  have hfo : ∀ l, fo (S_merge S a b) l = fo S l := fun l => congrArg (fun z => Option.getD z []) (mg_R (by decide) (by decide))
  have hhr : ∀ w, hr (S_merge S a b) w = hr S w := fun w => congrArg (fun z => Option.getD z []) (mg_R (by decide) (by decide))
  refine ⟨h1.fr hF (by simp only [tgM, tgD, tgC, tgL]; omega), ⟨?_, fun l q => ?_, fun l q q2 => ?_⟩, fun l q => ?_, ⟨?_, fun w q => ?_, fun w q => ?_⟩, mg_LXd hG⟩
  · rw [mg_nL]
    exact h2.1.fr hF (fun t z => by simp only [tgM, tgD, tgC, tgL] at z ⊢; omega)
  · rw [mg_nL] at q
    obtain ⟨g1, g2, g3, g4⟩ := h2.2.1 l q
    obtain ⟨f1, f2, f3, f4⟩ := hD l q
    unfold LD
    rw [mg_th, hfo]
    refine ⟨f1.trans g1, f2.trans g2, f4.trans ?_, f3.trans g4⟩
    by_cases e : l = a
    · rw [if_pos e, if_pos e]; rfl
    · rw [if_neg e, if_neg e]; exact g3
  · rw [mg_nL] at q
    have k := h2.2.2 l q q2
    exact ⟨(hF.rV (by simp only [tgM, tgD, tgC, tgL]; omega)).trans k.1, (hF.rV (by simp only [tgM, tgD, tgC, tgL]; omega)).trans k.2.1, (hF.rV (by simp only [tgM, tgD, tgC, tgL]; omega)).trans k.2.2⟩
  · rw [mg_nL] at q
    have old : ∀ d, d < nD S → im S d = 1 → th S (d1 S d) = 0 := hw.2.2.2.2.2.2.2.1
    by_cases e : l = a
    · subst e
      refine ⟨_, hA, fun k => ?_, fun d hd hm he c hc => ?_⟩
      · rw [mg_th, if_pos rfl] at k
        cases k
      · rw [mg_nD] at hd
        rw [mg_kp, kps_kp1 S 1 l b (by omega) hc]
        by_cases e2 : d = nD S
        · rw [if_pos e2]
        · rw [mg_im, if_neg e2] at hm
          rw [mg_d1, if_neg e2] at he
          have k := old d (by omega) hm
          rw [he, ta] at k
          cases k
    · by_cases e3 : l = b
      · subst e3
        refine ⟨_, hB, fun _ c hc => ?_, fun d hd hm he => ?_⟩
        · rw [mg_x hab hc, if_neg e, if_pos rfl]
        · rw [mg_nD] at hd
          by_cases e2 : d = nD S
          · rw [mg_d1, if_pos e2] at he
            exact absurd he hab
          · rw [mg_im, if_neg e2] at hm
            rw [mg_d1, if_neg e2] at he
            have k := old d (by omega) hm
            rw [he, tb] at k
            cases k
      · obtain ⟨f, g1, g2, g3⟩ := h3 l q
        refine ⟨f, g1.fr hF (fun t z => by simp only [tgM, tgD, tgC, tgL] at z ⊢; omega), fun k c hc => ?_, fun d hd hm he c hc => ?_⟩
        · rw [mg_th, if_neg e] at k
          rw [mg_x hab hc, if_neg e, if_neg e3]
          exact g2 k c hc
        · rw [mg_nD] at hd
          by_cases e2 : d = nD S
          · rw [mg_d1, if_pos e2] at he
            exact absurd he.symm e
          · rw [mg_im, if_neg e2] at hm
            rw [mg_d1, if_neg e2] at he
            rw [mg_kp, kps_kp1 S 1 a b (by omega) hc, if_neg e2]
            exact g3 d (by omega) hm he c hc
  · rw [mg_nW]; exact hW.1
  · rw [mg_nW] at q
    obtain ⟨g1, g2, g3, g4, g5⟩ := hW.2.1 w q
    unfold WD
    rw [mg_ol, hhr, show cw (S_merge S a b) w = cw S w from mg_N (by decide) (by decide) (by decide) (by decide) (by decide) (by decide) (by decide), show sw (S_merge S a b) w = sw S w from mg_N (by decide) (by decide) (by decide) (by decide) (by decide) (by decide) (by decide), show hd9 (S_merge S a b) w = hd9 S w from mg_N (by decide) (by decide) (by decide) (by decide) (by decide) (by decide) (by decide)]
    exact ⟨g1, g2, g3, g4, g5⟩
  · rw [mg_nW] at q
    exact hW.2.2 w q
theorem lx_split (h : LX9 S σ) (hw : WF S) {a b m : Nat} {g : Nat → Nat} {N : Nat} (ha : a < nL S) (hb : b < nL S) (hab : a ≠ b) (ta : th S a = 1) (tb : th S b = 1) (hxb : ∀ c, c < 8 → xc9 S b c = none) (hF : Fr (tgM a b) σ σ') (hG : LXdG (S_deed S 0 b a (mvm S a m (nW S))) σ' g N) (hA : CR9 σ' a (fun c => if m.testBit c = true then none else xc9 S a c)) (hB : CR9 σ' b (fun c => if m.testBit c = true ∧ (xc9 S a c).isSome = true then xc9 S a c else xc9 S b c)) (hW : LXo S (fun w => if w < nW S ∧ mvd S a m w = true then b else ol S w) σ') (hD : ∀ l, l < nL S → hI σ' 256 l 0 = hI σ 256 l 0 ∧ hL σ' 257 l 0 = hL σ 257 l 0 ∧ hR σ' 259 l 0 = hR σ 259 l 0 ∧ hI σ' 258 l 0 = hI σ 258 l 0) : LX9 (S_spl S a b m) σ' := by
  obtain ⟨h1, h2, h3, h4, h5⟩ := h
  have gL := hw.2.2.1.1
  have hfo : ∀ l, fo (S_spl S a b m) l = fo S l := fun l => congrArg (fun z => Option.getD z []) (sp_R (by decide) (by decide))
  have hhr : ∀ w, hr (S_spl S a b m) w = hr S w := fun w => congrArg (fun z => Option.getD z []) (sp_R (by decide) (by decide))
  refine ⟨h1.fr hF (by simp only [tgM, tgD, tgC, tgL]; omega), ⟨?_, fun l q => ?_, fun l q q2 => ?_⟩, fun l q => ?_, ⟨?_, fun w q => ?_, fun w q => ?_⟩, sp_LXd hG⟩
  · rw [sp_nL]
    exact h2.1.fr hF (fun t z => by simp only [tgM, tgD, tgC, tgL] at z ⊢; omega)
  · rw [sp_nL] at q
    obtain ⟨g1, g2, g3, g4⟩ := h2.2.1 l q
    obtain ⟨f1, f2, f3, f4⟩ := hD l q
    unfold LD
    rw [sp_th, hfo]
    exact ⟨f1.trans g1, f2.trans g2, f4.trans g3, f3.trans g4⟩
  · rw [sp_nL] at q
    have k := h2.2.2 l q q2
    exact ⟨(hF.rV (by simp only [tgM, tgD, tgC, tgL]; omega)).trans k.1, (hF.rV (by simp only [tgM, tgD, tgC, tgL]; omega)).trans k.2.1, (hF.rV (by simp only [tgM, tgD, tgC, tgL]; omega)).trans k.2.2⟩
  · rw [sp_nL] at q
    have old : ∀ d, d < nD S → im S d = 1 → th S (d1 S d) = 0 := hw.2.2.2.2.2.2.2.1
    have none9 : th S l = 1 → ∀ d, d < nD (S_spl S a b m) → im (S_spl S a b m) d = 1 → d1 (S_spl S a b m) d = l → False := fun tl d hd hm he => by
      rw [sp_nD] at hd
      by_cases e2 : d = nD S
      · rw [sp_im, if_pos e2] at hm
        cases hm
      · rw [sp_im, if_neg e2] at hm
        rw [sp_d1, if_neg e2] at he
        have k := old d (by omega) hm
        rw [he, tl] at k
        cases k
    by_cases e : l = a
    · subst e
      refine ⟨_, hA, fun _ c hc => ?_, fun d hd hm he => (none9 ta d hd hm he).elim⟩
      rw [sp_x hab hc]
      by_cases k : m.testBit c = true
      · rw [if_pos k, if_pos k, if_pos rfl]
      · rw [if_neg k, if_neg k]
    · by_cases e3 : l = b
      · subst e3
        refine ⟨_, hB, fun _ c hc => ?_, fun d hd hm he => (none9 tb d hd hm he).elim⟩
        rw [sp_x hab hc]
        by_cases k : m.testBit c = true
        · rw [if_pos k, if_neg e, if_pos rfl]
          cases e4 : xc9 S a c with
          | none => rw [if_neg (by simp), hxb c hc]
          | some r => rw [if_pos ⟨k, rfl⟩]
        · rw [if_neg k, if_neg (fun z => k z.1)]
      · obtain ⟨f, g1, g2, g3⟩ := h3 l q
        refine ⟨f, g1.fr hF (fun t z => by simp only [tgM, tgD, tgC, tgL] at z ⊢; omega), fun k c hc => ?_, fun d hd hm he c hc => ?_⟩
        · rw [sp_th] at k
          rw [sp_x hab hc, if_neg e, if_neg e3]
          rw [g2 k c hc]
          split <;> rfl
        · rw [sp_nD] at hd
          by_cases e2 : d = nD S
          · rw [sp_im, if_pos e2] at hm
            cases hm
          · rw [sp_im, if_neg e2] at hm
            rw [sp_d1, if_neg e2] at he
            rw [sp_kp, kps_kp1 S 0 b a (by omega) hc, if_neg e2]
            exact g3 d (by omega) hm he c hc
  · rw [sp_nW]; exact hW.1
  · rw [sp_nW] at q
    obtain ⟨g1, g2, g3, g4, g5⟩ := hW.2.1 w q
    unfold WD
    rw [sp_ol, hhr, show cw (S_spl S a b m) w = cw S w from sp_N (by decide) (by decide) (by decide) (by decide) (by decide) (by decide), show sw (S_spl S a b m) w = sw S w from sp_N (by decide) (by decide) (by decide) (by decide) (by decide) (by decide), show hd9 (S_spl S a b m) w = hd9 S w from sp_N (by decide) (by decide) (by decide) (by decide) (by decide) (by decide)]
    exact ⟨g1, g2, g3, g4, g5⟩
  · rw [sp_nW] at q
    exact hW.2.2 w q
theorem lx_undo (h : LX9 S σ) (hw : WF S) (hn : nD S ≠ 0) {g : Nat → Nat} {N : Nat} (hG : LXdG S σ g N) (hF : Fr (tgM (d1 S (nD S - 1)) (d2 S (nD S - 1))) σ σ') (hLs : LS9 σ' 5 (nD S - 1) (fun d => (2, g d))) (hDD : ∀ d, d < nD S - 1 → DD S σ' d (g d)) (hV9 : ∀ s, N ≤ s → hV σ' (2, s) = false ∧ hV σ' (1, 1000 + s) = false ∧ hV σ' (12, 1000 + s) = false) (hA : ∀ f, CR9 σ (d1 S (nD S - 1)) f → CR9 σ' (d1 S (nD S - 1)) f) (hB : CR9 σ' (d2 S (nD S - 1)) (fun c => kp S (16 * (nD S - 1) + 8 + c))) (hW : LXo S (fun w => if w < nW S ∧ bck S (nD S - 1) w = true then (if im S (nD S - 1) = 1 then d1 S (nD S - 1) else d2 S (nD S - 1)) else ol S w) σ') (hD : ∀ l, l < nL S → hI σ' 256 l 0 = hI σ 256 l 0 ∧ hL σ' 257 l 0 = hL σ 257 l 0 ∧ hR σ' 259 l 0 = hR σ 259 l 0 ∧ hI σ' 258 l 0 = if l = d1 S (nD S - 1) then bI (decide (im S (nD S - 1) ≠ 1)) else hI σ 258 l 0) : LX9 (S_undo S) σ' := by
  obtain ⟨h1, h2, h3, h4, h5⟩ := h
  have gL := hw.2.2.1.1
  obtain ⟨w1, w2, w3, w4, w5, w6⟩ := hw.2.2.2.2
  have dn : nD S - 1 < nD S := by omega
  obtain ⟨u1, u2, u3, u4, u5⟩ := w2 _ dn
  obtain ⟨t1, t2⟩ := w6 0 (by omega)
  rw [Nat.sub_zero] at t1 t2
  have t2' : th S (d2 S (nD S - 1)) = 1 := t1
  have hfo : ∀ l, fo (S_undo S) l = fo S l := fun l => congrArg (fun z => Option.getD z []) (un_R (by decide))
  have hhr : ∀ w, hr (S_undo S) w = hr S w := fun w => congrArg (fun z => Option.getD z []) (un_R (by decide))
  have him : ∀ d, im (S_undo S) d = im S d := fun d => un_N (by decide) (by decide) (by decide)
  have hd1 : ∀ d, d1 (S_undo S) d = d1 S d := fun d => un_N (by decide) (by decide) (by decide)
  have hd2 : ∀ d, d2 (S_undo S) d = d2 S d := fun d => un_N (by decide) (by decide) (by decide)
  have hmv : ∀ d, mv (S_undo S) d = mv S d := fun d => un_N (by decide) (by decide) (by decide)
  have hkp : ∀ j, kp (S_undo S) j = kp S j := fun j => un_R (by decide)
  refine ⟨h1.fr hF (by simp only [tgM, tgD, tgC, tgL]; omega), ⟨?_, fun l q => ?_, fun l q q2 => ?_⟩, fun l q => ?_, ⟨?_, fun w q => ?_, fun w q => ?_⟩, ⟨g, N, ?_, fun d q => ?_, fun d e q q2 => ?_, hV9⟩⟩
  · rw [un_nL]
    exact h2.1.fr hF (fun t z => by simp only [tgM, tgD, tgC, tgL] at z ⊢; omega)
  · rw [un_nL] at q
    obtain ⟨g1, g2, g3, g4⟩ := h2.2.1 l q
    obtain ⟨f1, f2, f3, f4⟩ := hD l q
    unfold LD
    rw [un_th, hfo]
    refine ⟨f1.trans g1, f2.trans g2, f4.trans ?_, f3.trans g4⟩
    by_cases e : l = d1 S (nD S - 1)
    · rw [if_pos e, if_pos e]
    · rw [if_neg e, if_neg e]; exact g3
  · rw [un_nL] at q
    have k := h2.2.2 l q q2
    exact ⟨(hF.rV (by simp only [tgM, tgD, tgC, tgL]; omega)).trans k.1, (hF.rV (by simp only [tgM, tgD, tgC, tgL]; omega)).trans k.2.1, (hF.rV (by simp only [tgM, tgD, tgC, tgL]; omega)).trans k.2.2⟩
  · rw [un_nL] at q
    by_cases e3 : l = d2 S (nD S - 1)
    · subst e3
      refine ⟨_, hB, fun _ c hc => ?_, fun d hd hm he => ?_⟩
      · rw [un_x hc, if_pos rfl]
      · rw [un_nD] at hd
        rw [him] at hm
        rw [hd1] at he
        have k := w4 d (by omega) hm
        rw [he, t2'] at k
        cases k
    · by_cases e : l = d1 S (nD S - 1)
      · subst e
        obtain ⟨f, g1, g2, g3⟩ := h3 _ q
        refine ⟨f, hA f g1, fun k c hc => ?_, fun d hd hm he => ?_⟩
        · rw [un_th, if_pos rfl] at k
          rw [un_x hc, if_neg e3, if_pos rfl]
          exact g3 _ dn k rfl c hc
        · rw [un_nD] at hd
          rw [him] at hm
          rw [hd1] at he
          have k := (w3 d (nD S - 1) (by omega) dn he).1
          rw [hm] at k
          cases k
      · obtain ⟨f, g1, g2, g3⟩ := h3 l q
        refine ⟨f, g1.fr hF (fun t z => by simp only [tgM, tgD, tgC, tgL] at z ⊢; omega), fun k c hc => ?_, fun d hd hm he c hc => ?_⟩
        · rw [un_th, if_neg e] at k
          rw [un_x hc, if_neg e3, if_neg e]
          exact g2 k c hc
        · rw [un_nD] at hd
          rw [him] at hm
          rw [hd1] at he
          rw [hkp]
          exact g3 d (by omega) hm he c hc
  · rw [un_nW]; exact hW.1
  · rw [un_nW] at q
    obtain ⟨g1, g2, g3, g4, g5⟩ := hW.2.1 w q
    unfold WD
    rw [un_ol, hhr, show cw (S_undo S) w = cw S w from un_N (by decide) (by decide) (by decide), show sw (S_undo S) w = sw S w from un_N (by decide) (by decide) (by decide), show hd9 (S_undo S) w = hd9 S w from un_N (by decide) (by decide) (by decide)]
    exact ⟨g1, g2, g3, g4, g5⟩
  · rw [un_nW] at q
    exact hW.2.2 w q
  · rw [un_nD]; exact hLs
  · rw [un_nD] at q
    exact ⟨(hG.2.1 d (by omega)).1, (hDD d q).set (him d) (hd1 d) (hd2 d) (hmv d) (fun c _ => hkp _)⟩
  · rw [un_nD] at q q2
    exact hG.2.2.1 d e (by omega) (by omega)
end LXA
