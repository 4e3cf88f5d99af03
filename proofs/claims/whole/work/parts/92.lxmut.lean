/-! the lexicon's state behind a change of one of its objects -/
theorem XD.t {S : SP} {σ : HS} {l : Nat} (h : XD S σ l) (ht : th S l = 1) : CR9 σ l (fun c => xc9 S l c) := by
  obtain ⟨f, h1, h2, -⟩ := h
  exact h1.cong (h2 ht)
theorem XD.of1 {S : SP} {σ : HS} {l : Nat} {f : Nat → Option (List Nat)} (hw : WF S) (h : CR9 σ l f) (hf : ∀ c, c < 8 → f c = xc9 S l c) (ht : th S l = 1) : XD S σ l := ⟨f, h, fun _ => hf, fun d hd hm he => by
  have k := hw.2.2.2.2.2.2.2.1 d hd hm
  rw [he, ht] at k
  cases k⟩
section LXM
variable {S : SP} {σ σ' : HS}
theorem LX9.form (h : LX9 S σ) (hw : WF S) {l : Nat} (r : List Nat) : LX9 (zR S 768 408 l (some r)) (sL σ 257 l 0 (enc5 r)) := by
  obtain ⟨h1, h2, h3, h4, h5⟩ := h
  have k : Fr (fun t => t.1 = 4 ∧ t.2 = l) σ (sL σ 257 l 0 (enc5 r)) := Fr.rf.sL ⟨rfl, rfl⟩
  refine ⟨h1.fr k (by simp), ⟨LS9.fr (f := fun l => (4, l)) h2.1 k (fun t z => by simp only [tgL] at z; omega), fun l' q => ?_, h2.2.2⟩, (h3.fr hw k (fun t z q => by omega)).cg EqN.rf.zR (EqR.rf.zR rfl), (h4.fr k (fun t z => by simp only [tgW, tgL] at z; omega) (by have := hw.2.2.2.1.1; omega)).cg EqN.rf.zR (EqR.rf.zR rfl), (h5.fr k (fun t z => by simp only [tgD, tgL] at z; omega)).cg EqN.rf.zR (EqR.rf.zR rfl)⟩
  obtain ⟨g1, g2, g3, g4⟩ := h2.2.1 l' q
  refine ⟨g1, ?_, g3, g4⟩
  by_cases e : l' = l
  · subst e
    show _ = enc5 (((zR S 768 408 l' (some r)).2 768 408 l').getD [])
    rw [zR_eq]
    exact sL_eq
  · show _ = enc5 (((zR S 768 408 l (some r)).2 768 408 l').getD [])
    rw [zR_row, if_neg e]
    exact (show up3 (hL σ) 257 l 0 (enc5 r) 257 l' 0 = hL σ 257 l' 0 from up3_ne (fun z => e z.2.1)).trans g2
theorem LX9.wform (h : LX9 S σ) (hw : WF S) {v : Nat} (r : List Nat) : LX9 (zR S 768 424 v (some r)) (sL σ 515 v 0 (enc5 r)) := by
  obtain ⟨h1, h2, h3, h4, h5⟩ := h
  have k : Fr (fun t => t.1 = 8 ∧ t.2 = v) σ (sL σ 515 v 0 (enc5 r)) := Fr.rf.sL ⟨rfl, rfl⟩
  refine ⟨h1.fr k (by simp), (h2.fr k (fun t z => by simp only [tgL] at z; omega) (fun l _ => by simp) (by have := hw.2.2.1.1; omega) (fun l _ _ => ⟨by simp, by simp⟩)).cg EqN.rf.zR (EqR.rf.zR rfl), (h3.fr hw k (fun t z q => by omega)).cg EqN.rf.zR (EqR.rf.zR rfl), ⟨LS9.fr (f := fun w => (8, w)) h4.1 k (fun t z => by simp only [tgL] at z; omega), fun u q => ?_, h4.2.2⟩, (h5.fr k (fun t z => by simp only [tgD, tgL] at z; omega)).cg EqN.rf.zR (EqR.rf.zR rfl)⟩
  obtain ⟨g1, g2, g3, g4, g5⟩ := h4.2.1 u q
  refine ⟨g1, g2, g3, ?_, g5⟩
  by_cases e : u = v
  · subst e
    show _ = enc5 (((zR S 768 424 u (some r)).2 768 424 u).getD [])
    rw [zR_eq]
    exact sL_eq
  · show _ = enc5 (((zR S 768 424 v (some r)).2 768 424 u).getD [])
    rw [zR_row, if_neg e]
    exact (show up3 (hL σ) 515 v 0 (enc5 r) 515 u 0 = hL σ 515 u 0 from up3_ne (fun z => e z.2.1)).trans g4
theorem LX9.gone (h : LX9 S σ) (hw : WF S) {v : Nat} : LX9 (zN S 832 25 v 0) (sI σ 516 v 0 (nI 1)) := by
  obtain ⟨h1, h2, h3, h4, h5⟩ := h
  have k : Fr (fun t => t.1 = 8 ∧ t.2 = v) σ (sI σ 516 v 0 (nI 1)) := Fr.rf.sI ⟨rfl, rfl⟩
  refine ⟨h1.fr k (by simp), (h2.fr k (fun t z => by simp only [tgL] at z; omega) (fun l _ => by simp) (by have := hw.2.2.1.1; omega) (fun l _ _ => ⟨by simp, by simp⟩)).cg (EqN.rf.zN rfl) EqR.rf.zN, (h3.fr hw k (fun t z q => by omega)).cg (EqN.rf.zN rfl) EqR.rf.zN, ⟨LS9.fr (f := fun w => (8, w)) h4.1 k (fun t z => by simp only [tgL] at z; omega), fun u q => ?_, h4.2.2⟩, (h5.fr k (fun t z => by simp only [tgD, tgL] at z; omega)).cg (EqN.rf.zN rfl) EqR.rf.zN⟩
  obtain ⟨g1, g2, g3, g4, g5⟩ := h4.2.1 u q
  refine ⟨g1, (show up3 (hI σ) 516 v 0 (nI 1) 513 u 0 = hI σ 513 u 0 from up3_ne (fun z => absurd z.1 (by decide))).trans g2, (show up3 (hI σ) 516 v 0 (nI 1) 514 u 0 = hI σ 514 u 0 from up3_ne (fun z => absurd z.1 (by decide))).trans g3, g4, ?_⟩
  by_cases e : u = v
  · subst e
    show _ = bI (decide ((zN S 832 25 u 0).1 832 25 u ≠ 1))
    rw [zN_eq]
    exact sI_eq
  · show _ = bI (decide ((zN S 832 25 v 0).1 832 25 u ≠ 1))
    rw [zN_row, if_neg e]
    exact (show up3 (hI σ) 516 v 0 (nI 1) 516 u 0 = hI σ 516 u 0 from up3_ne (fun z => e z.2.1)).trans g5
theorem LX9.exc (h : LX9 S σ) (hw : WF S) {l c : Nat} {o : Option (List Nat)} (hl : l < nL S) (ht : th S l = 1) (hc : c < 8) (hF : Fr (tgC l) σ σ') (h2 : CR9 σ' l (fun u => if u = c then o else xc9 S l u)) : LX9 (zR S 768 412 (8 * l + c) o) σ' := by
  obtain ⟨h1, q2, h3, h4, h5⟩ := h
  have gL := hw.2.2.1.1
  refine ⟨h1.fr hF (by simp only [tgC]; omega), (q2.fr hF (fun t z => by simp only [tgC, tgL] at z ⊢; omega) (fun l _ => by simp only [tgC]; omega) (by omega) (fun l' q q2 => by simp only [tgC]; omega)).cg EqN.rf.zR (EqR.rf.zR rfl), fun l' q => ?_, (h4.fr hF (fun t z => by simp only [tgC, tgW, tgL] at z ⊢; omega) (by have := hw.2.2.2.1.1; omega)).cg EqN.rf.zR (EqR.rf.zR rfl), (h5.fr hF (fun t z => by simp only [tgC, tgD, tgL] at z ⊢; omega)).cg EqN.rf.zR (EqR.rf.zR rfl)⟩
  have hkp : ∀ j, kp (zR S 768 412 (8 * l + c) o) j = kp S j := fun j => zR_i (by decide)
  by_cases e : l' = l
  · subst e
    refine ⟨_, h2, fun _ u hu => ?_, fun d hd hm he => ?_⟩
    · show _ = (zR S 768 412 (8 * l' + c) o).2 768 412 (8 * l' + u)
      rw [zR_row]
      by_cases e2 : u = c
      · rw [if_pos e2, if_pos (by omega)]
      · rw [if_neg e2, if_neg (by omega)]
    · have k : th S l' = 0 := by
        have := hw.2.2.2.2.2.2.2.1 d hd hm
        rwa [show d1 S d = l' from he] at this
      rw [ht] at k
      cases k
  · obtain ⟨f, g1, g2, g3⟩ := h3 l' q
    refine ⟨f, g1.fr hF (fun t z => by simp only [tgC] at z ⊢; omega), fun k u hu => ?_, fun d hd hm he u hu => (g3 d hd hm he u hu).trans (hkp _).symm⟩
    show _ = (zR S 768 412 (8 * l + c) o).2 768 412 (8 * l' + u)
    rw [zR_row, if_neg (by omega)]
    exact g2 k u hu
/-- the draft is no part of it -/
theorem LX9.noDraft (h : LX9 S σ) {v : Option (List Nat)} : LX9 (zR S 647 0 0 v) σ := ⟨h.1, h.2.1.cg EqN.rf.zR (EqR.rf.zR rfl), h.2.2.1.cg EqN.rf.zR (EqR.rf.zR rfl), h.2.2.2.1.cg EqN.rf.zR (EqR.rf.zR rfl), h.2.2.2.2.cg EqN.rf.zR (EqR.rf.zR rfl)⟩
section MKS
variable {r : List Nat}
theorem mk_nL : nL (makes9 S r) = nL S + 1 := zN_eq
theorem mk_th (l : Nat) : th (makes9 S r) l = if l = nL S then 1 else th S l := by
  unfold makes9
  show (zN _ _ _ _ _).1 832 9 l = _
  rw [zN_f (by decide), zN_row]
  rfl
theorem mk_fo (l : Nat) : fo (makes9 S r) l = if l = nL S then r else fo S l := by
  unfold makes9
  show ((zR S 768 408 (nL S) (some r)).2 768 408 l).getD [] = _
  rw [zR_row]
  by_cases e : l = nL S
  · rw [if_pos e, if_pos e]; rfl
  · rw [if_neg e, if_neg e]
theorem mk_x (j : Nat) : (makes9 S r).2 768 412 j = S.2 768 412 j := by
  show (zR S 768 408 (nL S) (some r)).2 768 412 j = _
  exact zR_i (by decide)
theorem mk_kp (j : Nat) : kp (makes9 S r) j = kp S j := by
  show (zR S 768 408 (nL S) (some r)).2 768 431 j = _
  exact zR_i (by decide)
theorem mk_N {p : Nat → Nat → Bool} (h1 : p 832 9 = false) (h2 : p 650 0 = false) : EqN p S (makes9 S r) := ((EqN.rf.zR).zN h1).zN h2
theorem mk_R {p : Nat → Nat → Bool} (h1 : p 768 408 = false) : EqR p S (makes9 S r) := ((EqR.rf.zR h1).zN).zN
end MKS
theorem LX9.addL (h : LX9 S σ) (hw : WF S) {r : List Nat} (hn : nL S < 16) (hF : Fr tgX σ σ') (hl : LS9 σ' 3 (nL S + 1) (fun l => (4, l))) (hD : ∀ l, l < nL S → LD S σ' l) (e1 : hI σ' 256 (nL S) 0 = nI (nL S)) (e2 : hL σ' 257 (nL S) 0 = enc5 r) (e3 : hI σ' 258 (nL S) 0 = nI 0) (e4 : hR σ' 259 (nL S) 0 = some (1, nL S)) (hX : ∀ l, l < nL S → XD S σ' l) (hC : CR9 σ' (nL S) (fun _ => none)) (hV9 : ∀ l, nL S + 1 ≤ l → l < 100 → hV σ' (4, l) = false ∧ hV σ' (1, l) = false ∧ hV σ' (12, l) = false) : LX9 (makes9 S r) σ' := by
  obtain ⟨h1, h2, h3, h4, h5⟩ := h
  have gL := hw.2.2.1.1
  refine ⟨h1.fr hF (by simp only [tgX, tgL]; omega), ⟨by rw [mk_nL]; exact hl, fun l q => ?_, fun l q => hV9 l (by rw [mk_nL] at q; exact q)⟩, fun l q => ?_, (h4.fr hF (fun t z => by simp only [tgX, tgW, tgL] at z ⊢; omega) (by have := hw.2.2.2.1.1; omega)).cg (mk_N rfl rfl) (mk_R rfl), (h5.fr hF (fun t z => by simp only [tgX, tgD, tgL] at z ⊢; omega)).cg (mk_N rfl rfl) (mk_R rfl)⟩
  · rw [mk_nL] at q
    unfold LD
    rw [mk_fo, mk_th]
    by_cases e : l = nL S
    · subst e
      rw [if_pos rfl, if_pos rfl]
      exact ⟨e1, e2, e3, e4⟩
    · rw [if_neg e, if_neg e]
      exact hD l (by omega)
  · rw [mk_nL] at q
    by_cases e : l = nL S
    · subst e
      refine ⟨_, hC, fun _ c hc => ?_, fun d hd hm he => ?_⟩
      · show none = (makes9 S r).2 768 412 (8 * nL S + c)
        rw [mk_x]
        exact (hw.2.2.1.2.2.2.2.2.2.2.2 (nL S) c (Nat.le_refl _) hn hc).symm
      · have := (hw.2.2.2.2.2.1 d hd).2.1
        have he' : d1 S d = nL S := he
        omega
    · obtain ⟨f, g1, g2, g3⟩ := hX l (by omega)
      refine ⟨f, g1, fun k c hc => ?_, fun d hd hm he c hc => (g3 d hd hm he c hc).trans (mk_kp _).symm⟩
      rw [mk_th, if_neg e] at k
      exact (g2 k c hc).trans (mk_x _).symm
def S_word (S : SP) (l c p : Nat) (r : List Nat) : SP := zN (zN (zR (zN (zN (zN S 704 31 (nW S) l) 704 32 (nW S) c) 704 33 (nW S) p) 768 424 (nW S) (some r)) 832 25 (nW S) 1) 666 0 0 (nW S + 1)
section WRD
variable {l c p : Nat} {r : List Nat}
theorem wd_nW : nW (S_word S l c p r) = nW S + 1 := zN_eq
theorem wd_ol (w : Nat) : ol (S_word S l c p r) w = if w = nW S then l else ol S w := by
  unfold S_word
  show (zN (zN (zN (zN (zN S 704 31 (nW S) l) 704 32 (nW S) c) 704 33 (nW S) p) 832 25 (nW S) 1) 666 0 0 (nW S + 1)).1 704 31 w = _
  rw [zN_f (by decide), zN_f (by decide), zN_i (by decide), zN_i (by decide), zN_row]
theorem wd_cw (w : Nat) : cw (S_word S l c p r) w = if w = nW S then c else cw S w := by
  unfold S_word
  show (zN (zN (zN (zN (zN S 704 31 (nW S) l) 704 32 (nW S) c) 704 33 (nW S) p) 832 25 (nW S) 1) 666 0 0 (nW S + 1)).1 704 32 w = _
  rw [zN_f (by decide), zN_f (by decide), zN_i (by decide), zN_row, zN_i (by decide)]
theorem wd_sw (w : Nat) : sw (S_word S l c p r) w = if w = nW S then p else sw S w := by
  unfold S_word
  show (zN (zN (zN (zN (zN S 704 31 (nW S) l) 704 32 (nW S) c) 704 33 (nW S) p) 832 25 (nW S) 1) 666 0 0 (nW S + 1)).1 704 33 w = _
  rw [zN_f (by decide), zN_f (by decide), zN_row, zN_i (by decide), zN_i (by decide)]
theorem wd_hd (w : Nat) : hd9 (S_word S l c p r) w = if w = nW S then 1 else hd9 S w := by
  unfold S_word
  show (zN (zN (zN (zN (zN S 704 31 (nW S) l) 704 32 (nW S) c) 704 33 (nW S) p) 832 25 (nW S) 1) 666 0 0 (nW S + 1)).1 832 25 w = _
  rw [zN_f (by decide), zN_row, zN_f (by decide), zN_f (by decide), zN_f (by decide)]
theorem wd_hr (w : Nat) : hr (S_word S l c p r) w = if w = nW S then r else hr S w := by
  unfold S_word
  show ((zR S 768 424 (nW S) (some r)).2 768 424 w).getD [] = _
  rw [zR_row]
  by_cases e : w = nW S
  · rw [if_pos e, if_pos e]; rfl
  · rw [if_neg e, if_neg e]
theorem wd_N {p9 : Nat → Nat → Bool} (h1 : p9 704 31 = false) (h2 : p9 704 32 = false) (h3 : p9 704 33 = false) (h4 : p9 832 25 = false) (h5 : p9 666 0 = false) : EqN p9 S (S_word S l c p r) := (((((EqN.rf.zN h1).zN h2).zN h3).zR).zN h4).zN h5
theorem wd_R {p9 : Nat → Nat → Bool} (h1 : p9 768 424 = false) : EqR p9 S (S_word S l c p r) := (((((EqR.rf.zN).zN).zN).zR h1).zN).zN
end WRD
theorem LX9.addW (h : LX9 S σ) (hw : WF S) {l c p : Nat} {r : List Nat} (hF : Fr tgW σ σ') (hl : LS9 σ' 4 (nW S + 1) (fun w => (8, w))) (hD : ∀ w, w < nW S → WD S σ' w) (e1 : hR σ' 512 (nW S) 0 = some (4, l)) (e2 : hI σ' 513 (nW S) 0 = nI c) (e3 : hI σ' 514 (nW S) 0 = nI p) (e4 : hL σ' 515 (nW S) 0 = enc5 r) (e5 : hI σ' 516 (nW S) 0 = nI 0) (hV9 : ∀ w, nW S + 1 ≤ w → w < 100 → hV σ' (8, w) = false) : LX9 (S_word S l c p r) σ' := by
  obtain ⟨h1, h2, h3, h4, h5⟩ := h
  refine ⟨h1.fr hF (by simp only [tgW, tgL]; omega), (h2.fr hF (fun t z => by simp only [tgW, tgL] at z ⊢; omega) (fun l _ => by simp only [tgW, tgL]; omega) (by have := hw.2.2.1.1; omega) (fun l _ _ => by simp only [tgW, tgL]; omega)).cg (wd_N rfl rfl rfl rfl rfl) (wd_R rfl), (h3.fr hw hF (fun t z q => by simp only [tgW, tgL]; omega)).cg (wd_N rfl rfl rfl rfl rfl) (wd_R rfl), ⟨by rw [wd_nW]; exact hl, fun w q => ?_, fun w q => hV9 w (by rw [wd_nW] at q; exact q)⟩, (h5.fr hF (fun t z => by simp only [tgW, tgD, tgL] at z ⊢; omega)).cg (wd_N rfl rfl rfl rfl rfl) (wd_R rfl)⟩
  rw [wd_nW] at q
  unfold WD
  rw [wd_ol, wd_cw, wd_sw, wd_hr, wd_hd]
  by_cases e : w = nW S
  · subst e
    rw [if_pos rfl, if_pos rfl, if_pos rfl, if_pos rfl, if_pos rfl]
    exact ⟨e1, e2, e3, e4, e5⟩
  · rw [if_neg e, if_neg e, if_neg e, if_neg e, if_neg e]
    exact hD w (by omega)
end LXM
