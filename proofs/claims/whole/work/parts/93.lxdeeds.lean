/-! the changes: a new one, what it moved, one that is taken back -/
def LXdG (S : SP) (σ : HS) (g : Nat → Nat) (N : Nat) : Prop := LS9 σ 5 (nD S) (fun d => (2, g d)) ∧ (∀ d, d < nD S → g d < N ∧ DD S σ d (g d)) ∧ (∀ d e, d < nD S → e < nD S → g d = g e → d = e) ∧ (∀ s, N ≤ s → hV σ (2, s) = false ∧ hV σ (1, 1000 + s) = false ∧ hV σ (12, 1000 + s) = false)
/-- what a deed kept, before its words are told of: the spec's state with one deed more -/
def S_deed (S : SP) (m its into v : Nat) : SP := zN (zN (keeps9 S m its into) 672 0 0 (nD S + 1)) 768 430 (nD S) v
section DED
variable {S : SP} {m its into v : Nat}
theorem dd_nD : nD (S_deed S m its into v) = nD S + 1 := (zN_f (by decide)).trans zN_eq
theorem dd_im (d : Nat) : im (S_deed S m its into v) d = if d = nD S then m else im S d := by
  unfold S_deed
  show (zN _ _ _ _ _).1 832 27 d = _
  rw [zN_f (by decide), zN_f (by decide)]
  exact kps_im S m its into d
theorem dd_d1 (d : Nat) : d1 (S_deed S m its into v) d = if d = nD S then its else d1 S d := by
  unfold S_deed
  show (zN _ _ _ _ _).1 704 38 d = _
  rw [zN_f (by decide), zN_f (by decide)]
  exact kps_d1 S m its into d
theorem dd_d2 (d : Nat) : d2 (S_deed S m its into v) d = if d = nD S then into else d2 S d := by
  unfold S_deed
  show (zN _ _ _ _ _).1 704 39 d = _
  rw [zN_f (by decide), zN_f (by decide)]
  exact kps_d2 S m its into d
theorem dd_mv (d : Nat) : mv (S_deed S m its into v) d = if d = nD S then v else mv S d := by
  unfold S_deed
  show (zN _ _ _ _ _).1 768 430 d = _
  rw [zN_row, zN_f (by decide)]
  by_cases e : d = nD S
  · rw [if_pos e, if_pos e]
  · rw [if_neg e, if_neg e]
    exact (kps_mv S m its into d).trans (if_neg e)
theorem dd_kp (j : Nat) : kp (S_deed S m its into v) j = kp (keeps9 S m its into) j := rfl
end DED
theorem DD.set {S T : SP} {σ : HS} {d s : Nat} (h : DD S σ d s) (e1 : im T d = im S d) (e2 : d1 T d = d1 S d) (e3 : d2 T d = d2 S d) (e4 : mv T d = mv S d) (e5 : ∀ c, c < 8 → kp T (16 * d + 8 + c) = kp S (16 * d + 8 + c)) : DD T σ d s := by
  obtain ⟨h1, h2, h3, h4, h5, f, h6, h7⟩ := h
  unfold DD
  rw [e1, e2, e3, e4]
  exact ⟨h1, h2, h3, h4, h5, f, h6, fun c hc => (h7 c hc).trans (e5 c hc).symm⟩
theorem LXd_new {S : SP} {σ' : HS} {g : Nat → Nat} {N m its into v : Nat} {f : Nat → Option (List Nat)} (hg : ∀ d, d < nD S → g d < N) (hi : ∀ d e, d < nD S → e < nD S → g d = g e → d = e) (hD : ∀ d, d < nD S → DD S σ' d (g d)) (hLs : LS9 σ' 5 (nD S + 1) (fun d => (2, if d = nD S then N else g d))) (e1 : hR σ' 128 N 0 = some (4, if m = 1 then its else into)) (e2 : hR σ' 129 N 0 = some (4, if m = 1 then into else its)) (e3 : hI σ' 130 N 0 = bI (decide (m ≠ 1))) (e4 : hR σ' 131 N 0 = some (1, 1000 + N)) (e5 : hL σ' 132 N 0 = lN v) (hC : CR9 σ' (1000 + N) f) (hf : ∀ c, c < 8 → f c = xc9 S into c) (hV9 : ∀ s, N + 1 ≤ s → hV σ' (2, s) = false ∧ hV σ' (1, 1000 + s) = false ∧ hV σ' (12, 1000 + s) = false) : LXdG (S_deed S m its into v) σ' (fun d => if d = nD S then N else g d) (N + 1) := by
  unfold LXdG
  rw [dd_nD]
  refine ⟨hLs, fun d hd => ?_, fun d e hd he h => ?_, hV9⟩
  · dsimp only
    by_cases e : d = nD S
    · rw [if_pos e]
      refine ⟨by omega, ?_⟩
      unfold DD
      rw [dd_im, dd_d1, dd_d2, dd_mv, if_pos e, if_pos e, if_pos e, if_pos e]
      refine ⟨e1, e2, e3, e4, e5, f, hC, fun c hc => (hf c hc).trans ?_⟩
      rw [dd_kp, kps_kp2 S m its into (by omega) hc, if_pos e]
    · rw [if_neg e]
      refine ⟨by have := hg d (by omega); omega, (hD d (by omega)).set (by rw [dd_im, if_neg e]) (by rw [dd_d1, if_neg e]) (by rw [dd_d2, if_neg e]) (by rw [dd_mv, if_neg e]) (fun c hc => ?_)⟩
      rw [dd_kp, kps_kp2 S m its into (by omega) hc, if_neg e]
  · dsimp only at h
    by_cases a1 : d = nD S
    · by_cases a2 : e = nD S
      · omega
      · rw [if_pos a1, if_neg a2] at h
        have := hg e (by omega)
        omega
    · by_cases a2 : e = nD S
      · rw [if_neg a1, if_pos a2] at h
        have := hg d (by omega)
        omega
      · rw [if_neg a1, if_neg a2] at h
        exact hi d e (by omega) (by omega) h
/-- the last change is told what was moved -/
theorem LXdG.moved {S : SP} {σ : HS} {g : Nat → Nat} {N m its into v v' : Nat} (h : LXdG (S_deed S m its into v) σ g N) : LXdG (S_deed S m its into v') (sL σ 132 (g (nD S)) 0 (lN v')) g N := by
  unfold LXdG at h ⊢
  rw [dd_nD] at h ⊢
  obtain ⟨h1, h2, h3, h4⟩ := h
  have k : Fr (fun t => t.1 = 2) σ (sL σ 132 (g (nD S)) 0 (lN v')) := Fr.rf.sL (by show 132 / 64 = 2; decide)
  refine ⟨h1.fr k (fun t z => by simp only [tgL] at z; omega), fun d hd => ⟨(h2 d hd).1, ?_⟩, h3, h4⟩
  obtain ⟨g1, g2, g3, g4, g5, f, g6, g7⟩ := (h2 d hd).2
  unfold DD at *
  rw [dd_im, dd_d1, dd_d2, dd_mv]
  rw [dd_im, dd_d1, dd_d2] at g1 g2
  rw [dd_im] at g3
  rw [dd_mv] at g5
  refine ⟨g1, g2, g3, g4, ?_, f, g6.fr k (fun t z => by simp only [tgC] at z ⊢; omega), g7⟩
  by_cases e : d = nD S
  · subst e
    rw [if_pos rfl]
    exact sL_eq
  · rw [if_neg e]
    rw [if_neg e] at g5
    exact (show up3 (hL σ) 132 (g (nD S)) 0 (lN v') 132 (g d) 0 = hL σ 132 (g d) 0 from up3_ne (fun z => e (h3 _ _ hd (by omega) z.2.1))).trans g5
theorem LXdG.fr {P : Tg → Prop} {S : SP} {σ σ' : HS} {g : Nat → Nat} {N : Nat} (h : LXdG S σ g N) (k : Fr P σ σ') (hn : ∀ t, tgD t → ¬ P t) : LXdG S σ' g N := by
  obtain ⟨h1, h2, h3, h4⟩ := h
  refine ⟨h1.fr k (fun t z => hn t (Or.inr (Or.inl z))), fun d q => ⟨(h2 d q).1, (h2 d q).2.fr k (hn _ (Or.inl rfl)) (fun t z => hn t (Or.inr (Or.inr ⟨z.1, by have := z.2; omega⟩)))⟩, h3, fun s q => ?_⟩
  obtain ⟨q1, q2, q3⟩ := h4 s q
  exact ⟨(k.rV (hn _ (Or.inl rfl))).trans q1, (k.rV (hn _ (Or.inr (Or.inr ⟨Or.inl rfl, by show 1000 ≤ 1000 + s; omega⟩)))).trans q2, (k.rV (hn _ (Or.inr (Or.inr ⟨Or.inr rfl, by show 1000 ≤ 1000 + s; omega⟩)))).trans q3⟩
theorem zN_2 {S : SP} {f i j v : Nat} : (zN S f i j v).2 = S.2 := rfl
theorem zR_1 {S : SP} {f i j : Nat} {v : Option (List Nat)} : (zR S f i j v).1 = S.1 := rfl
/-- merge's and split's states, column by column -/
def S_merge (S : SP) (a b : Nat) : SP := zN (zN (mergeX (moveW (keeps9 S 1 a b) a b 255 (nW S)) a b 8) 832 9 a 0) 672 0 0 (nD S + 1)
section MRG
variable {S : SP} {a b : Nat}
theorem mg_nD : nD (S_merge S a b) = nD S + 1 := zN_eq
theorem mvd_kps (S : SP) (m its into l c w : Nat) : mvd (keeps9 S m its into) l c w = mvd S l c w := by
  unfold mvd
  rw [show hd9 (keeps9 S m its into) w = hd9 S w from keeps9_N S m its into (by decide) (by decide) (by decide) (by decide) w, show ol (keeps9 S m its into) w = ol S w from keeps9_N S m its into (by decide) (by decide) (by decide) (by decide) w, show cw (keeps9 S m its into) w = cw S w from keeps9_N S m its into (by decide) (by decide) (by decide) (by decide) w]
theorem mvm_kps (S : SP) (m its into l c : Nat) : ∀ n, mvm (keeps9 S m its into) l c n = mvm S l c n
  | 0 => rfl
  | n + 1 => by
    unfold mvm
    rw [mvd_kps, mvm_kps S m its into l c n]
theorem kps_nD (S : SP) (m its into : Nat) : nD (keeps9 S m its into) = nD S := keeps9_N S m its into (by decide) (by decide) (by decide) (by decide) 0
/-- a column that no deed writes -/
theorem mg_N {f i j : Nat} (h1 : ¬ (f = 832 ∧ i = 27)) (h2 : ¬ (f = 704 ∧ i = 38)) (h3 : ¬ (f = 704 ∧ i = 39)) (h4 : ¬ (f = 768 ∧ i = 430)) (h5 : ¬ (f = 704 ∧ i = 31)) (h6 : ¬ (f = 832 ∧ i = 9)) (h7 : f ≠ 672) : (S_merge S a b).1 f i j = S.1 f i j := by
  unfold S_merge
  rw [zN_f h7, zN_ne (fun z => h6 ⟨z.1, z.2.1⟩), mergeX_N, moveW_N _ _ _ _ h5 h4]
  exact keeps9_N S 1 a b h1 h2 h3 h4 j
theorem mg_nL : nL (S_merge S a b) = nL S := mg_N (by decide) (by decide) (by decide) (by decide) (by decide) (by decide) (by decide)
theorem mg_nW : nW (S_merge S a b) = nW S := mg_N (by decide) (by decide) (by decide) (by decide) (by decide) (by decide) (by decide)
theorem mg_th (l : Nat) : th (S_merge S a b) l = if l = a then 0 else th S l := by
  unfold S_merge
  show (zN _ _ _ _ _).1 832 9 l = _
  rw [zN_f (by decide), zN_row, mergeX_N, moveW_N _ _ _ _ (by decide) (by decide)]
  by_cases e : l = a
  · rw [if_pos e, if_pos e]
  · rw [if_neg e, if_neg e]
    exact keeps9_N S 1 a b (by decide) (by decide) (by decide) (by decide) l
theorem mg_ol (w : Nat) : ol (S_merge S a b) w = if w < nW S ∧ mvd S a 255 w = true then b else ol S w := by
  unfold S_merge
  show (zN _ _ _ _ _).1 704 31 w = _
  rw [zN_f (by decide), zN_f (by decide), mergeX_N]
  refine (moveW_o _ a b 255 w (nW S)).trans ?_
  rw [mvd_kps, show ol (keeps9 S 1 a b) w = ol S w from keeps9_N S 1 a b (by decide) (by decide) (by decide) (by decide) w]
theorem mg_mv (d : Nat) : mv (S_merge S a b) d = if d = nD S then mvm S a 255 (nW S) else mv S d := by
  unfold S_merge
  show (zN _ _ _ _ _).1 768 430 d = _
  rw [zN_f (by decide), zN_f (by decide), mergeX_N]
  refine (moveW_v _ a b 255 d (nW S)).trans ?_
  rw [kps_nD, mvm_kps, kps_mv, kps_mv, if_pos rfl, Nat.zero_or]
  by_cases e : d = nD S
  · rw [if_pos e, if_pos e]
  · rw [if_neg e, if_neg e, if_neg e]
theorem mg_im (d : Nat) : im (S_merge S a b) d = if d = nD S then 1 else im S d := by
  unfold S_merge
  show (zN _ _ _ _ _).1 832 27 d = _
  rw [zN_f (by decide), zN_i (by decide), mergeX_N, moveW_N _ _ _ _ (by decide) (by decide)]
  exact kps_im S 1 a b d
theorem mg_d1 (d : Nat) : d1 (S_merge S a b) d = if d = nD S then a else d1 S d := by
  unfold S_merge
  show (zN _ _ _ _ _).1 704 38 d = _
  rw [zN_f (by decide), zN_f (by decide), mergeX_N, moveW_N _ _ _ _ (by decide) (by decide)]
  exact kps_d1 S 1 a b d
theorem mg_d2 (d : Nat) : d2 (S_merge S a b) d = if d = nD S then b else d2 S d := by
  unfold S_merge
  show (zN _ _ _ _ _).1 704 39 d = _
  rw [zN_f (by decide), zN_f (by decide), mergeX_N, moveW_N _ _ _ _ (by decide) (by decide)]
  exact kps_d2 S 1 a b d
theorem mg_R {f i j : Nat} (h1 : ¬ (f = 768 ∧ i = 412)) (h2 : ¬ (f = 768 ∧ i = 431)) : (S_merge S a b).2 f i j = S.2 f i j := by
  unfold S_merge
  rw [zN_2, zN_2, mergeX_R _ _ _ h1, moveW_R]
  exact keeps9_X S 1 a b h2 j
theorem mg_kp (j : Nat) : kp (S_merge S a b) j = kp (keeps9 S 1 a b) j := by
  unfold S_merge
  show (zN (zN (mergeX (moveW (keeps9 S 1 a b) a b 255 (nW S)) a b 8) 832 9 a 0) 672 0 0 (nD S + 1)).2 768 431 j = _
  rw [zN_2, zN_2, mergeX_R _ _ _ (by decide), moveW_R]
theorem mg_x (hab : a ≠ b) {l c : Nat} (hc : c < 8) : xc9 (S_merge S a b) l c = if l = a then none else if l = b then (if (xc9 S b c).isNone = true then xc9 S a c else xc9 S b c) else xc9 S l c := by
  unfold S_merge
  have e : ∀ l, xc9 (moveW (keeps9 S 1 a b) a b 255 (nW S)) l c = xc9 S l c := fun l => by
    show (moveW (keeps9 S 1 a b) a b 255 (nW S)).2 768 412 (8 * l + c) = _
    rw [moveW_R]
    exact keeps9_X S 1 a b (by decide) _
  show (zN (zN (mergeX (moveW (keeps9 S 1 a b) a b 255 (nW S)) a b 8) 832 9 a 0) 672 0 0 (nD S + 1)).2 768 412 (8 * l + c) = _
  rw [zN_2, zN_2]
  refine (mergeX_x _ hab hc 8 (Nat.le_refl _)).trans ?_
  rw [if_pos hc, e, e, e]
/-- the changes behind a merge -/
theorem mg_LXd {σ : HS} {g : Nat → Nat} {N : Nat} (h : LXdG (S_deed S 1 a b (mvm S a 255 (nW S))) σ g N) : LXd (S_merge S a b) σ := by
  have h' : LXd (S_deed S 1 a b (mvm S a 255 (nW S))) σ := ⟨g, N, h⟩
  refine h'.cg (fun f i j q => ?_) (fun f i j q => ?_)
  · simp only [nLd, Bool.or_eq_true, Bool.and_eq_true, decide_eq_true_eq] at q
    rcases q with ((((rfl | ⟨rfl, rfl⟩) | ⟨rfl, rfl⟩) | ⟨rfl, rfl⟩) | ⟨rfl, rfl⟩)
    · by_cases e : i = 0 ∧ j = 0
      · obtain ⟨rfl, rfl⟩ := e
        exact mg_nD.trans dd_nD.symm
      · unfold S_merge S_deed
        rw [zN_ne (fun z => e z.2), zN_f (by decide), mergeX_N, moveW_N _ _ _ _ (by simp) (by simp), zN_f (by decide), zN_ne (fun z => e z.2)]
    · exact (mg_im j).trans (dd_im j).symm
    · exact (mg_d1 j).trans (dd_d1 j).symm
    · exact (mg_d2 j).trans (dd_d2 j).symm
    · exact (mg_mv j).trans (dd_mv j).symm
  · simp only [rLd, Bool.and_eq_true, decide_eq_true_eq] at q
    obtain ⟨rfl, rfl⟩ := q
    exact mg_kp j
end MRG
