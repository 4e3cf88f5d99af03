theorem cd_pos {a : List Nat} {p : Nat} (h : p < a.length) : 1 ≤ cd a p := by
  have : a[p]? = some a[p] := List.getElem?_eq_getElem h
  rw [cd_eq this]; omega
theorem cd_some {a : List Nat} {p s : Nat} : cd a p = s + 1 ↔ a[p]? = some s := by
  constructor
  · intro h
    cases e : a[p]? with
    | none => rw [show cd a p = 0 by unfold cd; rw [e]; rfl] at h; omega
    | some t => rw [cd_eq e] at h; exact congrArg some (by omega)
  · exact cd_eq
/-- the pair that proves a contrast, as the class tells it -/
theorem pair_ap (S : SP) (hw : WF S) (v w a b : Nat) (hab : a ≠ b) : isPair9 S v w a b = (decide (hd9 S v = 1 ∧ hd9 S w = 1 ∧ ol S v ≠ ol S w) && apB (hr S v) (hr S w) a b) := by
  have h8 := (WF_hr hw v).1
  have g8 := (WF_hr hw w).1
  generalize hA : hr S v = A at h8
  generalize hB : hr S w = B at g8
  have e1 : ∀ p, (A[p]? ≠ B[p]?) ↔ cd A p ≠ cd B p := by
    intro p
    have k : (A[p]? = B[p]?) ↔ cd A p = cd B p := by
      constructor
      · intro h; unfold cd; rw [h]
      · intro h
        cases eA : A[p]? with
        | none =>
          cases eB : B[p]? with
          | none => rfl
          | some t => rw [show cd A p = 0 by unfold cd; rw [eA]; rfl, cd_eq eB] at h; omega
        | some s =>
          rw [cd_eq eA] at h
          exact (cd_some.mp h.symm).symm
    exact not_congr k
  unfold isPair9
  rw [hA, hB]
  by_cases hl : A.length = B.length
  · have c1 : fb_ct (fun k => decide (A[k]? ≠ B[k]?)) A.length = fb_ct (df5 A B) 8 := by
      have s1 : fb_ct (fun k => decide (A[k]? ≠ B[k]?)) A.length = fb_ct (df5 A B) A.length := fb_ct_cong (fun k _ => decide_eq_decide.mpr (e1 k))
      have s2 := fb_ct_split (df5 A B) A.length (8 - A.length)
      have s3 : fb_ct (fun k => df5 A B (A.length + k)) (8 - A.length) = 0 := fb_ct_zero.mpr (fun k _ => df5_f (by rw [cd_out (by omega), cd_out (by omega)]))
      rw [show A.length + (8 - A.length) = 8 by omega, s3] at s2
      rw [s1, s2]; rfl
    rw [c1]
    by_cases one : fb_ct (df5 A B) 8 = 1
    · unfold apB
      rw [decide_eq_true one, Bool.and_true, Bool.and_true]
      have hd : decide (hd9 S v = 1 ∧ hd9 S w = 1 ∧ ol S v ≠ ol S w ∧ A.length = B.length) = decide (hd9 S v = 1 ∧ hd9 S w = 1 ∧ ol S v ≠ ol S w) := decide_eq_decide.mpr ⟨fun z => ⟨z.1, z.2.1, z.2.2.1⟩, fun z => ⟨z.1, z.2.1, z.2.2, hl⟩⟩
      rw [hd]
      refine congrArg (fun z => decide (hd9 S v = 1 ∧ hd9 S w = 1 ∧ ol S v ≠ ol S w) && z) ?_
      obtain ⟨k, hk, hkd⟩ := fb_ct_pos.mp (show 0 < fb_ct (df5 A B) 8 by omega)
      have only : ∀ j, j < 8 → df5 A B j = true → j = k := by
        intro j hj hjd
        have ha := fb_ct_succ (df5 A B) j
        have hb := fb_ct_succ (df5 A B) k
        rw [hjd, if_pos rfl] at ha
        rw [hkd, if_pos rfl] at hb
        have ma := fb_ct_mono (df5 A B) (show j + 1 ≤ 8 by omega)
        have mb := fb_ct_mono (df5 A B) (show k + 1 ≤ 8 by omega)
        exact fb_ct_kth_one hjd hkd (by omega)
      have ne : cd A k ≠ cd B k := of_decide_eq_true hkd
      by_cases m : (cd A k = a + 1 ∧ cd B k = b + 1) ∨ (cd A k = b + 1 ∧ cd B k = a + 1)
      · have t1 : (∃ k, k < A.length ∧ ((A[k]? = some a ∧ B[k]? = some b) ∨ (A[k]? = some b ∧ B[k]? = some a))) := by
          refine ⟨k, ?_, m.imp (fun z => ⟨cd_some.mp z.1, cd_some.mp z.2⟩) (fun z => ⟨cd_some.mp z.1, cd_some.mp z.2⟩)⟩
          rcases Nat.lt_or_ge k A.length with q | q
          · exact q
          · rw [cd_out q] at m; omega
        rw [decide_eq_true t1]
        refine (List.all_eq_true.mpr (fun p hp => ?_)).symm
        unfold ok5
        cases hd5 : df5 A B p with
        | false => rfl
        | true => rw [only p (List.mem_range.mp hp) hd5, decide_eq_true m]; rfl
      · have t1 : ¬ (∃ k, k < A.length ∧ ((A[k]? = some a ∧ B[k]? = some b) ∨ (A[k]? = some b ∧ B[k]? = some a))) := by
          rintro ⟨j, hj, hm⟩
          have hm' : (cd A j = a + 1 ∧ cd B j = b + 1) ∨ (cd A j = b + 1 ∧ cd B j = a + 1) := hm.imp (fun z => ⟨cd_eq z.1, cd_eq z.2⟩) (fun z => ⟨cd_eq z.1, cd_eq z.2⟩)
          have := only j (by omega) (df5_t (by omega))
          rw [this] at hm'
          exact m hm'
        rw [decide_eq_false t1]
        refine (all_cut (w := k + 1) ?_ (by omega)).symm
        rw [all_succ]
        have : ok5 A B a b k = false := by unfold ok5; rw [hkd, decide_eq_false m]; rfl
        rw [this, Bool.and_false]
    · unfold apB
      rw [decide_eq_false one]
      simp
  · have t0 : decide (hd9 S v = 1 ∧ hd9 S w = 1 ∧ ol S v ≠ ol S w ∧ A.length = B.length) = false := decide_eq_false (fun z => hl z.2.2.2)
    have t1 : apB A B a b = false := by
      rcases Nat.lt_or_gt_of_ne hl with q | q
      · refine ok5_no (p := A.length) (by omega) ?_
        have z1 := cd_out (a := A) (Nat.le_refl _)
        have z2 := cd_pos (a := B) q
        unfold ok5
        rw [df5_t (by omega), decide_eq_false (by omega)]; rfl
      · refine ok5_no (p := B.length) (by omega) ?_
        have z1 := cd_out (a := B) (Nat.le_refl _)
        have z2 := cd_pos (a := A) q
        unfold ok5
        rw [df5_t (by omega), decide_eq_false (by omega)]; rfl
    rw [t0, t1]
    simp
