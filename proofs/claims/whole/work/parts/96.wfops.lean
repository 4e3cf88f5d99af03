/-! what holds of the spec's state holds of the next one: what a call does not touch, then call by call -/
def nWr (f i : Nat) : Bool := decide (f = 646) || decide (f = 658) || decide (f = 659) || (decide (f = 704) && decide (i = 23)) || (decide (f = 704) && decide (i = 24)) || (decide (f = 704) && decide (i = 25)) || (decide (f = 704) && decide (i = 26)) || (decide (f = 704) && decide (i = 27))
def nWl (f i : Nat) : Bool := decide (f = 643) || decide (f = 650) || (decide (f = 832) && decide (i = 9))
def rWl (f i : Nat) : Bool := decide (f = 647) || (decide (f = 768) && decide (i = 408)) || (decide (f = 768) && decide (i = 411)) || (decide (f = 768) && decide (i = 412)) || (decide (f = 768) && decide (i = 431))
def nWw (f i : Nat) : Bool := decide (f = 643) || decide (f = 650) || decide (f = 666) || (decide (f = 704) && decide (i = 31)) || (decide (f = 704) && decide (i = 32)) || (decide (f = 704) && decide (i = 33)) || (decide (f = 832) && decide (i = 25)) || (decide (f = 832) && decide (i = 9))
def rWw (f i : Nat) : Bool := (decide (f = 768) && decide (i = 424))
def nWd (f i : Nat) : Bool := decide (f = 650) || decide (f = 672) || (decide (f = 832) && decide (i = 9)) || (decide (f = 832) && decide (i = 27)) || (decide (f = 704) && decide (i = 38)) || (decide (f = 704) && decide (i = 39)) || (decide (f = 768) && decide (i = 430))
theorem WFs.cg {S S' : SP} (h : WFs S) (e : EqN nPs S S') : WFs S' := by
  have g0 : nS S' = nS S := e 643 0 0 rfl
  have g1 : nC S' = nC S := e 646 0 0 rfl
  have g2 : ∀ j, fe S' j = fe S j := fun j => e 704 11 j rfl
  have g3 : ∀ j, wi S' j = wi S j := fun j => e 704 12 j rfl
  have g4 : ∀ j, ne S' j = ne S j := fun j => e 704 14 j rfl
  have g5 : ∀ j, ba S' j = ba S j := fun j => e 704 15 j rfl
  simp only [WFs, g0, g1, g2, g3, g4, g5] at h ⊢
  exact h
theorem WFr.cg {S S' : SP} (h : WFr S) (e : EqN nWr S S') : WFr S' := by
  have g0 : nC S' = nC S := e 646 0 0 rfl
  have g1 : on9 S' = on9 S := e 658 0 0 rfl
  have g2 : nR S' = nR S := e 659 0 0 rfl
  have g3 : ∀ j, ta S' j = ta S j := fun j => e 704 23 j rfl
  have g4 : ∀ j, tu S' j = tu S j := fun j => e 704 24 j rfl
  have g5 : ∀ j, le9 S' j = le9 S j := fun j => e 704 25 j rfl
  have g6 : ∀ j, ri9 S' j = ri9 S j := fun j => e 704 26 j rfl
  have g7 : ∀ j, orr S' j = orr S j := fun j => e 704 27 j rfl
  simp only [WFr, g0, g1, g2, g3, g4, g5, g6, g7] at h ⊢
  exact h
theorem WFl.cg {S S' : SP} (h : WFl S) (e : EqN nWl S S') (e2 : EqR rWl S S') : WFl S' := by
  have g0 : nS S' = nS S := e 643 0 0 rfl
  have g1 : nL S' = nL S := e 650 0 0 rfl
  have g2 : ∀ j, th S' j = th S j := fun j => e 832 9 j rfl
  have g3 : dr S' = dr S := congrArg (fun z => Option.getD z []) (e2 647 0 0 rfl)
  have g4 : ∀ j, fo S' j = fo S j := fun j => congrArg (fun z => Option.getD z []) (e2 768 408 j rfl)
  have g5 : ∀ j, en S' j = en S j := fun j => congrArg (fun z => Option.getD z []) (e2 768 411 j rfl)
  have g6 : ∀ j, S'.2 768 412 j = S.2 768 412 j := fun j => e2 768 412 j rfl
  have g7 : ∀ j, S'.2 768 431 j = S.2 768 431 j := fun j => e2 768 431 j rfl
  simp only [WFl, okS, g0, g1, g2, g3, g4, g5, g6, g7] at h ⊢
  exact h
theorem WFw.cg {S S' : SP} (h : WFw S) (e : EqN nWw S S') (e2 : EqR rWw S S') : WFw S' := by
  have g0 : nS S' = nS S := e 643 0 0 rfl
  have g1 : nL S' = nL S := e 650 0 0 rfl
  have g2 : nW S' = nW S := e 666 0 0 rfl
  have g3 : ∀ j, ol S' j = ol S j := fun j => e 704 31 j rfl
  have g4 : ∀ j, cw S' j = cw S j := fun j => e 704 32 j rfl
  have g5 : ∀ j, sw S' j = sw S j := fun j => e 704 33 j rfl
  have g6 : ∀ j, hd9 S' j = hd9 S j := fun j => e 832 25 j rfl
  have g7 : ∀ j, th S' j = th S j := fun j => e 832 9 j rfl
  have g8 : ∀ j, hr S' j = hr S j := fun j => congrArg (fun z => Option.getD z []) (e2 768 424 j rfl)
  simp only [WFw, okS, g0, g1, g2, g3, g4, g5, g6, g7, g8] at h ⊢
  exact h
theorem thB_cg {S S' : SP} (e : EqN nWd S S') (l : Nat) : ∀ k, thB S' l k = thB S l k
  | 0 => e 832 9 l rfl
  | k + 1 => by
    have g0 : nD S' = nD S := e 672 0 0 rfl
    have g1 : ∀ j, d1 S' j = d1 S j := fun j => e 704 38 j rfl
    have g2 : ∀ j, im S' j = im S j := fun j => e 832 27 j rfl
    unfold thB
    rw [g0, g1, g2, thB_cg e l k]
theorem WFd.cg {S S' : SP} (h : WFd S) (e : EqN nWd S S') : WFd S' := by
  have g0 : nL S' = nL S := e 650 0 0 rfl
  have g1 : nD S' = nD S := e 672 0 0 rfl
  have g2 : ∀ j, th S' j = th S j := fun j => e 832 9 j rfl
  have g3 : ∀ j, im S' j = im S j := fun j => e 832 27 j rfl
  have g4 : ∀ j, d1 S' j = d1 S j := fun j => e 704 38 j rfl
  have g5 : ∀ j, d2 S' j = d2 S j := fun j => e 704 39 j rfl
  have g6 : ∀ j, mv S' j = mv S j := fun j => e 768 430 j rfl
  have gt := fun l k => thB_cg e l k
  simp only [WFd, g0, g1, g2, g3, g4, g5, g6, gt] at h ⊢
  exact h
theorem okS.up {S S' : SP} {r : List Nat} (h : okS S r) (e : nS S ≤ nS S') : okS S' r := ⟨h.1, fun s hs => Nat.lt_of_lt_of_le (h.2 s hs) e⟩
section WFO
variable {S : SP}
theorem WF.sound (h : WF S) {x : Nat} (hx : x < 64) (h0 : wi S x = 0) (hn : nS S < 16) : WF (S_sound S x) := by
  obtain ⟨⟨a1, a2, a3, a4, a5⟩, hr9, hl, hw, hd⟩ := h
  have e1 : nS (S_sound S x) = nS S + 1 := snd_nS
  have up : nS S ≤ nS (S_sound S x) := by rw [e1]; omega
  refine ⟨⟨by rw [e1]; omega, fun f hf => ?_, fun i hi => ?_, a4, a5⟩, hr9.cg (eqn_sound rfl rfl rfl), ?_, ?_, hd.cg (eqn_sound rfl rfl rfl)⟩
  · rw [snd_wi, e1]
    by_cases e : f = x
    · rw [if_pos e]
      refine ⟨Nat.le_refl _, fun _ => ?_⟩
      rw [Nat.add_sub_cancel, snd_fe, if_pos rfl, e]
    · rw [if_neg e]
      have k := a2 f hf
      refine ⟨by omega, fun z => ?_⟩
      rw [snd_fe, if_neg (by have := k.1; omega)]
      exact k.2 z
  · rw [e1] at hi
    rw [snd_fe]
    by_cases e : i = nS S
    · rw [if_pos e]
      exact ⟨hx, by rw [snd_wi, if_pos rfl, e]⟩
    · rw [if_neg e]
      have k := a3 i (by omega)
      refine ⟨k.1, ?_⟩
      rw [snd_wi, if_neg (fun z => by rw [z, h0] at k; exact absurd k.2 (by omega))]
      exact k.2
  · obtain ⟨l1, l2, l3, l4, l5, l6, l7⟩ := hl
    exact ⟨l1, fun l hl => ⟨(l2 l hl).1.up up, (l2 l hl).2⟩, fun c => ⟨(l3 c).1.up up, (l3 c).2⟩, l4.up up, fun j r z => (l5 j r z).up up, fun j r z => (l6 j r z).up up, l7⟩
  · obtain ⟨w1, w2, w3⟩ := hw
    exact ⟨w1, fun w => (w2 w).up up, w3⟩
theorem WF.kind (h : WF S) {n b : Nat} (h1 : n < 64) (h2 : b < 64) (hn : nC S < 12) : WF (S_kind S n b) := by
  obtain ⟨⟨a1, a2, a3, a4, a5⟩, ⟨r1, r2, r3⟩, hl, hw, hd⟩ := h
  refine ⟨⟨a1, a2, a3, by rw [knd_nC]; omega, fun c hc => ?_⟩, ⟨r1, fun r hr => ?_, r3⟩, hl.cg (eqn_kind rfl rfl rfl) (fun _ _ _ _ => rfl), hw.cg (eqn_kind rfl rfl rfl) (fun _ _ _ _ => rfl), hd.cg (eqn_kind rfl rfl rfl)⟩
  · rw [knd_nC] at hc
    rw [knd_ne, knd_ba]
    by_cases e : c = nC S
    · rw [if_pos e, if_pos e]; exact ⟨h1, h2⟩
    · rw [if_neg e, if_neg e]; exact a5 c (by omega)
  · obtain ⟨b1, b2, b3, b4⟩ := r2 r hr
    rw [knd_nC]
    exact ⟨Nat.lt_succ_of_lt b1, b2, Nat.lt_succ_of_lt b3, Nat.lt_succ_of_lt b4⟩
theorem WF.draft (h : WF S) {r : List Nat} (hr : okS S r) : WF (zR S 647 0 0 (some r)) := by
  obtain ⟨hs, hr9, ⟨l1, l2, l3, l4, l5, l6, l7⟩, hw, hd⟩ := h
  refine ⟨hs.cg EqN.rf.zR, hr9.cg EqN.rf.zR, ⟨l1, l2, l3, ?_, l5, l6, l7⟩, hw.cg EqN.rf.zR (EqR.rf.zR rfl), hd.cg EqN.rf.zR⟩
  show okS S (((zR S 647 0 0 (some r)).2 647 0 0).getD [])
  rw [zR_eq]
  exact hr
theorem okS_nil : okS S [] := ⟨Nat.zero_le _, fun s hs => nomatch hs⟩
theorem WF.noDraft (h : WF S) : WF (noDraft S) := h.draft okS_nil
theorem WF.form (h : WF S) {l : Nat} {r : List Nat} (hr : okS S r) (h1 : 1 ≤ r.length) (h6 : r.length ≤ 6) : WF (zR S 768 408 l (some r)) := by
  obtain ⟨hs, hr9, ⟨l1, l2, l3, l4, l5, l6, l7⟩, hw, hd⟩ := h
  refine ⟨hs.cg EqN.rf.zR, hr9.cg EqN.rf.zR, ⟨l1, fun l' hl => ?_, l3, l4, fun j r z => l5 j r ((zR_i (by decide)).symm.trans z), fun j r z => l6 j r ((zR_i (by decide)).symm.trans z), l7.1, l7.2.1, fun l' c q1 q2 q3 => (zR_i (by decide)).trans (l7.2.2 l' c q1 q2 q3)⟩, hw.cg EqN.rf.zR (EqR.rf.zR rfl), hd.cg EqN.rf.zR⟩
  show okS S (((zR S 768 408 l (some r)).2 768 408 l').getD []) ∧ 1 ≤ (((zR S 768 408 l (some r)).2 768 408 l').getD []).length ∧ (((zR S 768 408 l (some r)).2 768 408 l').getD []).length ≤ 6
  rw [zR_row]
  by_cases e : l' = l
  · rw [if_pos e]; exact ⟨hr, h1, h6⟩
  · rw [if_neg e]; exact l2 l' hl
theorem WF.ending (h : WF S) {c : Nat} {r : List Nat} (hr : okS S r) (h2 : r.length ≤ 2) : WF (zR S 768 411 c (some r)) := by
  obtain ⟨hs, hr9, ⟨l1, l2, l3, l4, l5, l6, l7⟩, hw, hd⟩ := h
  refine ⟨hs.cg EqN.rf.zR, hr9.cg EqN.rf.zR, ⟨l1, l2, fun c' => ?_, l4, fun j r z => l5 j r ((zR_i (by decide)).symm.trans z), fun j r z => l6 j r ((zR_i (by decide)).symm.trans z), l7.1, l7.2.1, fun l' c q1 q2 q3 => (zR_i (by decide)).trans (l7.2.2 l' c q1 q2 q3)⟩, hw.cg EqN.rf.zR (EqR.rf.zR rfl), hd.cg EqN.rf.zR⟩
  show okS S (((zR S 768 411 c (some r)).2 768 411 c').getD []) ∧ (((zR S 768 411 c (some r)).2 768 411 c').getD []).length ≤ 2
  rw [zR_row]
  by_cases e : c' = c
  · rw [if_pos e]; exact ⟨hr, h2⟩
  · rw [if_neg e]; exact l3 c'
theorem WF.wform (h : WF S) {v : Nat} {r : List Nat} (hr9 : okS S r) : WF (zR S 768 424 v (some r)) := by
  obtain ⟨hs, hr, hl, ⟨w1, w2, w3⟩, hd⟩ := h
  refine ⟨hs.cg EqN.rf.zR, hr.cg EqN.rf.zR, hl.cg EqN.rf.zR (EqR.rf.zR rfl), ⟨w1, fun w => ?_, w3⟩, hd.cg EqN.rf.zR⟩
  show okS S (((zR S 768 424 v (some r)).2 768 424 w).getD [])
  rw [zR_row]
  by_cases e : w = v
  · rw [if_pos e]; exact hr9
  · rw [if_neg e]; exact w2 w
theorem WF.gone (h : WF S) {v : Nat} : WF (zN S 832 25 v 0) := by
  obtain ⟨hs, hr, hl, ⟨w1, w2, w3⟩, hd⟩ := h
  refine ⟨hs.cg (EqN.rf.zN rfl), hr.cg (EqN.rf.zN rfl), hl.cg (EqN.rf.zN rfl) EqR.rf.zN, ⟨w1, w2, fun w hw => ?_⟩, hd.cg (EqN.rf.zN rfl)⟩
  obtain ⟨b1, b2, b3, b4, b5⟩ := w3 w hw
  have e1 : hd9 (zN S 832 25 v 0) w = if w = v then 0 else hd9 S w := zN_row
  have e2 : ∀ l, th (zN S 832 25 v 0) l = th S l := fun l => zN_i (by decide)
  refine ⟨b1, b2, b3, ?_, fun z => ?_⟩
  · rw [e1]; split <;> omega
  · rw [e2]
    rw [e1] at z
    by_cases e : w = v
    · rw [if_pos e] at z; cases z
    · rw [if_neg e] at z; exact b5 z
theorem WF.exc (h : WF S) {l c : Nat} {o : Option (List Nat)} (ho : ∀ r, o = some r → okS S r) (hl9 : l < nL S) (hc9 : c < 8) : WF (zR S 768 412 (8 * l + c) o) := by
  obtain ⟨hs, hr9, ⟨l1, l2, l3, l4, l5, l6, l7, l8, l9⟩, hw, hd⟩ := h
  refine ⟨hs.cg EqN.rf.zR, hr9.cg EqN.rf.zR, ⟨l1, fun l' hl => ?_, fun c' => ?_, l4, fun j r z => ?_, fun j r z => l6 j r ((zR_i (by decide)).symm.trans z), l7, l8, fun l' c' q1 q2 q3 => ?_⟩, hw.cg EqN.rf.zR (EqR.rf.zR rfl), hd.cg EqN.rf.zR⟩
  · have e : fo (zR S 768 412 (8 * l + c) o) l' = fo S l' := congrArg (fun z => Option.getD z []) (zR_i (by decide))
    rw [e]
    exact l2 l' hl
  · have e : en (zR S 768 412 (8 * l + c) o) c' = en S c' := congrArg (fun z => Option.getD z []) (zR_i (by decide))
    rw [e]
    exact l3 c'
  · rw [zR_row] at z
    by_cases e : j = 8 * l + c
    · rw [if_pos e] at z; exact ho r z
    · rw [if_neg e] at z; exact l5 j r z
  · show (zR S 768 412 (8 * l + c) o).2 768 412 (8 * l' + c') = none
    have q1' : nL S ≤ l' := q1
    rw [zR_row, if_neg (by omega)]
    exact l9 l' c' q1 q2 q3
theorem WF.makes (h : WF S) {r : List Nat} (hrr : okS S r) (h1 : 1 ≤ r.length) (h6 : r.length ≤ 6) (hn : nL S < 16) : WF (makes9 S r) := by
  obtain ⟨hs, hr9, ⟨l1, l2, l3, l4, l5, l6, l7, l8, l9⟩, ⟨w1, w2, w3⟩, ⟨d1', d2', d3', d4', d5', d6'⟩⟩ := h
  have tB : ∀ l, l < nL S → ∀ k, thB (makes9 S r) l k = thB S l k := fun l hl k => by
    induction k with
    | zero => exact (mk_th l).trans (if_neg (by omega))
    | succ k ih =>
      show (if l = d1 S (nD S - 1 - k) then im S (nD S - 1 - k) else thB (makes9 S r) l k) = _
      rw [ih]
      rfl
  refine ⟨hs.cg (mk_N rfl rfl), hr9.cg (mk_N rfl rfl), ⟨by rw [mk_nL]; omega, fun l hl => ?_, fun c => ?_, l4, fun j r z => l5 j r ((mk_x j).symm.trans z), fun j r z => l6 j r ((mk_kp j).symm.trans z), fun l => ?_, fun l hl => ?_, fun l c q1 q2 q3 => ?_⟩, ⟨w1, fun w => ?_, fun w hw => ?_⟩, ⟨d1', fun d hd => ?_, d3', fun i hi hm => ?_, d5', fun k hk => ?_⟩⟩
  · rw [mk_nL] at hl
    rw [mk_fo]
    by_cases e : l = nL S
    · rw [if_pos e]; exact ⟨hrr, h1, h6⟩
    · rw [if_neg e]; exact l2 l (by omega)
  · have e : en (makes9 S r) c = en S c := congrArg (fun z => Option.getD z []) (show (zR S 768 408 (nL S) (some r)).2 768 411 c = _ from zR_i (by decide))
    rw [e]
    exact l3 c
  · rw [mk_th]; split
    · exact Nat.le_refl _
    · exact l7 l
  · rw [mk_nL] at hl
    rw [mk_th, if_neg (by omega)]
    exact l8 l (by omega)
  · rw [mk_nL] at q1
    exact (mk_x _).trans (l9 l c (by omega) q2 q3)
  · have e : hr (makes9 S r) w = hr S w := congrArg (fun z => Option.getD z []) (show (zR S 768 408 (nL S) (some r)).2 768 424 w = _ from zR_i (by decide))
    rw [e]
    exact w2 w
  · obtain ⟨b1, b2, b3, b4, b5⟩ := w3 w hw
    rw [mk_nL]
    refine ⟨Nat.lt_succ_of_lt b1, b2, b3, b4, fun z => ?_⟩
    rw [mk_th]
    split
    · rfl
    · exact b5 z
  · obtain ⟨c1, c2, c3, c4, c5⟩ := d2' d hd
    rw [mk_nL]
    exact ⟨c1, Nat.lt_succ_of_lt c2, Nat.lt_succ_of_lt c3, c4, c5⟩
  · have k := d2' i hi
    show th (makes9 S r) (d1 S i) = 0
    rw [mk_th, if_neg (show ¬ d1 S i = nL S by have := k.2.1; omega)]
    exact d4' i hi hm
  · have hk' : k < nD S := hk
    have k2 := d2' (nD S - 1 - k) (by omega)
    have k6 := d6' k hk
    show thB (makes9 S r) (d2 S (nD S - 1 - k)) k = 1 ∧ (im S (nD S - 1 - k) = 0 → thB (makes9 S r) (d1 S (nD S - 1 - k)) k = 1)
    rw [tB _ k2.2.2.1, tB _ k2.2.1]
    exact k6
theorem WF.rule (h : WF S) {t u l r : Nat} (ht : t < nC S) (hu : u < 64) (hl9 : l < nC S + 2) (hr9 : r < nC S + 2) (hn : nR S < 6) : WF (S_rule S t u l r) := by
  obtain ⟨hs, ⟨r1, r2, r3, r4, r5⟩, hl, hw, hd⟩ := h
  refine ⟨hs.cg (eqn_rule rfl rfl rfl rfl rfl rfl rfl), ⟨by rw [rul_nR]; omega, fun q hq => ?_, fun p hp => ?_, fun p q hp hq e => ?_, ?_⟩, hl.cg (eqn_rule rfl rfl rfl rfl rfl rfl rfl) (fun _ _ _ _ => rfl), hw.cg (eqn_rule rfl rfl rfl rfl rfl rfl rfl) (fun _ _ _ _ => rfl), hd.cg (eqn_rule rfl rfl rfl rfl rfl rfl rfl)⟩
  · rw [rul_nR] at hq
    rw [rul_ta, rul_tu, rul_le9, rul_ri9, show nC (S_rule S t u l r) = nC S from rfl]
    by_cases e : q = nR S
    · rw [if_pos e, if_pos e, if_pos e, if_pos e]; exact ⟨ht, hu, hl9, hr9⟩
    · rw [if_neg e, if_neg e, if_neg e, if_neg e]; exact r2 q (by omega)
  · rw [rul_nR] at hp ⊢
    rw [rul_orr]
    by_cases e : p = nR S
    · rw [if_pos e]; omega
    · rw [if_neg e]
      have := r3 p (by omega)
      omega
  · rw [rul_nR] at hp hq
    rw [rul_orr, rul_orr] at e
    by_cases e1 : p = nR S
    · by_cases e2 : q = nR S
      · omega
      · rw [if_pos e1, if_neg e2] at e
        have := r3 q (by omega)
        omega
    · by_cases e2 : q = nR S
      · rw [if_neg e1, if_pos e2] at e
        have := r3 p (by omega)
        omega
      · rw [if_neg e1, if_neg e2] at e
        exact r4 p q (by omega) (by omega) e
  · rw [rul_on, rul_nR]
    have h9 : 2 ^ nR S < 2 ^ (nR S + 1) := Nat.pow_lt_pow_right (by decide) (by omega)
    exact Nat.or_lt_two_pow (by omega) h9
theorem WF.on (h : WF S) {r : Nat} {b : Bool} (hr : r < nR S) : WF (zN S 658 0 0 (setOn (on9 S) r b)) := by
  obtain ⟨hs, ⟨r1, r2, r3, r4, r5⟩, hl, hw, hd⟩ := h
  refine ⟨hs.cg (EqN.rf.zN rfl), ⟨r1, r2, r3, r4, ?_⟩, hl.cg (EqN.rf.zN rfl) EqR.rf.zN, hw.cg (EqN.rf.zN rfl) EqR.rf.zN, hd.cg (EqN.rf.zN rfl)⟩
  show (zN S 658 0 0 (setOn (on9 S) r b)).1 658 0 0 < 2 ^ nR S
  rw [zN_eq]
  exact setOn_lt r5 hr
theorem WF.raise (h : WF S) {r : Nat} (hr : r < nR S) : WF (S_raise S r) := by
  obtain ⟨p1, p2, p3⟩ := pos_spec h hr
  obtain ⟨hs, ⟨r1, r2, r3, r4, r5⟩, hl, hw, hd⟩ := h
  unfold S_raise
  by_cases e0 : pos9 S r = 0
  · rw [if_pos e0]
    exact ⟨hs, ⟨r1, r2, r3, r4, r5⟩, hl, hw, hd⟩
  · rw [if_neg e0]
    have eo : ∀ z, orr (zN (zN S 704 27 (pos9 S r) (orr S (pos9 S r - 1))) 704 27 (pos9 S r - 1) r) z = if z = pos9 S r - 1 then r else if z = pos9 S r then orr S (pos9 S r - 1) else orr S z := fun z => by
      show (zN _ _ _ _ _).1 704 27 z = _
      rw [zN_row, zN_row]
    refine ⟨hs.cg ((EqN.rf.zN rfl).zN rfl), ⟨r1, r2, fun p hp => ?_, fun p q hp hq e => ?_, r5⟩, hl.cg ((EqN.rf.zN rfl).zN rfl) (fun _ _ _ _ => rfl), hw.cg ((EqN.rf.zN rfl).zN rfl) (fun _ _ _ _ => rfl), hd.cg ((EqN.rf.zN rfl).zN rfl)⟩
    · rw [eo]
      have hp' : p < nR S := hp
      show _ < nR S
      split
      · exact hr
      · split
        · exact r3 _ (by omega)
        · exact r3 p hp'
    · have hp' : p < nR S := hp
      have hq' : q < nR S := hq
      have key : ∀ z, z < nR S → ∃ y, y < nR S ∧ orr S y = (if z = pos9 S r - 1 then r else if z = pos9 S r then orr S (pos9 S r - 1) else orr S z) ∧ (z = pos9 S r - 1 → y = pos9 S r) ∧ (z = pos9 S r → y = pos9 S r - 1) ∧ (z ≠ pos9 S r - 1 → z ≠ pos9 S r → y = z) := fun z hz => by
        by_cases z1 : z = pos9 S r - 1
        · exact ⟨pos9 S r, p1, by rw [if_pos z1, p2], fun _ => rfl, fun q => by omega, fun q => absurd z1 q⟩
        · by_cases z2 : z = pos9 S r
          · exact ⟨pos9 S r - 1, by omega, by rw [if_neg z1, if_pos z2], fun q => absurd q z1, fun _ => rfl, fun _ q => absurd z2 q⟩
          · exact ⟨z, hz, by rw [if_neg z1, if_neg z2], fun q => absurd q z1, fun q => absurd q z2, fun _ _ => rfl⟩
      rw [eo, eo] at e
      obtain ⟨y1, a1, a2, a3, a4, a5⟩ := key p hp'
      obtain ⟨y2, b1, b2, b3, b4, b5⟩ := key q hq'
      have hy : y1 = y2 := r4 y1 y2 a1 b1 (a2.trans (e.trans b2.symm))
      omega
theorem WF.word (h : WF S) {l c p : Nat} {r : List Nat} (hl9 : l < nL S) (ht : th S l = 1) (hc : c < 8) (hp : p < 4) (hr9 : okS S r) (hn : nW S < 40) : WF (S_word S l c p r) := by
  obtain ⟨hs, hr, hl, ⟨w1, w2, w3⟩, hd⟩ := h
  refine ⟨hs.cg (wd_N rfl rfl rfl rfl rfl), hr.cg (wd_N rfl rfl rfl rfl rfl), hl.cg (wd_N rfl rfl rfl rfl rfl) (wd_R rfl), ⟨by rw [wd_nW]; omega, fun w => ?_, fun w hw => ?_⟩, hd.cg (wd_N rfl rfl rfl rfl rfl)⟩
  · rw [wd_hr]
    split
    · exact hr9
    · exact w2 w
  · rw [wd_nW] at hw
    have et : ∀ z, th (S_word S l c p r) z = th S z := fun z => wd_N (p9 := fun f i => decide (f = 832) && decide (i = 9)) rfl rfl rfl rfl rfl 832 9 z rfl
    rw [wd_ol, wd_cw, wd_sw, wd_hd, et, show nL (S_word S l c p r) = nL S from rfl]
    by_cases e : w = nW S
    · rw [if_pos e, if_pos e, if_pos e, if_pos e]
      exact ⟨hl9, hc, hp, Nat.le_refl _, fun _ => ht⟩
    · rw [if_neg e, if_neg e, if_neg e, if_neg e]
      exact w3 w (by omega)
end WFO
