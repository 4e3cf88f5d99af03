/-! rows compared -/
def df5 (a b : List Nat) (p : Nat) : Bool := decide (cd a p ≠ cd b p)
def chB (a b : List Nat) : Nat := if a.length = b.length then fb_ct (df5 a b) 8 else a.length - b.length
def ok5 (a b : List Nat) (x y p : Nat) : Bool := !df5 a b p || decide ((cd a p = x + 1 ∧ cd b p = y + 1) ∨ (cd a p = y + 1 ∧ cd b p = x + 1))
def apB (a b : List Nat) (x y : Nat) : Bool := (List.range 8).all (ok5 a b x y) && decide (fb_ct (df5 a b) 8 = 1)
theorem df5_t {a b : List Nat} {p : Nat} (h : ¬ cd a p = cd b p) : df5 a b p = true := decide_eq_true h
theorem df5_f {a b : List Nat} {p : Nat} (h : cd a p = cd b p) : df5 a b p = false := decide_eq_false (fun z => z h)
theorem ok5_all {a b : List Nat} {x y p : Nat} (h : (List.range p).all (ok5 a b x y) = true) (k : ok5 a b x y p = true) : (List.range (p + 1)).all (ok5 a b x y) = true := by rw [all_succ, h, k]; rfl
theorem ok5_no {a b : List Nat} {x y p : Nat} (hp : p < 8) (k : ok5 a b x y p = false) : apB a b x y = false := by
  unfold apB
  have : (List.range 8).all (ok5 a b x y) = false := all_cut (w := p + 1) (by rw [all_succ, k, Bool.and_false]) (by omega)
  rw [this]; rfl
/-- the sounds that a rule turned or left out are those that are told by comparing -/
theorem cd_eq {a : List Nat} {p s : Nat} (h : a[p]? = some s) : cd a p = s + 1 := by unfold cd; rw [h]; rfl
theorem cd_out {a : List Nat} {p : Nat} (h : a.length ≤ p) : cd a p = 0 := by unfold cd; rw [List.getElem?_eq_none h]; rfl
theorem df5_app {a b : List Nat} {s t : Nat} (h : a.length = b.length) (p : Nat) : df5 (a ++ [s]) (b ++ [t]) p = if p = a.length then decide (s ≠ t) else df5 a b p := by
  unfold df5
  by_cases e : p = a.length
  · rw [if_pos e]
    have e1 : cd (a ++ [s]) p = s + 1 := cd_eq (by rw [e, List.getElem?_append_right (Nat.le_refl _)]; simp)
    have e2 : cd (b ++ [t]) p = t + 1 := cd_eq (by rw [e, h, List.getElem?_append_right (Nat.le_refl _)]; simp)
    rw [e1, e2]
    exact decide_eq_decide.mpr (by omega)
  · rw [if_neg e]
    have g : ∀ (c : List Nat) (u : Nat), c.length = a.length → cd (c ++ [u]) p = cd c p := by
      intro c u hc
      unfold cd
      rcases Nat.lt_or_ge p c.length with q | q
      · rw [List.getElem?_append_left q]
      · rw [List.getElem?_eq_none (by rw [List.length_append, List.length_singleton]; omega), List.getElem?_eq_none q]
    rw [g a s rfl, g b t h.symm]
theorem chB_app {a b : List Nat} {s t : Nat} (h : a.length = b.length) (h8 : a.length < 8) : fb_ct (df5 (a ++ [s]) (b ++ [t])) 8 = fb_ct (df5 a b) 8 + if s = t then 0 else 1 := by
  have e : df5 (a ++ [s]) (b ++ [t]) = fun p => if p = a.length then decide (s ≠ t) else df5 a b p := funext (df5_app h)
  have hu := fb_ct_upd (df5 a b) (decide (s ≠ t)) h8
  rw [e]
  have h0 : df5 a b a.length = false := df5_f (by rw [cd_out (Nat.le_refl _), cd_out (by omega)])
  rw [h0] at hu
  by_cases q : s = t
  · rw [decide_eq_false (fun z => z q)] at hu ⊢; rw [if_pos q]; simpa using hu
  · rw [decide_eq_true q] at hu ⊢; rw [if_neg q]; simpa using hu
theorem df5_self (a : List Nat) : fb_ct (df5 a a) 8 = 0 := fb_ct_zero.mpr (fun k _ => df5_f rfl)
theorem gone_ch {S : SP} (h : WFs S) {r : Nat} (hr : tu S r < 64) {row : List Nat} (hrow : okS S row) : (gone S r row).1.length ≤ row.length ∧ chB row (gone S r row).1 = (gone S r row).2 := by
  have h8 := hrow.1
  have main : ∀ k, k ≤ row.length → (tu S r = 0 → (gol S r row k).1.length + (gol S r row k).2 = k ∧ ((gol S r row k).2 = 0 → (gol S r row k).1 = row.take k)) ∧ (tu S r ≠ 0 → (gol S r row k).1.length = k ∧ fb_ct (df5 (row.take k) (gol S r row k).1) 8 = (gol S r row k).2) := by
    intro k
    induction k with
    | zero => intro _; exact ⟨fun _ => ⟨rfl, fun _ => rfl⟩, fun _ => ⟨rfl, df5_self []⟩⟩
    | succ k ih =>
      intro hk
      obtain ⟨s, hs⟩ : ∃ s, row[k]? = some s := ⟨_, List.getElem?_eq_getElem (by omega)⟩
      have hsS : s < nS S := hrow.2 s (List.mem_of_getElem? hs)
      obtain ⟨i1, i2⟩ := ih (by omega)
      have ht : row.take (k + 1) = row.take k ++ [s] := by rw [List.take_add_one, hs]; rfl
      rw [gol_succ hs, ht]
      refine ⟨fun h0 => ?_, fun h0 => ?_⟩
      · obtain ⟨j1, j2⟩ := i1 h0
        split
        · exact ⟨by show (gol S r row k).1.length + ((gol S r row k).2 + 1) = _; omega, fun z => absurd z (Nat.succ_ne_zero _)⟩
        · exact ⟨by rw [List.length_append, List.length_singleton]; show _ + 1 + (gol S r row k).2 = _; omega, fun z => by rw [j2 z]⟩
      · obtain ⟨j1, j2⟩ := i2 h0
        have hl : (row.take k).length = (gol S r row k).1.length := by rw [List.length_take, j1]; omega
        have hlt : (row.take k).length < 8 := by rw [List.length_take]; omega
        split
        · split
          · exact ⟨by rw [List.length_append, List.length_singleton, j1], by rw [chB_app hl hlt, j2, if_pos rfl]; rfl⟩
          · rename_i q
            refine ⟨by rw [List.length_append, List.length_singleton, j1], ?_⟩
            have gf := (h.2.2.1 s hsS).1
            have gx := xor_64 gf hr
            have hne : ¬ s = wi S (fe S s ^^^ tu S r) - 1 := fun z => by
              have k1 := (h.2.1 _ gx).2 q
              rw [← z] at k1
              have k2 : fe S s ^^^ (fe S s ^^^ tu S r) = fe S s ^^^ fe S s := by rw [← k1]
              rw [← Nat.xor_assoc, Nat.xor_self, Nat.zero_xor] at k2
              exact h0 k2
            rw [chB_app hl hlt, j2, if_neg hne]
        · exact ⟨by rw [List.length_append, List.length_singleton, j1], by rw [chB_app hl hlt, j2, if_pos rfl]; rfl⟩
  obtain ⟨m1, m2⟩ := main row.length (Nat.le_refl _)
  rw [List.take_of_length_le (Nat.le_refl _)] at m1 m2
  unfold gone chB
  by_cases h0 : tu S r = 0
  · obtain ⟨j1, j2⟩ := m1 h0
    refine ⟨by omega, ?_⟩
    by_cases q : (gol S r row row.length).2 = 0
    · rw [j2 q, if_pos rfl, q, df5_self]
    · rw [if_neg (by omega)]; omega
  · obtain ⟨j1, j2⟩ := m2 h0
    exact ⟨by omega, by rw [if_pos (by omega), j2]⟩
