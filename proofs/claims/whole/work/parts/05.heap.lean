/-! the heap as columns: a tag (kind, number) names a cell; kinds 0 to 10 are objects of vwCl's classes, 11 int rows, 12 long rows, 13 boolean rows, 14 rows of objects; field s of kind k is column 64 * k + s -/
abbrev Tg : Type := Nat × Nat
abbrev HS : Type := (Nat → Nat → Nat → Int32) × (Nat → Nat → Nat → Int64) × (Nat → Nat → Nat → Option Tg) × (Nat → Nat → Nat) × (Tg → Bool) × (Tg → Nat) × (Nat → Tg)
abbrev hI (σ : HS) : Nat → Nat → Nat → Int32 := σ.1
abbrev hL (σ : HS) : Nat → Nat → Nat → Int64 := σ.2.1
abbrev hR (σ : HS) : Nat → Nat → Nat → Option Tg := σ.2.2.1
abbrev hN (σ : HS) : Nat → Nat → Nat := σ.2.2.2.1
abbrev hV (σ : HS) : Tg → Bool := σ.2.2.2.2.1
abbrev hG (σ : HS) : Tg → Nat := σ.2.2.2.2.2.1
abbrev hT (σ : HS) : Nat → Tg := σ.2.2.2.2.2.2
def up3 {α : Type} (f : Nat → Nat → Nat → α) (a b c : Nat) (v : α) : Nat → Nat → Nat → α := fun x y z => if x = a ∧ y = b ∧ z = c then v else f x y z
def up1 {α : Type} (f : Tg → α) (t : Tg) (v : α) : Tg → α := fun x => if x = t then v else f x
def clr {α : Type} (f : Nat → Nat → Nat → α) (t : Tg) (v : α) : Nat → Nat → Nat → α := fun x y z => if x / 64 = t.1 ∧ y = t.2 then v else f x y z
def sI (σ : HS) (f i j : Nat) (v : Int32) : HS := (up3 σ.1 f i j v, σ.2)
def sL (σ : HS) (f i j : Nat) (v : Int64) : HS := (σ.1, up3 σ.2.1 f i j v, σ.2.2)
def sR (σ : HS) (f i j : Nat) (v : Option Tg) : HS := (σ.1, σ.2.1, up3 σ.2.2.1 f i j v, σ.2.2.2)
def sNew (σ : HS) (t : Tg) (q n : Nat) : HS := (clr σ.1 t 0, clr σ.2.1 t 0, clr σ.2.2.1 t none, (fun k i => if k = t.1 ∧ i = t.2 then n else hN σ k i), up1 (hV σ) t true, up1 (hG σ) t q, va_up (hT σ) q t)
theorem up3_eq {α : Type} {f : Nat → Nat → Nat → α} {a b c : Nat} {v : α} : up3 f a b c v a b c = v := if_pos ⟨rfl, rfl, rfl⟩
theorem up3_ne {α : Type} {f : Nat → Nat → Nat → α} {a b c x y z : Nat} {v : α} (h : ¬ (x = a ∧ y = b ∧ z = c)) : up3 f a b c v x y z = f x y z := if_neg h
theorem up1_eq {α : Type} {f : Tg → α} {t : Tg} {v : α} : up1 f t v t = v := if_pos rfl
theorem up1_ne {α : Type} {f : Tg → α} {t x : Tg} {v : α} (h : x ≠ t) : up1 f t v x = f x := if_neg h
theorem clr_eq {α : Type} {f : Nat → Nat → Nat → α} {t : Tg} {v : α} {x y z : Nat} (h : x / 64 = t.1) (h2 : y = t.2) : clr f t v x y z = v := if_pos ⟨h, h2⟩
theorem clr_ne {α : Type} {f : Nat → Nat → Nat → α} {t : Tg} {v : α} {x y z : Nat} (h : ¬ (x / 64 = t.1 ∧ y = t.2)) : clr f t v x y z = f x y z := if_neg h
theorem tg_ne {t t' : Tg} (h : t' ≠ t) : ¬ (t'.1 = t.1 ∧ t'.2 = t.2) := fun q => h (Prod.ext q.1 q.2)
/-- the kinds of the fields: 0 an int, 1 a long, 2 a reference -/
def fkl : Nat → List Nat
  | 0 => [0, 2, 0]
  | 1 => [2, 0]
  | 2 => [2, 2, 0, 2, 1]
  | 3 => [0, 0, 0]
  | 4 => [0, 1, 0, 2]
  | 5 => [2, 2, 2]
  | 6 => [2, 2, 0, 2, 2, 2, 2, 2, 0, 2]
  | 7 => [0, 2, 0, 2, 2]
  | 8 => [2, 0, 0, 1, 0]
  | 9 => [2, 2, 2, 1]
  | 10 => [0, 2, 2, 0, 2, 2, 0, 1, 2, 2, 0, 2, 2, 2, 2, 2, 2, 2, 0, 0, 0, 2, 2, 2, 2, 2, 0, 2, 2, 2, 2, 2, 0, 2]
  | _ => []
def fk (k s : Nat) : Nat := (fkl k).getD s 0
def hs_fv (σ : HS) (t : Tg) (s : Nat) : Value := match fk t.1 s with
  | 0 => .int (hI σ (64 * t.1 + s) t.2 0)
  | 1 => .long (hL σ (64 * t.1 + s) t.2 0)
  | _ => va_rf ((hR σ (64 * t.1 + s) t.2 0).map (hG σ))
def hs_ac (σ : HS) (t : Tg) : vp_A := (hN σ t.1 t.2, if t.1 = 12 then .inr (.inl (fun j => hL σ 768 t.2 j)) else if t.1 = 14 then .inr (.inr (.inr (.inr (fun j => (hR σ 896 t.2 j).map (hG σ))))) else .inl (fun j => hI σ (64 * t.1) t.2 j))
/-- the world's constants: the classes' numbers, the rows' classes, the first cell of ours, the empty row of ArrayList -/
abbrev Wd : Type := va_G × (Nat → ClassId) × Nat × Nat
abbrev wB (w : Wd) : Nat := w.2.2.1
abbrev wE (w : Wd) : Nat := w.2.2.2
def hs_at (w : Wd) (σ : HS) (t : Tg) (H : Heap) : Prop := if t.1 < 11 then ∃ r : vw_C, vwCl[t.1]? = some r ∧ t_OB (hG σ t) (w.1.1 t.1) r.2.2 (w.1.2 t.1) H (hs_fv σ t) else H[hG σ t]? = some (vp_cell (w.2.1 t.1) (hs_ac σ t))
def hs_R (w : Wd) (σ : HS) (H : Heap) : Prop := (∀ t, hV σ t = true → hs_at w σ t H ∧ hT σ (hG σ t) = t ∧ wB w ≤ hG σ t) ∧ (∀ f i j t', hV σ (f / 64, i) = true → hR σ f i j = some t' → hV σ t' = true ∨ t' = (15, 0)) ∧ hV σ (15, 0) = false ∧ hG σ (15, 0) = wE w
theorem hs_at.lt {w : Wd} {σ : HS} {t : Tg} {H : Heap} (h : hs_at w σ t H) : hG σ t < H.size := by
  unfold hs_at at h
  split at h
  · obtain ⟨r, -, cell, h2, -⟩ := h
    exact (Array.getElem?_eq_some_iff.mp h2).1
  · exact (Array.getElem?_eq_some_iff.mp h).1
theorem hs_at.kept {w : Wd} {σ : HS} {t : Tg} {H H1 : Heap} (h : hs_at w σ t H) (hq : H1[hG σ t]? = H[hG σ t]?) : hs_at w σ t H1 := by
  unfold hs_at at h ⊢
  split at h
  · rename_i hk
    rw [if_pos hk]
    obtain ⟨r, h1, h2⟩ := h
    exact ⟨r, h1, h2.kept hq⟩
  · rename_i hk
    rw [if_neg hk, hq]
    exact h
theorem hs_at.obj {w : Wd} {σ : HS} {t : Tg} {H : Heap} (h : hs_at w σ t H) (hk : t.1 < 11) {C : String} {T : u_T} {N : Nat} (hc : vwCl[t.1]? = some (C, T, N)) : t_OB (hG σ t) (w.1.1 t.1) N (w.1.2 t.1) H (hs_fv σ t) := by
  unfold hs_at at h
  rw [if_pos hk] at h
  obtain ⟨r, h1, h2⟩ := h
  cases h1.symm.trans hc
  exact h2
theorem hs_at.row {w : Wd} {σ : HS} {t : Tg} {H : Heap} (h : hs_at w σ t H) (hk : 11 ≤ t.1) : H[hG σ t]? = some (vp_cell (w.2.1 t.1) (hs_ac σ t)) := by
  unfold hs_at at h
  rwa [if_neg (Nat.not_lt.mpr hk)] at h
/-- the same columns at a tag: the same cell -/
theorem hs_at.congr {w : Wd} {σ σ' : HS} {t : Tg} {H : Heap} (h : hs_at w σ t H) (hg : hG σ' t = hG σ t) (hn : hN σ' t.1 t.2 = hN σ t.1 t.2)
    (hi : ∀ s j, s < 64 → hI σ' (64 * t.1 + s) t.2 j = hI σ (64 * t.1 + s) t.2 j) (hl : ∀ s j, s < 64 → hL σ' (64 * t.1 + s) t.2 j = hL σ (64 * t.1 + s) t.2 j)
    (hr : ∀ s j, s < 64 → (hR σ' (64 * t.1 + s) t.2 j).map (hG σ') = (hR σ (64 * t.1 + s) t.2 j).map (hG σ)) : hs_at w σ' t H := by
  unfold hs_at at h ⊢
  rw [hg]
  split at h
  · rename_i hk
    rw [if_pos hk]
    obtain ⟨r, h1, h2⟩ := h
    refine ⟨r, h1, h2.to fun k hk2 => ?_⟩
    have hN64 : r.2.2 ≤ 34 := by
      have hm : r ∈ vwCl := List.mem_of_getElem? h1
      have : ∀ q ∈ vwCl, q.2.2 ≤ 34 := by decide +kernel
      exact this r hm
    unfold hs_fv
    rw [hi k 0 (by omega), hl k 0 (by omega), hr k 0 (by omega)]
  · rename_i hk
    rw [if_neg hk, h]
    have e : hs_ac σ' t = hs_ac σ t := by
      unfold hs_ac
      rw [hn]
      by_cases c12 : t.1 = 12
      · rw [if_pos c12, if_pos c12]
        have : (fun j => hL σ' 768 t.2 j) = (fun j => hL σ 768 t.2 j) := by
          funext j
          have := hl 0 j (by omega)
          rw [c12] at this
          exact this
        rw [this]
      · rw [if_neg c12, if_neg c12]
        by_cases c14 : t.1 = 14
        · rw [if_pos c14, if_pos c14]
          have : (fun j => (hR σ' 896 t.2 j).map (hG σ')) = (fun j => (hR σ 896 t.2 j).map (hG σ)) := by
            funext j
            have := hr 0 j (by omega)
            rw [c14] at this
            exact this
          rw [this]
        · rw [if_neg c14, if_neg c14]
          have : (fun j => hI σ' (64 * t.1) t.2 j) = (fun j => hI σ (64 * t.1) t.2 j) := by
            funext j
            exact hi 0 j (by omega)
          rw [this]
    rw [e]
theorem col_ne {t t' : Tg} {s s' j j' : Nat} (hs : s < 64) (hs' : s' < 64) (h : t' ≠ t) : ¬ (64 * t'.1 + s' = 64 * t.1 + s ∧ t'.2 = t.2 ∧ j' = j) := by
  intro ⟨e1, e2, _⟩
  exact tg_ne h ⟨by omega, e2⟩
/-- a cell is written: the heap that is one cell other -/
theorem hs_put {w : Wd} {σ σ' : HS} {H H1 : Heap} (t : Tg) (h : hs_R w σ H) (ht : hV σ t = true) (hat : hs_at w σ' t H1) (oq : ∀ q, q ≠ hG σ t → H1[q]? = H[q]?)
    (eV : hV σ' = hV σ) (eG : hG σ' = hG σ) (eT : hT σ' = hT σ) (ho : ∀ t', t' ≠ t → hV σ t' = true → hs_at w σ t' H1 → hs_at w σ' t' H1)
    (hc : ∀ f i j t', hV σ (f / 64, i) = true → hR σ' f i j = some t' → hR σ f i j = some t' ∨ hV σ t' = true ∨ t' = (15, 0)) : hs_R w σ' H1 := by
  obtain ⟨h1, h2, h3, h4⟩ := h
  refine ⟨fun t' hv => ?_, fun f i j t' hv hr => ?_, by rw [eV]; exact h3, by rw [eG]; exact h4⟩
  · rw [eV] at hv
    obtain ⟨a1, a2, a3⟩ := h1 t' hv
    rw [eG, eT]
    refine ⟨?_, a2, a3⟩
    by_cases e : t' = t
    · rw [e]; exact hat
    · refine ho t' e hv (a1.kept (oq _ fun z => e ?_))
      have b := (h1 t ht).2.1
      rw [← a2, ← b, z]
  · rw [eV] at hv ⊢
    rcases hc f i j t' hv hr with q | q
    · exact h2 f i j t' hv q
    · exact q
theorem hs_put_sI {w : Wd} {σ : HS} {H H1 : Heap} (t : Tg) {f s : Nat} (j : Nat) (v : Int32) (hs : s < 64) (hf : 64 * t.1 + s = f) (h : hs_R w σ H) (ht : hV σ t = true) (hat : hs_at w (sI σ f t.2 j v) t H1) (oq : ∀ q, q ≠ hG σ t → H1[q]? = H[q]?) : hs_R w (sI σ f t.2 j v) H1 := by
  subst hf
  refine hs_put t h ht hat oq rfl rfl rfl (fun t' ne _ h' => h'.congr rfl rfl (fun s' j' hs' => up3_ne (col_ne hs hs' ne)) (fun _ _ _ => rfl) (fun _ _ _ => rfl)) (fun _ _ _ _ _ q => Or.inl q)
theorem hs_put_sL {w : Wd} {σ : HS} {H H1 : Heap} (t : Tg) {f s : Nat} (j : Nat) (v : Int64) (hs : s < 64) (hf : 64 * t.1 + s = f) (h : hs_R w σ H) (ht : hV σ t = true) (hat : hs_at w (sL σ f t.2 j v) t H1) (oq : ∀ q, q ≠ hG σ t → H1[q]? = H[q]?) : hs_R w (sL σ f t.2 j v) H1 := by
  subst hf
  refine hs_put t h ht hat oq rfl rfl rfl (fun t' ne _ h' => h'.congr rfl rfl (fun _ _ _ => rfl) (fun s' j' hs' => up3_ne (col_ne hs hs' ne)) (fun _ _ _ => rfl)) (fun _ _ _ _ _ q => Or.inl q)
theorem hs_put_sR {w : Wd} {σ : HS} {H H1 : Heap} (t : Tg) {f s : Nat} (j : Nat) (v : Option Tg) (hv : ∀ t', v = some t' → hV σ t' = true ∨ t' = (15, 0)) (hs : s < 64) (hf : 64 * t.1 + s = f) (h : hs_R w σ H) (ht : hV σ t = true) (hat : hs_at w (sR σ f t.2 j v) t H1) (oq : ∀ q, q ≠ hG σ t → H1[q]? = H[q]?) : hs_R w (sR σ f t.2 j v) H1 := by
  subst hf
  refine hs_put t h ht hat oq rfl rfl rfl (fun t' ne _ h' => h'.congr rfl rfl (fun _ _ _ => rfl) (fun _ _ _ => rfl) (fun s' j' hs' => congrArg (Option.map (hG σ)) (up3_ne (col_ne hs hs' ne)))) (fun f' i' j' t' _ q => ?_)
  by_cases e : f' = 64 * t.1 + s ∧ i' = t.2 ∧ j' = j
  · have : (sR σ (64 * t.1 + s) t.2 j v).2.2.1 f' i' j' = v := if_pos e
    exact Or.inr (hv t' (this.symm.trans q))
  · have : (sR σ (64 * t.1 + s) t.2 j v).2.2.1 f' i' j' = hR σ f' i' j' := if_neg e
    exact Or.inl (this.symm.trans q)
/-- a cell is made -/
theorem hs_new {w : Wd} {σ : HS} {H H1 : Heap} (t : Tg) (n : Nat) (h : hs_R w σ H) (ht : hV σ t = false) (h9 : t ≠ (15, 0)) (hw : wB w ≤ H.size) (hE : wE w < wB w) (hat : hs_at w (sNew σ t H.size n) t H1) (oq : ∀ q, q < H.size → H1[q]? = H[q]?) : hs_R w (sNew σ t H.size n) H1 := by
  obtain ⟨h1, h2, h3, h4⟩ := h
  have key : ∀ t', hV σ t' = true → t' ≠ t := fun t' hv e => by rw [e, ht] at hv; cases hv
  have refs : ∀ f i j, hV σ (f / 64, i) = true → (hR σ f i j).map (up1 (hG σ) t H.size) = (hR σ f i j).map (hG σ) := by
    intro f i j hv
    cases hr : hR σ f i j with
    | none => rfl
    | some t' =>
      have : t' ≠ t := by
        rcases h2 f i j t' hv hr with q | q
        · exact key t' q
        · rw [q]; exact Ne.symm h9
      show some _ = some _
      rw [up1_ne this]
  refine ⟨fun t' hv => ?_, fun f i j t' hv hr => ?_, ?_, ?_⟩
  · by_cases e : t' = t
    · subst e
      refine ⟨hat, ?_, ?_⟩
      · show va_up (hT σ) H.size t' (up1 (hG σ) t' H.size t') = t'
        rw [up1_eq]
        exact if_pos rfl
      · show wB w ≤ up1 (hG σ) t' H.size t'
        rw [up1_eq]; exact hw
    · have hv' : hV σ t' = true := by
        have : up1 (hV σ) t true t' = true := hv
        rwa [up1_ne e] at this
      obtain ⟨a1, a2, a3⟩ := h1 t' hv'
      have eg : up1 (hG σ) t H.size t' = hG σ t' := up1_ne e
      have nc : ∀ s, s < 64 → ¬ ((64 * t'.1 + s) / 64 = t.1 ∧ t'.2 = t.2) := fun s hs q => tg_ne e ⟨by omega, q.2⟩
      have hlt := a1.lt
      refine ⟨(a1.kept (oq _ hlt)).congr eg (if_neg (fun q => tg_ne e q)) (fun s j hs => clr_ne (nc s hs)) (fun s j hs => clr_ne (nc s hs)) (fun s j hs => ?_), ?_, ?_⟩
      · show (clr (hR σ) t none _ _ _).map (up1 (hG σ) t H.size) = _
        rw [clr_ne (nc s hs)]
        exact refs _ _ _ (by rw [show ((64 * t'.1 + s) / 64, t'.2) = t' from Prod.ext (by show (64 * t'.1 + s) / 64 = t'.1; omega) rfl]; exact hv')
      · show va_up (hT σ) H.size t (up1 (hG σ) t H.size t') = t'
        rw [eg]
        exact (if_neg (by omega)).trans a2
      · show wB w ≤ up1 (hG σ) t H.size t'
        rw [eg]; exact a3
  · have hr' : clr (hR σ) t none f i j = some t' := hr
    by_cases c : f / 64 = t.1 ∧ i = t.2
    · rw [clr_eq c.1 c.2] at hr'; cases hr'
    · rw [clr_ne c] at hr'
      have hv' : hV σ (f / 64, i) = true := by
        have : up1 (hV σ) t true (f / 64, i) = true := hv
        rwa [up1_ne (fun q => c ⟨congrArg Prod.fst q, congrArg Prod.snd q⟩)] at this
      rcases h2 f i j t' hv' hr' with q | q
      · exact Or.inl (by show up1 (hV σ) t true t' = true; rw [up1_ne (key t' q)]; exact q)
      · exact Or.inr q
  · show up1 (hV σ) t true (15, 0) = false
    rw [up1_ne (Ne.symm h9)]; exact h3
  · show up1 (hG σ) t H.size (15, 0) = wE w
    rw [up1_ne (Ne.symm h9)]; exact h4
def At (σ : HS) (t : Tg) (a : Nat) : Prop := hV σ t = true ∧ hG σ t = a
def Ext (σ σ' : HS) : Prop := ∀ t, hV σ t = true → hV σ' t = true ∧ hG σ' t = hG σ t
theorem Ext.rf {σ : HS} : Ext σ σ := fun _ h => ⟨h, rfl⟩
theorem Ext.tr {a b c : HS} (h : Ext a b) (k : Ext b c) : Ext a c := fun t ht => ⟨(k t (h t ht).1).1, ((k t (h t ht).1).2).trans (h t ht).2⟩
theorem At.ext {σ σ' : HS} {t : Tg} {a : Nat} (h : At σ t a) (e : Ext σ σ') : At σ' t a := ⟨(e t h.1).1, (e t h.1).2.trans h.2⟩
theorem Ext.new {σ : HS} {t : Tg} {q n : Nat} (h : hV σ t = false) : Ext σ (sNew σ t q n) := fun t' ht => by
  have e : t' ≠ t := fun e => by rw [e, h] at ht; cases ht
  exact ⟨(up1_ne e).trans ht, up1_ne e⟩
theorem At.new {σ : HS} {t : Tg} {q n : Nat} : At (sNew σ t q n) t q := ⟨up1_eq, up1_eq⟩
