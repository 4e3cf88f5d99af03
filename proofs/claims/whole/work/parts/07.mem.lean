/-! the rows of J that read and write cells -/
/-- a field of a class, as the tables have it, and its link from a class -/
def FP (ci s : Nat) (own : String) (idx : Nat) (fty : FieldType) (fin : Nat) : Prop := ∃ (C : String) (T : u_T) (N : Nat) (ty : Nat → FieldType) (ref : String), vwCl[ci]? = some (C, T, N) ∧ s < N ∧ ci < 11 ∧ N ≤ 34 ∧ (∀ w ∈ u_ws C T N, w ∈ gtb) ∧ (∀ k, k < N → parseFieldDescriptor (T k).2.2.1 = some (ty k)) ∧ (∀ a, a < N → ∀ b, b < N → a ≠ b → (T a).2.1 ≠ (T b).2.1) ∧ Cond.fieldLink own idx ref (T s).2.1 (T s).2.2.1 ∈ gtb ∧ (ref = (T s).1 ∨ Cond.sameField ref (T s).1 (T s).2.1 (T s).2.2.1 ∈ gtb) ∧ parseFieldDescriptor (T s).2.2.1 = some fty ∧ (fin = 0 → (T s).2.2.2 = false) ∧ (fin = 1 → (T s).1 = own)
section JM
variable {X : Cx} {cc : ByteArray} {nL : Nat} {own : String} {k n : Nat} {σ : HS} {lv : List (Nat × Value)} {st : List Value} {pc : Nat}
theorem j_get (C : Ok X cc nL own) {t : Tg} {a s idx : Nat} {fty : FieldType} {fin : Nat} (F : FP t.1 s own idx fty fin) (ht : At σ t a) (hd : decode cc pc = .ok (.getfield idx, 3)) (kk : J X k n σ lv (hs_fv σ t s :: st) (pc + 3)) : J X k n σ lv (.ref a :: st) pc := by
  intro H locs ls h1 h2 h3
  obtain ⟨Cn, T, N, ty, ref, hc, hs, hk, hN, hin, hty, hnm, hl, hsame, hpt, hfin, hdecl⟩ := F
  obtain ⟨hv, rfl⟩ := ht
  obtain ⟨cell, q1, q2, q3, q4⟩ := ((h1.1 t hv).1).obj hk hc
  have hK := C.2.2.2.2.2.1.1
  obtain ⟨hS, hfc, kC, hkC, hkind⟩ := hK.1 t.1 _ hc
  obtain ⟨cf, kf, fi, f, hi, hsl⟩ := hS s hs
  have hts := C.2.2.2.2.1
  have hi' : (xs X).fieldFound? ref (T s).2.1 (T s).2.2.1 = some (cf, kf, fi, f) := by
    rcases hsame with e | h
    · rw [e]; exact hi
    · exact u_same (hts _ h) _ hi
  exact W.getf C.1 C.2.1 C.2.2.2.1 (hts _ hl) hi' (u_facts hfc hkC (u_lays hts hin hs) hi).1 q1 (by rw [q3]; exact fun h => by cases h) (v := hs_fv σ t s) (by rw [hsl, q4 s hs]) rfl rfl hd (kk H locs ls h1 h2 h3)
theorem hs_fvI {t : Tg} {s f : Nat} (h : fk t.1 s = 0) (hf : 64 * t.1 + s = f) : hs_fv σ t s = .int (hI σ f t.2 0) := by subst hf; unfold hs_fv; rw [h]; rfl
theorem hs_fvL {t : Tg} {s f : Nat} (h : fk t.1 s = 1) (hf : 64 * t.1 + s = f) : hs_fv σ t s = .long (hL σ f t.2 0) := by subst hf; unfold hs_fv; rw [h]; rfl
theorem hs_fvR {t : Tg} {s f : Nat} (h : fk t.1 s = 2) (hf : 64 * t.1 + s = f) : hs_fv σ t s = va_rf ((hR σ f t.2 0).map (hG σ)) := by subst hf; unfold hs_fv; rw [h]; rfl
theorem j_getI (C : Ok X cc nL own) {t : Tg} {a s idx f : Nat} {fty : FieldType} {fin : Nat} (F : FP t.1 s own idx fty fin) (ht : At σ t a) (hk : fk t.1 s = 0) (hf : 64 * t.1 + s = f) (hd : decode cc pc = .ok (.getfield idx, 3)) (kk : J X k n σ lv (.int (hI σ f t.2 0) :: st) (pc + 3)) : J X k n σ lv (.ref a :: st) pc := j_get C F ht hd (by rw [hs_fvI hk hf]; exact kk)
theorem j_getL (C : Ok X cc nL own) {t : Tg} {a s idx f : Nat} {fty : FieldType} {fin : Nat} (F : FP t.1 s own idx fty fin) (ht : At σ t a) (hk : fk t.1 s = 1) (hf : 64 * t.1 + s = f) (hd : decode cc pc = .ok (.getfield idx, 3)) (kk : J X k n σ lv (.long (hL σ f t.2 0) :: st) (pc + 3)) : J X k n σ lv (.ref a :: st) pc := j_get C F ht hd (by rw [hs_fvL hk hf]; exact kk)
theorem j_getR (C : Ok X cc nL own) {t : Tg} {a s idx f : Nat} {fty : FieldType} {fin : Nat} (F : FP t.1 s own idx fty fin) (ht : At σ t a) (hk : fk t.1 s = 2) (hf : 64 * t.1 + s = f) (t' : Tg) (hr : hR σ f t.2 0 = some t') (hd : decode cc pc = .ok (.getfield idx, 3)) (kk : J X k n σ lv (.ref (hG σ t') :: st) (pc + 3)) : J X k n σ lv (.ref a :: st) pc := j_get C F ht hd (by rw [hs_fvR hk hf, hr]; exact kk)
theorem j_getN (C : Ok X cc nL own) {t : Tg} {a s idx f : Nat} {fty : FieldType} {fin : Nat} (F : FP t.1 s own idx fty fin) (ht : At σ t a) (hk : fk t.1 s = 2) (hf : 64 * t.1 + s = f) (hr : hR σ f t.2 0 = none) (hd : decode cc pc = .ok (.getfield idx, 3)) (kk : J X k n σ lv (.null :: st) (pc + 3)) : J X k n σ lv (.ref a :: st) pc := j_get C F ht hd (by rw [hs_fvR hk hf, hr]; exact kk)
theorem j_put (C : Ok X cc nL own) {t : Tg} {a s idx : Nat} {fty : FieldType} {fin : Nat} (F : FP t.1 s own idx fty fin) (ht : At σ t a) (v : Value) (hn : narrow fty v = v) (hfit : fits fty v = true) (hfi : fin = 0 ∨ (fin = 1 ∧ (xh X).name = "<init>")) (σ' : HS) (hg : hG σ' = hG σ) (hupd : ∀ j, j < 34 → updV (hs_fv σ t) s v j = hs_fv σ' t j) (hput : ∀ H H1 : Heap, hs_R (xw X) σ H → hs_at (xw X) σ' t H1 → (∀ q, q ≠ hG σ t → H1[q]? = H[q]?) → hs_R (xw X) σ' H1)
    (hd : decode cc pc = .ok (.putfield idx, 3)) (kk : J X k n σ' lv st (pc + 3)) : J X k n σ lv (v :: .ref a :: st) pc := by
  intro H locs ls h1 h2 h3
  obtain ⟨Cn, T, N, ty, ref, hc, hs, hk, hN, hin, hty, hnm, hl, hsame, hpt, hfin, hdecl⟩ := F
  obtain ⟨hv, rfl⟩ := ht
  obtain ⟨cell, q1, q2, q3, q4⟩ := ((h1.1 t hv).1).obj hk hc
  have hK := C.2.2.2.2.2.1.1
  have hts := C.2.2.2.2.1
  have hap := va_apart (own := own) hts hin ty hty hnm hK hc
  obtain ⟨hS, hfc, kC, hkC, hkind⟩ := hK.1 t.1 _ hc
  obtain ⟨cf, kf, fi, f, hi, hsl⟩ := hS s hs
  have hi' : (xs X).fieldFound? ref (T s).2.1 (T s).2.2.1 = some (cf, kf, fi, f) := by
    rcases hsame with e | h
    · rw [e]; exact hi
    · exact u_same (hts _ h) _ hi
  have hst := (u_facts hfc hkC (u_lays hts hin hs) hi).1
  have hlay := hts _ (hin _ (u_in_lay hs))
  unfold u_lay at hlay
  have fin1 : ∀ (H1 : Heap), H1[hG σ t]? = some (cell.setSlot f.slot v) → H1.size = H.size → (∀ q, q ≠ hG σ t → H1[q]? = H[q]?) → W (xp X) (xl X) (xe X) (xR X) (xs X) (xm X) (xa X) (xb X) (xh X) (xc X) H1 (locs ++ [⟨hG σ t, f.slot⟩]) k n (xQ X) (F0 (xm X) (pc + 3) ls st) := by
    intro H1 e1 e2 e3
    rw [hsl] at e1 ⊢
    refine kk H1 _ ls (hput H H1 h1 ?_ e3) (h2.put e2 e3 (h1.1 t hv).2.2) h3
    unfold hs_at
    rw [if_pos hk, hg]
    exact ⟨_, hc, t_OB.to (V := updV (hs_fv σ t) s v) ⟨_, e1, q2, q3, t_set q4 hap hs v⟩ (fun j hj => hupd j (Nat.lt_of_lt_of_le hj hN))⟩
  cases hff : (T s).2.2.2 with
  | false =>
    rw [if_neg (by rw [hff]; decide)] at hlay
    have h6 := u_store hfc hkC hkind hlay hi hpt hn hfit
    exact W.putK C.1 C.2.1 (f := f) ⟨C.2.2.2.1, hts _ hl, ⟨_, _, _, hi'⟩, hst⟩ (by rw [q2]; exact h6) q1 q3 (by rw [hsl]; exact k2_hasslot (q4 s hs)) rfl rfl hd fin1
  | true =>
    rw [if_pos hff] at hlay
    have hfi1 : fin = 1 ∧ (xh X).name = "<init>" := by
      rcases hfi with e | e
      · rw [hfin e] at hff; cases hff
      · exact e
    obtain ⟨hfint, hin2⟩ := hfi1
    have hcf : (xm X).cls = cf := by
      obtain ⟨_, _, c', _, _, _, -, -, hf', -, -, -, hown2, -⟩ := Cond.laysFinal_spec hlay
      have e1 : c' = cf := by have := hi.symm.trans hf'; simp at this; exact this.1.symm
      rw [hdecl hfint] at hown2
      rw [← e1]; exact Option.some.inj ((C.2.2.2.1).symm.trans hown2)
    have h6 := u_fits hfc hkC hkind (Or.inr hlay) hi hpt hn hfit
    exact W.putFinK C.1 C.2.1 C.2.2.2.1 (hts _ hl) hi' hst hcf hin2 (by rw [q2]; exact h6) q1 q3 (by rw [hsl]; exact k2_hasslot (q4 s hs)) rfl rfl hd fin1
theorem hs_updI {t : Tg} {s f : Nat} {x : Int32} (hk : fk t.1 s = 0) (hs : s < 34) (hf : 64 * t.1 + s = f) : ∀ j, j < 34 → updV (hs_fv σ t) s (.int x) j = hs_fv (sI σ f t.2 0 x) t j := by
  intro j hj
  subst hf
  by_cases e : j = s
  · subst e
    rw [hs_fvI hk rfl]
    show (if j = j then Value.int x else _) = .int (up3 _ _ _ _ _ _ _ _)
    rw [if_pos rfl, up3_eq]
  · show (if j = s then Value.int x else _) = _
    rw [if_neg e]
    unfold hs_fv
    have : hI (sI σ (64 * t.1 + s) t.2 0 x) (64 * t.1 + j) t.2 0 = hI σ (64 * t.1 + j) t.2 0 := up3_ne (fun q => e (by omega))
    rw [this]
    rfl
theorem hs_updL {t : Tg} {s f : Nat} {x : Int64} (hk : fk t.1 s = 1) (hs : s < 34) (hf : 64 * t.1 + s = f) : ∀ j, j < 34 → updV (hs_fv σ t) s (.long x) j = hs_fv (sL σ f t.2 0 x) t j := by
  intro j hj
  subst hf
  by_cases e : j = s
  · subst e
    rw [hs_fvL hk rfl]
    show (if j = j then Value.long x else _) = .long (up3 _ _ _ _ _ _ _ _)
    rw [if_pos rfl, up3_eq]
  · show (if j = s then Value.long x else _) = _
    rw [if_neg e]
    unfold hs_fv
    have : hL (sL σ (64 * t.1 + s) t.2 0 x) (64 * t.1 + j) t.2 0 = hL σ (64 * t.1 + j) t.2 0 := up3_ne (fun q => e (by omega))
    rw [this]
    rfl
theorem hs_updR {t : Tg} {s f : Nat} {x : Option Tg} (hk : fk t.1 s = 2) (hs : s < 34) (hf : 64 * t.1 + s = f) : ∀ j, j < 34 → updV (hs_fv σ t) s (va_rf (x.map (hG σ))) j = hs_fv (sR σ f t.2 0 x) t j := by
  intro j hj
  subst hf
  by_cases e : j = s
  · subst e
    rw [hs_fvR hk rfl]
    show (if j = j then _ else _) = va_rf (Option.map _ (up3 _ _ _ _ _ _ _ _))
    rw [if_pos rfl, up3_eq]
    rfl
  · show (if j = s then _ else _) = _
    rw [if_neg e]
    unfold hs_fv
    have : hR (sR σ (64 * t.1 + s) t.2 0 x) (64 * t.1 + j) t.2 0 = hR σ (64 * t.1 + j) t.2 0 := up3_ne (fun q => e (by omega))
    rw [this]
    rfl
theorem j_putI (C : Ok X cc nL own) {t : Tg} {a s idx f : Nat} {fty : FieldType} {fin : Nat} {x : Int32} (F : FP t.1 s own idx fty fin) (ht : At σ t a) (hn : narrow fty (.int x) = .int x) (hfit : fits fty (.int x) = true) (hfi : fin = 0 ∨ (fin = 1 ∧ (xh X).name = "<init>")) (hk : fk t.1 s = 0) (hs : s < 34) (hf : 64 * t.1 + s = f) (hd : decode cc pc = .ok (.putfield idx, 3)) (kk : J X k n (sI σ f t.2 0 x) lv st (pc + 3)) : J X k n σ lv (.int x :: .ref a :: st) pc :=
  j_put C F ht _ hn hfit hfi (sI σ f t.2 0 x) rfl (hs_updI hk hs hf) (fun _ _ h hat oq => hs_put_sI t 0 x (by omega) hf h ht.1 hat oq) hd kk
theorem j_putL (C : Ok X cc nL own) {t : Tg} {a s idx f : Nat} {fty : FieldType} {fin : Nat} {x : Int64} (F : FP t.1 s own idx fty fin) (ht : At σ t a) (hn : narrow fty (.long x) = .long x) (hfit : fits fty (.long x) = true) (hfi : fin = 0 ∨ (fin = 1 ∧ (xh X).name = "<init>")) (hk : fk t.1 s = 1) (hs : s < 34) (hf : 64 * t.1 + s = f) (hd : decode cc pc = .ok (.putfield idx, 3)) (kk : J X k n (sL σ f t.2 0 x) lv st (pc + 3)) : J X k n σ lv (.long x :: .ref a :: st) pc :=
  j_put C F ht _ hn hfit hfi (sL σ f t.2 0 x) rfl (hs_updL hk hs hf) (fun _ _ h hat oq => hs_put_sL t 0 x (by omega) hf h ht.1 hat oq) hd kk
theorem j_putR (C : Ok X cc nL own) {t : Tg} {a b s idx f : Nat} {fty : FieldType} {fin : Nat} (t' : Tg) (hb : hG σ t' = b) (hv : hV σ t' = true ∨ t' = (15, 0)) (F : FP t.1 s own idx fty fin) (ht : At σ t a) (hn : narrow fty (.ref b) = .ref b) (hfit : fits fty (.ref b) = true) (hfi : fin = 0 ∨ (fin = 1 ∧ (xh X).name = "<init>")) (hk : fk t.1 s = 2) (hs : s < 34) (hf : 64 * t.1 + s = f) (hd : decode cc pc = .ok (.putfield idx, 3)) (kk : J X k n (sR σ f t.2 0 (some t')) lv st (pc + 3)) : J X k n σ lv (.ref b :: .ref a :: st) pc := by
  subst hb
  exact j_put C F ht _ hn hfit hfi (sR σ f t.2 0 (some t')) rfl (hs_updR (x := some t') hk hs hf) (fun _ _ h hat oq => hs_put_sR t 0 (some t') (fun t2 e => by cases e; exact hv) (by omega) hf h ht.1 hat oq) hd kk
/-! rows -/
theorem hs_rowP {w : Wd} {t : Tg} {H : Heap} (h : hs_R w σ H) (hv : hV σ t = true) (hk : 11 ≤ t.1) : va_P w.1 vwCl [(hG σ t, .inl (w.2.1 t.1, hs_ac σ t))] H := by
  intro q x hx
  have hz : q < 1 := (List.getElem?_eq_some_iff.mp hx).1
  rw [show q = 0 by omega] at hx
  cases hx
  exact ((h.1 t hv).1).row hk
theorem j_iald (C : Ok X cc nL own) {i a p M : Nat} {x : Int32} (ht : At σ (11, i) a) (hx : x = nI p) (hM : hN σ 11 i = M) (hp : p < M) (hb : M < 2 ^ 31) (hd : decode cc pc = .ok (.iaload, 1)) (kk : J X k n σ lv (.int (hI σ 704 i p) :: st) (pc + 1)) : J X k n σ lv (.int x :: .ref a :: st) pc := by
  intro H locs ls h1 h2 h3
  obtain ⟨hv, rfl⟩ := ht
  subst hx; subst hM
  refine va_iald (cl := vwCl) C.1 C.2.1 C.2.2.2.2.2.1.1 (hs_rowP h1 hv (Nat.le_of_ble_eq_true rfl)) 0 0 (f := fun j => hI σ 704 i j) rfl rfl (vp_in_nI hp hb) hd ?_
  rw [nI_clamp (by omega)]
  exact kk H locs ls h1 h2 h3
theorem j_lald (C : Ok X cc nL own) {i a p M : Nat} {x : Int32} (ht : At σ (12, i) a) (hx : x = nI p) (hM : hN σ 12 i = M) (hp : p < M) (hb : M < 2 ^ 31) (hd : decode cc pc = .ok (.laload, 1)) (kk : J X k n σ lv (.long (hL σ 768 i p) :: st) (pc + 1)) : J X k n σ lv (.int x :: .ref a :: st) pc := by
  intro H locs ls h1 h2 h3
  obtain ⟨hv, rfl⟩ := ht
  subst hx; subst hM
  refine va_lald (cl := vwCl) C.1 C.2.1 C.2.2.2.2.2.1.1 (hs_rowP h1 hv (Nat.le_of_ble_eq_true rfl)) 0 1 (f := fun j => hL σ 768 i j) rfl rfl (vp_in_nI hp hb) hd ?_
  rw [nI_clamp (by omega)]
  exact kk H locs ls h1 h2 h3
theorem j_zald (C : Ok X cc nL own) {i a p M : Nat} {x : Int32} (ht : At σ (13, i) a) (hx : x = nI p) (hM : hN σ 13 i = M) (hp : p < M) (hb : M < 2 ^ 31) (hd : decode cc pc = .ok (.baload, 1)) (kk : J X k n σ lv (.int (hI σ 832 i p) :: st) (pc + 1)) : J X k n σ lv (.int x :: .ref a :: st) pc := by
  intro H locs ls h1 h2 h3
  obtain ⟨hv, rfl⟩ := ht
  subst hx; subst hM
  refine va_zald (cl := vwCl) C.1 C.2.1 C.2.2.2.2.2.1.1 (hs_rowP h1 hv (Nat.le_of_ble_eq_true rfl)) 0 2 (f := fun j => hI σ 832 i j) rfl rfl (vp_in_nI hp hb) hd ?_
  rw [nI_clamp (by omega)]
  exact kk H locs ls h1 h2 h3
theorem j_aald (C : Ok X cc nL own) {i a p M : Nat} {x : Int32} (ht : At σ (14, i) a) (hx : x = nI p) (hM : hN σ 14 i = M) (hp : p < M) (hb : M < 2 ^ 31) (hd : decode cc pc = .ok (.aaload, 1)) (kk : J X k n σ lv (va_rf ((hR σ 896 i p).map (hG σ)) :: st) (pc + 1)) : J X k n σ lv (.int x :: .ref a :: st) pc := by
  intro H locs ls h1 h2 h3
  obtain ⟨hv, rfl⟩ := ht
  subst hx; subst hM
  refine va_aldq (cl := vwCl) C.1 C.2.1 C.2.2.2.2.2.1.1 (hs_rowP h1 hv (Nat.le_of_ble_eq_true rfl)) 0 3 (f := fun j => (hR σ 896 i j).map (hG σ)) rfl rfl (vp_in_nI hp hb) hd ?_
  rw [nI_clamp (by omega)]
  exact kk H locs ls h1 h2 h3
theorem j_alen (C : Ok X cc nL own) {t : Tg} {a M : Nat} (ht : At σ t a) (ty : FieldType) (q : Nat) (hq : [((xw X).2.1 11, FieldType.int), ((xw X).2.1 12, .long), ((xw X).2.1 13, .boolean), ((xw X).2.1 14, .object "java/lang/Object")][q]? = some ((xw X).2.1 t.1, ty)) (hk : 11 ≤ t.1) (hM : hN σ t.1 t.2 = M) (hd : decode cc pc = .ok (.arraylength, 1)) (kk : J X k n σ lv (.int (nI M) :: st) (pc + 1)) : J X k n σ lv (.ref a :: st) pc := by
  intro H locs ls h1 h2 h3
  obtain ⟨hv, rfl⟩ := ht
  subst hM
  exact va_alen (cl := vwCl) C.1 C.2.1 C.2.2.2.2.2.1.1 (hs_rowP h1 hv hk) 0 q rfl hq rfl hd (kk H locs ls h1 h2 h3)
theorem hs_atI {w : Wd} {i p : Nat} {x : Int32} {H1 : Heap} {K : Nat} (hK : K = 11 ∨ K = 13) (h : H1[hG σ (K, i)]? = some (arrV (w.2.1 K) (hN σ K i) (updV (fun j => .int (hI σ (64 * K) i j)) p (.int x)))) : hs_at w (sI σ (64 * K) i p x) (K, i) H1 := by
  unfold hs_at
  rw [if_neg (by rcases hK with rfl | rfl <;> simp)]
  refine h.trans ?_
  have e : hs_ac (sI σ (64 * K) i p x) (K, i) = (hN σ K i, .inl (upd (fun j => hI σ (64 * K) i j) p x)) := by
    unfold hs_ac
    rw [if_neg (by rcases hK with rfl | rfl <;> simp), if_neg (by rcases hK with rfl | rfl <;> simp)]
    have : (fun j => hI (sI σ (64 * K) i p x) (64 * K) i j) = upd (fun j => hI σ (64 * K) i j) p x := by
      funext j
      show up3 _ _ _ _ _ _ _ _ = if j = p then x else _
      by_cases e : j = p
      · rw [e, up3_eq, if_pos rfl]
      · rw [up3_ne (fun q => e q.2.2), if_neg e]
    exact congrArg (fun g => (hN σ K i, Sum.inl g)) this
  rw [e]
  show some (arrV _ _ _) = some (vp_cell _ (hN σ K i, .inl (upd (fun j => hI σ (64 * K) i j) p x)))
  rw [vp_cell_i]
  congr 2
  funext j
  by_cases q : j = p
  · simp [updV, upd, q]
  · simp [updV, upd, q]
theorem j_iast (C : Ok X cc nL own) {i a p M : Nat} {x y : Int32} (ht : At σ (11, i) a) (hx : x = nI p) (hM : hN σ 11 i = M) (hp : p < M) (hb : M < 2 ^ 31) (hd : decode cc pc = .ok (.iastore, 1)) (kk : J X k n (sI σ 704 i p y) lv st (pc + 1)) : J X k n σ lv (.int y :: .int x :: .ref a :: st) pc := by
  intro H locs ls h1 h2 h3
  obtain ⟨hv, rfl⟩ := ht
  subst hx; subst hM
  have hrow := ((h1.1 (11, i) hv).1).row (Nat.le_of_ble_eq_true rfl)
  have hc : H[hG σ (11, i)]? = some (arrV ((xw X).2.1 11) (hN σ 11 i) (fun j => .int (hI σ 704 i j))) := hrow.trans (congrArg some (vp_cell_i _ _ _))
  refine W.iast C.1 C.2.1 hc ((C.2.2.2.2.2.1.1.2 0 _ rfl).1 _ _) (fun q => by cases q) (by rw [arrV_size]; exact vp_in_nI hp hb) rfl rfl hd fun H1 e z oq => ?_
  refine kk H1 _ ls ?_ (h2.put z oq (h1.1 _ hv).2.2) h3
  rw [nI_clamp (by omega), arrV_store] at e
  exact hs_put_sI (11, i) (s := 0) p y (by omega) rfl h1 hv (hs_atI (K := 11) (Or.inl rfl) e) oq
theorem j_zast (C : Ok X cc nL own) {i a p M : Nat} {x y : Int32} (ht : At σ (13, i) a) (hx : x = nI p) (hM : hN σ 13 i = M) (hp : p < M) (hb : M < 2 ^ 31) (hy : narrow .boolean (.int y) = .int y) (hd : decode cc pc = .ok (.bastore, 1)) (kk : J X k n (sI σ 832 i p y) lv st (pc + 1)) : J X k n σ lv (.int y :: .int x :: .ref a :: st) pc := by
  intro H locs ls h1 h2 h3
  obtain ⟨hv, rfl⟩ := ht
  subst hx; subst hM
  have hrow := ((h1.1 (13, i) hv).1).row (Nat.le_of_ble_eq_true rfl)
  have hc : H[hG σ (13, i)]? = some (arrV ((xw X).2.1 13) (hN σ 13 i) (fun j => .int (hI σ 832 i j))) := hrow.trans (congrArg some (vp_cell_i _ _ _))
  refine W.zast C.1 C.2.1 hc ((C.2.2.2.2.2.1.1.2 2 _ rfl).1 _ _) (fun q => by cases q) (by rw [arrV_size]; exact vp_in_nI hp hb) rfl rfl hd fun H1 e z oq => ?_
  refine kk H1 _ ls ?_ (h2.put z oq (h1.1 _ hv).2.2) h3
  rw [hy, nI_clamp (by omega), arrV_store] at e
  exact hs_put_sI (13, i) (s := 0) p y (by omega) rfl h1 hv (hs_atI (K := 13) (Or.inr rfl) e) oq
theorem j_last (C : Ok X cc nL own) {i a p M : Nat} {x : Int32} {y : Int64} (ht : At σ (12, i) a) (hx : x = nI p) (hM : hN σ 12 i = M) (hp : p < M) (hb : M < 2 ^ 31) (hd : decode cc pc = .ok (.lastore, 1)) (kk : J X k n (sL σ 768 i p y) lv st (pc + 1)) : J X k n σ lv (.long y :: .int x :: .ref a :: st) pc := by
  intro H locs ls h1 h2 h3
  obtain ⟨hv, rfl⟩ := ht
  subst hx; subst hM
  have hrow := ((h1.1 (12, i) hv).1).row (Nat.le_of_ble_eq_true rfl)
  have hc : H[hG σ (12, i)]? = some (arrV ((xw X).2.1 12) (hN σ 12 i) (fun j => .long (hL σ 768 i j))) := hrow.trans (congrArg some (vp_cell_l _ _ _))
  refine W.last C.1 C.2.1 hc ((C.2.2.2.2.2.1.1.2 1 _ rfl).1 _ _) (fun q => by cases q) (by rw [arrV_size]; exact vp_in_nI hp hb) rfl rfl hd fun H1 e z oq => ?_
  refine kk H1 _ ls ?_ (h2.put z oq (h1.1 _ hv).2.2) h3
  rw [nI_clamp (by omega), arrV_store] at e
  refine hs_put_sL (12, i) (s := 0) p y (by omega) rfl h1 hv ?_ oq
  unfold hs_at
  rw [if_neg (by simp)]
  refine e.trans ?_
  show some (arrV _ _ _) = some (vp_cell _ (hN σ 12 i, .inr (.inl (fun j => hL (sL σ 768 i p y) 768 i j))))
  rw [vp_cell_l]
  congr 2
  funext j
  show (if j = p then Value.long y else .long (hL σ 768 i j)) = .long (up3 _ _ _ _ _ _ _ _)
  by_cases q : j = p
  · rw [q, if_pos rfl, up3_eq]
  · rw [if_neg q, up3_ne (fun z => q z.2.2)]
end JM
