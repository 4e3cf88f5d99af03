/-! rows of references -/
section JOB
variable {X : Cx} {cc : ByteArray} {nL : Nat} {own : String} {k n : Nat} {σ : HS} {lv : List (Nat × Value)} {st : List Value} {pc : Nat}
theorem obj_cl : ∀ c, c < 11 → ∃ q, vwCl[c]? = some q ∧ Cond.castable q.1 "java/lang/Object" ∈ otb := by
  intro c hc
  have h : c = 0 ∨ c = 1 ∨ c = 2 ∨ c = 3 ∨ c = 4 ∨ c = 5 ∨ c = 6 ∨ c = 7 ∨ c = 8 ∨ c = 9 ∨ c = 10 := by omega
  rcases h with rfl | rfl | rfl | rfl | rfl | rfl | rfl | rfl | rfl | rfl | rfl
  · exact ⟨_, rfl, by decide +kernel⟩
  · exact ⟨_, rfl, by decide +kernel⟩
  · exact ⟨_, rfl, by decide +kernel⟩
  · exact ⟨_, rfl, by decide +kernel⟩
  · exact ⟨_, rfl, by decide +kernel⟩
  · exact ⟨_, rfl, by decide +kernel⟩
  · exact ⟨_, rfl, by decide +kernel⟩
  · exact ⟨_, rfl, by decide +kernel⟩
  · exact ⟨_, rfl, by decide +kernel⟩
  · exact ⟨_, rfl, by decide +kernel⟩
  · exact ⟨_, rfl, by decide +kernel⟩
theorem hs_atQ {w : Wd} {σ : HS} {i p : Nat} {v : Option Tg} {H1 : Heap} (h : H1[hG σ (14, i)]? = some (arrV (w.2.1 14) (hN σ 14 i) (updV (fun j => va_rf ((hR σ 896 i j).map (hG σ))) p (va_rf (v.map (hG σ)))))) : hs_at w (sR σ 896 i p v) (14, i) H1 := by
  unfold hs_at
  rw [if_neg (by simp)]
  refine h.trans ?_
  have e : hs_ac (sR σ 896 i p v) (14, i) = (hN σ 14 i, .inr (.inr (.inr (.inr (fun j => (up3 (hR σ) 896 i p v 896 i j).map (hG σ)))))) := rfl
  rw [e, vp_cell_q]
  congr 2
  funext j
  by_cases q : j = p
  · subst q
    rw [up3_eq]
    simp [updV]
  · rw [up3_ne (fun z => q z.2.2)]
    simp [updV, q]
theorem j_aast (C : Ok X cc nL own) {i a p M b : Nat} {x : Int32} {t' : Tg} (ht : At σ (14, i) a) (hb' : At σ t' b) (hk' : t'.1 < 11) (hx : x = nI p) (hM : hN σ 14 i = M) (hp : p < M) (hb : M < 2 ^ 31) (hd : decode cc pc = .ok (.aastore, 1)) (kk : J X k n (sR σ 896 i p (some t')) lv st (pc + 1)) : J X k n σ lv (.ref b :: .int x :: .ref a :: st) pc := by
  intro H locs ls h1 h2 h3
  obtain ⟨r, hc, hca⟩ := obj_cl t'.1 hk'
  obtain ⟨cellV, g1, g2, g3⟩ := C.recv h1 hb' hc hk'
  obtain ⟨hv, rfl⟩ := ht
  subst hx; subst hM
  obtain ⟨kA, comp, k1, k2, k3, -⟩ := (C.2.2.2.2.2.1.1.2 3 _ rfl).2
  obtain ⟨kE, hkE, -⟩ := Vm.findClass_spec k3
  obtain ⟨c0, t1, f1, f2, f3⟩ := Cond.castable_spec (va_Nw.use (A := xa X) rfl (C.2.2.2.2.2.1.2.2.1 _ hca))
  cases k3.symm.trans f2
  have hcls := (C.2.2.2.2.2.1.1.1 t'.1 r hc).2
  have e3 : cellV.cls = (xw X).1.1 t'.1 := Option.some.inj (g3.symm.trans hcls.1)
  cases hcls.1.symm.trans f1
  obtain ⟨kC, hkC, -⟩ := hcls.2
  have hrow : H[hG σ (14, i)]? = some (vp_cell ((xw X).2.1 14) (hN σ 14 i, .inr (.inr (.inr (.inr (fun j => (hR σ 896 i j).map (hG σ))))))) := ((h1.1 (14, i) hv).1).row (Nat.le_of_ble_eq_true rfl)
  refine W.aast C.1 C.2.1 hrow (fun q h => by cases h) (fun h => by cases h) k1 k2 rfl hkE ⟨vp_in_nI hp hb |> fun z q => z (Or.inl q), by show _ < (arrV _ _ _).slots.size; rw [arrV_size, nI_clamp (by omega)]; exact hp⟩ g1 (fun q h => by rw [h] at g2; cases g2) (by rw [e3]; exact hkC) (by rw [e3]; exact f3) rfl rfl hd fun H1 e z oq => ?_
  refine kk H1 _ ls ?_ (h2.put z oq (h1.1 _ hv).2.2) h3
  refine hs_put_sR (14, i) (s := 0) p (some t') (fun t2 e2 => by cases e2; exact Or.inl hb'.1) (by omega) rfl h1 hv (hs_atQ ?_) oq
  rw [e, nI_clamp (by omega), vp_cell_q, arrV_store, ← hb'.2]
  rfl
theorem j_aastN (C : Ok X cc nL own) {i a p M : Nat} {x : Int32} (ht : At σ (14, i) a) (hx : x = nI p) (hM : hN σ 14 i = M) (hp : p < M) (hb : M < 2 ^ 31) (hd : decode cc pc = .ok (.aastore, 1)) (kk : J X k n (sR σ 896 i p none) lv st (pc + 1)) : J X k n σ lv (.null :: .int x :: .ref a :: st) pc := by
  intro H locs ls h1 h2 h3
  obtain ⟨hv, rfl⟩ := ht
  subst hx; subst hM
  have hrow : H[hG σ (14, i)]? = some (vp_cell ((xw X).2.1 14) (hN σ 14 i, .inr (.inr (.inr (.inr (fun j => (hR σ 896 i j).map (hG σ))))))) := ((h1.1 (14, i) hv).1).row (Nat.le_of_ble_eq_true rfl)
  refine va_WaastN (C := "java/lang/Object") C.1 C.2.1 hrow ((C.2.2.2.2.2.1.1.2 3 _ rfl).1 (hN σ 14 i) (fun j => va_rf ((hR σ 896 i j).map (hG σ)))) (fun h => by cases h) (by show ¬ (_ ∨ (arrV _ _ _).slots.size ≤ _); rw [arrV_size]; exact vp_in_nI hp hb) rfl rfl hd fun H1 e z oq => ?_
  refine kk H1 _ ls ?_ (h2.put z oq (h1.1 _ hv).2.2) h3
  refine hs_put_sR (14, i) (s := 0) p none (fun t2 e2 => by cases e2) (by omega) rfl h1 hv (hs_atQ ?_) oq
  rw [e, nI_clamp (by omega), vp_cell_q, arrV_store]
  rfl
theorem j_anew (C : Ok X cc nL own) {x : Int32} {M k' n' idx i : Nat} {rm0 : Room} (hR : xR X = rm0) (hl : Cond.classLink own idx "java/lang/Object" ∈ gtb) (hv : hV σ (14, i) = false) (hx : x = nI M) (hM : M < 1000000) (hd : decode cc pc = .ok (.anewarray idx, 3)) (hf : k + 1 ≤ rm0.cells ∧ n + M ≤ rm0.slots) (hk : k + 1 = k') (hn : n + M = n') (kk : ∀ q : Nat, J X k' n' (sNew σ (14, i) q M) lv (.ref q :: st) (pc + 3)) : J X k n σ lv (.int x :: st) pc := by
  intro H locs ls h1 h2 h3
  subst hk; subst hn; subst hx
  have hts := C.2.2.2.2.1
  have hK := C.2.2.2.2.2.1.1
  refine W.anew C.1 C.2.1 C.2.2.2.1 (hts _ hl) (va_AO.use C.2.2.2.2.2.1.2.2.2.2.1) rfl hd rfl (nI_pos (by omega)) (by rw [nI_clamp (by omega)]; omega) (by rw [hR]; exact hf.1) (by rw [nI_clamp (by omega), hR]; exact hf.2) fun cA kA comp f1 f2 f3 f4 => ?_
  generalize hH1 : H.push ({ cls := cA, slots := Array.replicate (nI M).toNatClampNeg .null, vm := .none } : Cell) = H1
  have z1 : H1.size = H.size + 1 := by rw [← hH1, Array.size_push]
  have e1 : H1[H.size]? = some (arrV cA (nI M).toNatClampNeg (fun _ => .null)) := by rw [← hH1, Array.getElem?_push_size, ← arrV_new]
  have o1 : ∀ q : Nat, q < H.size → H1[q]? = H[q]? := fun q hq => by rw [← hH1, Array.getElem?_push, if_neg (Nat.ne_of_lt hq)]
  rw [nI_clamp (by omega)] at e1 ⊢
  refine kk H.size H1 locs ls (hs_new (14, i) M h1 hv (fun z => by cases z) (Nat.le_trans C.2.2.2.2.2.2.2.1 h2.1) C.2.2.2.2.2.2.1.2.2.2.2 ?_ o1) ⟨Nat.le_trans h2.1 (by omega), fun x g1 g2 => (o1 x (Nat.lt_of_lt_of_le g1 h2.1)).trans (h2.2.1 x g1 g2), h2.2.2⟩ h3
  unfold hs_at
  have hg : hG (sNew σ (14, i) H.size M) (14, i) = H.size := up1_eq
  have hm : hN (sNew σ (14, i) H.size M) 14 i = M := if_pos ⟨rfl, rfl⟩
  rw [hg, if_neg (by simp), e1]
  obtain ⟨kA2, comp2, r1, r2, r3, r4⟩ := (hK.2 3 _ rfl).2
  have e : cA = (xw X).2.1 14 := Option.some.inj (f1.symm.trans r4)
  have hac : hs_ac (sNew σ (14, i) H.size M) (14, i) = (M, .inr (.inr (.inr (.inr (fun _ => none))))) := by
    show (hN (sNew σ (14, i) H.size M) 14 i, _) = _
    rw [hm]
    refine congrArg (fun g => (M, Sum.inr (Sum.inr (Sum.inr (Sum.inr g))))) (funext fun j => ?_)
    have : (sNew σ (14, i) H.size M).2.2.1 896 i j = none := clr_eq (t := (14, i)) rfl rfl
    exact congrArg (Option.map _) this
  rw [hac, vp_cell_q, e]
  rfl
theorem j_gets (C : Ok X cc nL own) {idx : Nat} (hl : Cond.fieldLink own idx alS alF alD ∈ gtb) (hd : decode cc pc = .ok (.getstatic idx, 3)) (kk : J X k n σ lv (.ref (hG σ (15, 0)) :: st) (pc + 3)) : J X k n σ lv st pc := by
  intro H locs ls h1 h2 h3
  refine va_gets C.1 C.2.1 C.2.2.2.2.2.2.1.1 h2 C.2.2.2.1 (C.2.2.2.2.1 _ hl) (fun x hx => hx) hd ?_
  rw [← h1.2.2.2]
  exact kk H locs ls h1 h2 h3
theorem j_ldcM (C : Ok X cc nL own) {idx : Nat} (hl : Cond.classLink own idx "[Ljava/lang/Object;" ∈ gtb) (hd : decode cc pc = .ok (.ldc idx, 2)) (kk : J X k n σ lv (.ref ((xw X).2.1 15) :: st) (pc + 2)) : J X k n σ lv st pc := by
  intro H locs ls h1 h2 h3
  exact va_ldcM C.1 C.2.1 C.2.2.2.1 (C.2.2.2.2.1 _ hl) C.2.2.2.2.2.1.2.2.2.2.2 hd (kk H locs ls h1 h2 h3)
end JOB
theorem wm_538 : Cond.native ⟨"java/lang/Object", "getClass", "()Ljava/lang/Class;"⟩ ∈ gtb := mg (i := 538) (by decide +kernel) (by decide +kernel)
theorem wm_550 : Cond.native ⟨"java/lang/System", "arraycopy", "(Ljava/lang/Object;ILjava/lang/Object;II)V"⟩ ∈ gtb := mg (i := 550) (by decide +kernel) (by decide +kernel)
section JOC
variable {X : Cx} {cc : ByteArray} {nL : Nat} {own : String} {k n : Nat} {σ : HS} {lv : List (Nat × Value)} {st : List Value} {pc : Nat}
theorem j_getC (C : Ok X cc nL own) {idx i a : Nat} {rm0 : Room} (hR : xR X = rm0) (hl : Cond.methodLink own idx ⟨"java/lang/Object", "getClass", "()Ljava/lang/Class;"⟩ ∈ gtb) (ht : At σ (14, i) a) (hd : decode cc pc = .ok (.invokevirtual idx, 3)) (hf : 1 ≤ rm0.frames ∧ (st.map fun v => v.category).sum + 14 ≤ rm0.locals) (kk : J X k n σ lv (.ref ((xw X).2.1 15) :: st) (pc + 3)) : J X k n σ lv (.ref a :: st) pc := by
  intro H locs ls h1 h2 h3
  have hts := C.2.2.2.2.1
  obtain ⟨hv, rfl⟩ := ht
  have hrow := ((h1.1 (14, i) hv).1).row (Nat.le_of_ble_eq_true rfl)
  obtain ⟨kA, comp, k1, k2, k3, k4⟩ := (C.2.2.2.2.2.1.1.2 3 _ rfl).2
  refine va_getC (C := "[Ljava/lang/Object;") C.1 C.2.1 h3.1.symm C.2.2.2.1 (hts _ hl) (va_Nw.use (A := xa X) rfl (C.2.2.2.2.2.1.2.2.1 _ (show Cond.declares ⟨"java/lang/Object", "getClass", "()Ljava/lang/Class;"⟩ ∈ otb by decide +kernel))) (hts _ wm_1413) (hts _ wm_522) (hts _ wm_538) C.2.2.2.2.2.1.2.2.2.2.2 ⟨_, hrow, rfl, ?_⟩ (by rw [hR]; exact hf.1) (by rw [hR]; exact hf.2) hd (kk H locs ls h1 h2 h3)
  exact k4
end JOC
