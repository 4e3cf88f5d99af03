/-! the library's copying of a row of references into another one -/
def cpQ (σ : HS) (i i' N : Nat) : HS := (σ.1, σ.2.1, (fun f x j => if f = 896 ∧ x = i' ∧ j < N then hR σ 896 i j else hR σ f x j), σ.2.2.2)
section JCP
variable {X : Cx} {cc : ByteArray} {nL : Nat} {own : String} {k n : Nat} {σ : HS} {lv : List (Nat × Value)} {st : List Value} {pc : Nat}
theorem j_copyQ (C : Ok X cc nL own) {idx i i' a b N M : Nat} {rm0 : Room} (hRm : xR X = rm0) (hl : Cond.methodLink own idx arraycopyName ∈ gtb) (hsrc : At σ (14, i) a) (hdst : At σ (14, i') b) (hne : i ≠ i') (hNs : hN σ 14 i = N) (hMs : hN σ 14 i' = M) (hNM : N ≤ M) (hMb : M < 2 ^ 31) (hE : ∀ j, j < N → ∀ t', hR σ 896 i j = some t' → hV σ t' = true ∧ t'.1 < 11)
    (hd : decode cc pc = .ok (.invokestatic idx, 3)) (hf : 1 ≤ rm0.frames ∧ (st.map fun v => v.category).sum + (nativeFrameWords "java/lang/System" "arraycopy" 5 + 11) ≤ rm0.locals) (kk : J X k n (cpQ σ i i' N) lv st (pc + 3)) : J X k n σ lv (.int (nI N) :: .int (nI 0) :: .ref b :: .int (nI 0) :: .ref a :: st) pc := by
  intro H locs ls h1 h2 h3
  have hts := C.2.2.2.2.1
  obtain ⟨hv, rfl⟩ := hsrc
  obtain ⟨hv', rfl⟩ := hdst
  subst hNs; subst hMs
  have hrow : H[hG σ (14, i)]? = some (arrV ((xw X).2.1 14) (hN σ 14 i) (fun j => va_rf ((hR σ 896 i j).map (hG σ)))) := (((h1.1 (14, i) hv).1).row (Nat.le_of_ble_eq_true rfl)).trans (congrArg some (vp_cell_q _ _ _))
  have hrow' : H[hG σ (14, i')]? = some (arrV ((xw X).2.1 14) (hN σ 14 i') (fun j => va_rf ((hR σ 896 i' j).map (hG σ)))) := (((h1.1 (14, i') hv').1).row (Nat.le_of_ble_eq_true rfl)).trans (congrArg some (vp_cell_q _ _ _))
  have hA : ArrOfT (xs X) ((xw X).2.1 14) (.object "java/lang/Object") ∧ va_RA (xs X) ((xw X).2.1 14) (.object "java/lang/Object") := (C.2.2.2.2.2.1.1.2 3 _ rfl)
  obtain ⟨-, k0, hk0, cm0, hkk0⟩ := hA.1 (hN σ 14 i) (fun j => va_rf ((hR σ 896 i j).map (hG σ)))
  obtain ⟨-, k1, hk1, cm1, hkk1⟩ := hA.1 (hN σ 14 i') (fun j => va_rf ((hR σ 896 i' j).map (hG σ)))
  have z0 : (nI 0).toNatClampNeg = 0 := by decide
  have zN : (nI (hN σ 14 i)).toNatClampNeg = hN σ 14 i := nI_clamp (by omega)
  have p0 : ¬ nI 0 < 0 := by decide
  have pN : ¬ nI (hN σ 14 i) < 0 := nI_pos (by omega)
  have tN : (nI (hN σ 14 i)).toInt = (hN σ 14 i : Int) := nI_toInt (by omega)
  have t0 : (nI 0).toInt = 0 := by decide
  intro T hT X0
  obtain ⟨vm', X', step⟩ := X0.arraycopy C.1 C.2.2.2.1 (hts _ hl) (hts _ wm_550) (hts _ wm_549) (hts _ wm_73) (src := hG σ (14, i)) (dst := hG σ (14, i')) (srcPos := nI 0) (destPos := nI 0) (n := nI (hN σ 14 i)) (by rw [hT]; exact hrow) (by rw [hT]; exact hrow')
    (fun _ h => by cases h) (fun _ h => by cases h) (fun h => by cases h) (fun h => by cases h) hk0 hk1 hkk0 hkk1 rfl p0 p0 pN
    (by rw [t0, tN]; show ¬ _ > ((arrV _ (hN σ 14 i) _).slots.size : Int); rw [arrV_size]; omega)
    (by rw [t0, tN]; show ¬ _ > ((arrV _ (hN σ 14 i') _).slots.size : Int); rw [arrV_size]; omega)
    (fun vm₁ hal j hj => by
      rw [zN] at hj
      rw [z0]
      have e : (arrV ((xw X).2.1 14) (hN σ 14 i) (fun j => va_rf ((hR σ 896 i j).map (hG σ)))).slots.getD (0 + j) .null = va_rf ((hR σ 896 i (0 + j)).map (hG σ)) := by
        rw [Array.getD_eq_getD_getElem?, arrV_read _ _ (by omega)]
        rfl
      rw [e, Nat.zero_add]
      cases hy : hR σ 896 i j with
      | none => exact ⟨rfl, trivial⟩
      | some t' =>
        obtain ⟨hvt, hkt⟩ := hE j hj t' hy
        obtain ⟨r, hc, hca⟩ := obj_cl t'.1 hkt
        obtain ⟨cellV, g1, g2, g3⟩ := C.recv h1 ⟨hvt, rfl⟩ hc hkt
        obtain ⟨kA, comp, r1, r2, r3, -⟩ := hA.2
        cases hk1.symm.trans r1
        cases hkk1.symm.trans r2
        obtain ⟨kE, hkE, -⟩ := Vm.findClass_spec r3
        obtain ⟨c0, t1, f1, f2, f3⟩ := Cond.castable_spec (va_Nw.use (A := xa X) rfl (C.2.2.2.2.2.1.2.2.1 _ hca))
        cases r3.symm.trans f2
        have hcls := (C.2.2.2.2.2.1.1.1 t'.1 r hc).2
        have e3 : cellV.cls = (xw X).1.1 t'.1 := Option.some.inj (g3.symm.trans hcls.1)
        cases hcls.1.symm.trans f1
        obtain ⟨kC, hkC, -⟩ := hcls.2
        obtain ⟨kC', hkC', -⟩ := hal.2.2 _ _ hkC
        obtain ⟨kE', hkE', -⟩ := hal.2.2 _ _ hkE
        refine ⟨rfl, cellV, (show T.heap[_]? = some cellV by rw [hT]; exact g1), (fun q h => by rw [h] at g2; cases g2), ⟨kC', by rw [e3]; exact hkC'⟩, ?_, ?_⟩
        · exact ⟨kE', hkE'⟩
        · show vm₁.assignable _ _ = true
          rw [hal.assignable, e3]
          exact f3)
    (g := F0 (xm X) pc ls (.int (nI (hN σ 14 i)) :: .int (nI 0) :: .ref (hG σ (14, i')) :: .int (nI 0) :: .ref (hG σ (14, i)) :: st)) rfl (by rw [h3.1]) (rest := st) rfl (by rw [C.2.1]; exact hd) (by rw [hRm]; exact hf.1) (by rw [hRm]; show 2 * 0 + _ + _ ≤ _; have := hf.2; omega)
  have e1 : copied (arrV ((xw X).2.1 14) (hN σ 14 i) (fun j => va_rf ((hR σ 896 i j).map (hG σ)))) (arrV ((xw X).2.1 14) (hN σ 14 i') (fun j => va_rf ((hR σ 896 i' j).map (hG σ)))) (nI 0) (nI 0) (nI (hN σ 14 i)) = arrV ((xw X).2.1 14) (hN σ 14 i') (fun j => va_rf (va_cpy (fun j => (hR σ 896 i j).map (hG σ)) (fun j => (hR σ 896 i' j).map (hG σ)) 0 0 (hN σ 14 i) j)) := by
    show (arrV _ _ _).storeRun (nI 0).toNatClampNeg ((arrV _ _ _).stretch (nI 0).toNatClampNeg (nI (hN σ 14 i)).toNatClampNeg) = _
    rw [z0, zN]
    exact va_copied (fun z => va_rf z) ((xw X).2.1 14) ((xw X).2.1 14) (fun j => (hR σ 896 i j).map (hG σ)) (fun j => (hR σ 896 i' j).map (hG σ)) (by omega)
  rw [e1] at X' step
  generalize hcell : arrV ((xw X).2.1 14) (hN σ 14 i') (fun j => va_rf (va_cpy (fun j => (hR σ 896 i j).map (hG σ)) (fun j => (hR σ 896 i' j).map (hG σ)) 0 0 (hN σ 14 i) j)) = cell at X' step
  have hlt : hG σ (14, i') < H.size := (Array.getElem?_eq_some_iff.mp hrow').1
  have hheap : ((T.setVm vm').setCell (hG σ (14, i')) cell).heap = H.setIfInBounds (hG σ (14, i')) cell := by rw [← hT]; rfl
  have oq : ∀ q : Nat, q ≠ hG σ (14, i') → (H.setIfInBounds (hG σ (14, i')) cell)[q]? = H[q]? := fun q hq => by simp [Array.getElem?_setIfInBounds, Ne.symm hq]
  have oe : (H.setIfInBounds (hG σ (14, i')) cell)[hG σ (14, i')]? = some cell := by simp [Array.getElem?_setIfInBounds, hlt]
  have hA' := (h1.1 _ hv').2.2
  have hs' : hs_R (xw X) (cpQ σ i i' (hN σ 14 i)) (H.setIfInBounds (hG σ (14, i')) cell) := by
    refine hs_put (14, i') h1 hv' ?_ oq rfl rfl rfl (fun t' ne _ h' => h'.congr rfl rfl (fun _ _ _ => rfl) (fun _ _ _ => rfl) (fun s' j' hs' => congrArg (Option.map (hG σ)) (if_neg (fun z => ne (Prod.ext (by show t'.1 = 14; omega) z.2.1))))) (fun f' x' j' t' hvv q => ?_)
    · unfold hs_at
      rw [if_neg (by simp)]
      refine oe.trans ?_
      rw [← hcell]
      have hac : hs_ac (cpQ σ i i' (hN σ 14 i)) (14, i') = (hN σ 14 i', .inr (.inr (.inr (.inr (fun j => ((cpQ σ i i' (hN σ 14 i)).2.2.1 896 i' j).map (hG σ)))))) := rfl
      rw [hac, vp_cell_q]
      refine congrArg some (congrArg (arrV _ _) (funext fun j => congrArg va_rf ?_))
      unfold va_cpy cpQ
      dsimp only
      by_cases hj : j < hN σ 14 i
      · rw [if_pos ⟨Nat.zero_le _, by omega⟩, if_pos ⟨rfl, rfl, hj⟩, Nat.zero_add, Nat.sub_zero]
      · rw [if_neg (fun z => hj (by omega)), if_neg (fun z => hj z.2.2)]
    · by_cases c : f' = 896 ∧ x' = i' ∧ j' < hN σ 14 i
      · have : (cpQ σ i i' (hN σ 14 i)).2.2.1 f' x' j' = hR σ 896 i j' := if_pos c
        exact Or.inr (Or.inl (hE j' c.2.2 t' (this.symm.trans q)).1)
      · have : (cpQ σ i i' (hN σ 14 i)).2.2.1 f' x' j' = hR σ f' x' j' := if_neg c
        exact Or.inl (this.symm.trans q)
  obtain ⟨t, a1, b1⟩ := kk _ _ ls hs' ⟨by simp; exact h2.1, fun q g1 g2 => by
      rw [oq q (fun e => g2 (by rw [e]; exact hA'))]
      exact h2.2.1 q g1 g2, fun q hq => by
      rcases List.mem_append.mp hq with h | h
      · exact h2.2.2 q h
      · obtain ⟨z, -, hz⟩ := List.mem_map.mp h
        rw [← hz]
        exact hA'⟩ h3 _ hheap X'
  exact ⟨t, step t a1, b1⟩
end JCP
