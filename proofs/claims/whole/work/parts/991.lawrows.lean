/-! the law's own: methods with a table of their own, the script, the model beside the class -/
def MW (l : Launch) (w : Wd) (y : MethodName) (cc : ByteArray) (nL : Nat) (ret : Option FieldType) (hh : List (Nat × Nat × Nat × Nat)) (rm : Room) (av : List Value) (σ : HS) (post : Option Value → HS → Prop) : Prop := Met l y [Cond.codeWith y cc nL ret hh] rm (hs_Pc w av σ) (hs_Q w post) rm.cells rm.slots (hs_F w)
theorem MW.of {l : Launch} {w : Wd} {y : MethodName} {cc : ByteArray} {nL : Nat} {ret : Option FieldType} {hh : List (Nat × Nat × Nat × Nat)} {rm : Room} {av : List Value} {σ : HS} {post : Option Value → HS → Prop} (hy : plainName y.cls = true) (hlen : (lg_sl av).length ≤ nL) (body : ∀ X : Cx, xl X = l → xw X = w → Ok X cc nL y.cls → Rt X post rm ret → (xc X).exceptionTable.toList = tableOf hh → J X 0 0 σ (lv_args 0 av) [] 0) : MW l w y cc nL ret hh rm av σ post := by
  refine va_MetW (cc := cc) (maxL := nL) (ret := ret) (hh := hh) hy rfl ?_
  intro p e s m args below meth c s₁ B hml hv
  obtain ⟨rfl, hR, hK, hZ, hb⟩ := hv
  have hown : s.vm.findClass y.cls = some m.cls := findClass_of_methodNamed B.named
  have htab : c.exceptionTable.toList = tableOf hh := vx_table (x := y) B (atoms_spec (ws := [Cond.codeWith y cc nL ret hh]) B.pre _ (List.mem_singleton.mpr rfl))
  rw [lg_entry_eq]
  have C : Ok (p, l, e, (headSpec [Cond.codeWith y cc nL ret hh] rm).room, s, m, av.toArray, below, meth, c, MQ below (hs_Q w post) av.toArray s rm.cells rm.slots (hs_F w), w) cc nL y.cls := ⟨B.exec, B.bytes, hml, hown, fun x hx => word_at (s := s) (U := s) (State.WarmedH.refl s) (good_of_word (List.mem_filter.mp hx).2) (hK.2.1 x hx), hK, hZ, hb, B.notSynchronized⟩
  exact body (p, l, e, (headSpec [Cond.codeWith y cc nL ret hh] rm).room, s, m, av.toArray, below, meth, c, MQ below (hs_Q w post) av.toArray s rm.cells rm.slots (hs_F w), w) rfl rfl C ⟨rfl, B.returns, Or.inl rfl⟩ htab s.heap [] _ hR va_S.rf (by show lv_has _ c.maxLocals _; rw [hml]; exact lv_entry av hlen)
def MPW (y : MethodName) (cc : ByteArray) (nL : Nat) (ret : Option FieldType) (hh : List (Nat × Nat × Nat × Nat)) (nA : Nat) : Prop := Cond.codeWith y cc nL ret hh ∈ gtb ∧ Cond.initialized y.cls ∈ gtb ∧ (y.cls ≠ "java/lang/invoke/MethodHandle" ∧ y.cls ≠ "java/lang/invoke/VarHandle") ∧ (parseMethodDescriptor y.desc).map (fun d => d.parameters.length) = some nA ∧ Cond.static y ∈ gtb
section JW
variable {X : Cx} {cc : ByteArray} {nL : Nat} {own : String} {k n : Nat} {σ : HS} {lv : List (Nat × Value)} {st : List Value} {pc : Nat}
theorem j_callSW (C : Ok X cc nL own) {y : MethodName} {bytes : ByteArray} {mL nA idx : Nat} {ret : Option FieldType} {hh : List (Nat × Nat × Nat × Nat)} {rm rm0 : Room} {post : Option Value → HS → Prop} (As rest : List Value) {k' n' : Nat} (hR : xR X = rm0) (M : MW (xl X) (xw X) y bytes mL ret hh rm As σ post) (P : MPW y bytes mL ret hh nA) (hl : Cond.methodLink own idx y ∈ gtb) (hn : As.length = nA) (hst : st = As.reverse ++ rest) (hW : (rest.map fun v => v.category).sum ≤ 8) (hd : decode cc pc = .ok (.invokestatic idx, 3)) (hf : rm.frames + 1 ≤ rm0.frames ∧ 8 + (mL + 11) + rm.locals ≤ rm0.locals) (hf2 : k + rm.cells ≤ rm0.cells ∧ n + rm.slots ≤ rm0.slots) (hk : k + rm.cells = k') (hn' : n + rm.slots = n') (kk : ∀ (v : Option Value) (σ' : HS), post v σ' → J X k' n' σ' lv (v.toList ++ rest) (pc + 3)) : J X k n σ lv st pc := by
  intro H locs ls h1 h2 h3
  subst hst
  have hts := C.2.2.2.2.1
  obtain ⟨g1, g2, g3, g4, g5⟩ := id P
  have hB : vx_CSW (xR X) (xs X) (xa X) own idx y bytes mL ret hh [Cond.codeWith y bytes mL ret hh] rm rm.cells rm.slots nA := ⟨⟨rfl, rfl, by rw [hR]; exact hf.1, by rw [hR]; exact hf.2, fun w hw a' U hW => by rw [List.mem_singleton.mp hw]; exact gtb_warm C g1 a' U hW, List.mem_singleton.mpr rfl⟩, hts _ g1, hts _ g2, g3, fun sig h => by rw [h] at g4; exact (Option.some.inj g4).symm, hts _ hl, hts _ g5⟩
  refine j_back hk hn' (vx_runSW C.fix M hB ⟨hs_blind, C.pre h1 h2⟩ rfl hn (by show ls.size = nL; rw [h3.1]; exact C.2.2.1) rfl (lv_room hW) hd (by rw [hR]; exact hf2)) h2 h3 C.2.2.2.2.2.2.2.1 kk
end JW
theorem RS.fr {P : Tg → Prop} {S : SP} {x9 : Nat → Nat} {k : Int32} {σ σ' : HS} (h : RS S x9 k σ) (f : Fr P σ σ') (hn : ∀ t, P t → mtB t = false) : RS S x9 k σ' := by
  have e : ∀ t, mtB t = true → Sm σ σ' t := fun t ht => f.2 t (fun z => by rw [hn t z] at ht; cases ht)
  obtain ⟨⟨h1, h2⟩, ⟨h3, h4⟩, h5⟩ := h
  refine ⟨⟨fun f9 i j hr => ?_, fun f9 i j hr => ?_⟩, ⟨f.at h3, fun s hs hk => ?_⟩, ((e (10, 0) rfl).1 640 0 rfl).1.trans h5⟩
  · refine ((e (f9 / 64, i) (mtB_iff.mpr ?_)).1 f9 j rfl).1.trans (h1 f9 i j hr)
    unfold rci at hr
    simp only [Bool.or_eq_true, Bool.and_eq_true, decide_eq_true_eq] at hr ⊢
    omega
  · refine ((e (f9 / 64, i) (mtB_iff.mpr ?_)).1 f9 j rfl).2.1.trans (h2 f9 i j hr)
    unfold rcl at hr
    simp only [Bool.or_eq_true, Bool.and_eq_true, decide_eq_true_eq] at hr ⊢
    omega
  · obtain ⟨k1, k2, k3⟩ := h4 s hs hk
    refine ⟨((e (10, 0) rfl).1 (640 + s) 0 (by show (640 + s) / 64 = 10; omega)).2.2.trans k1, f.at k2, (f.len k2.1).trans k3⟩
theorem ME.fr {σ σ' : HS} (h : ME σ σ') : Fr (fun t => mtB t = true) σ σ' :=
  ⟨fun t ht => ⟨(congrArg (fun z => z.2.2.1 t) h.2.2).trans ht, congrArg (fun z => z.2.2.2.1 t) h.2.2, congrArg (fun z => z.2.1 t.1 t.2) h.2.2⟩, fun t ht => h.sm (ts_nt ht)⟩
/-- what a wrapper may change -/
def tgV (t : Tg) : Prop := tgU t ∨ t = (12, 300)
theorem tgV_K {t : Tg} (h : tgV t) : mtB t = false := h.elim tgU_K (fun z => by rw [z]; rfl)
theorem tgA_out {t : Tg} (z : tgA t) : ¬ t = (12, 300) := fun q => by
  rw [q] at z
  simp only [tgA, tgP, tgC, tgX, tgW, tgD, tgL] at z
  omega
theorem CI.out {S : SP} {σ : HS} (h : CI S σ) (hw : WF S) {v : Int64} : CI S (sL σ 768 300 0 v) := h.fr hw (P := fun t => t = (12, 300)) (Fr.rf.sL (f := 768) rfl) (fun t z => tgA_out z)
theorem out_fr {σ0 σ : HS} (h : Fr tgU σ0 σ) {v : Int64} : Fr tgV σ0 (sL σ 768 300 0 v) := (h.wide (fun t z => Or.inl z)).sL (f := 768) (Or.inr rfl)
/-- the law's own state: class and model hold the same -/
def LV (S : SP) (x9 : Nat → Nat) (a o : Nat) (σ : HS) : Prop := WF S ∧ CI S σ ∧ (∃ k9, RS S x9 k9 σ) ∧ At σ (9, 0) a ∧ At σ (12, 300) o ∧ hN σ 12 300 = 1
def LC (X : Cx) (b L : Nat) (ys : Nat → Int32) : Prop := Ok X cL_law 7 "FieldgrammarLaw" ∧ xR X = room_1 ∧ va_X b L ys (xs X) (xs X).heap ∧ b < (xs X).heap.size ∧ ¬ xA X b
section LROW
variable {X : Cx} {k n : Nat} {σ : HS} {lv : List (Nat × Value)} {st : List Value} {pc b L : Nat} {ys : Nat → Int32}
theorem j_sld (C : LC X b L ys) {i : Nat} (hi : i < L) (hL : L ≤ 2560) (hd : decode cL_law pc = .ok (.iaload, 1)) (kk : J X k n σ lv (.int (ys i) :: st) (pc + 1)) : J X k n σ lv (.int (nI i) :: .ref b :: st) pc := by
  intro H locs ls h1 h2 h3
  have e : (nI i).toNatClampNeg = i := nI_clamp (by omega)
  refine va_sld C.1.1 C.1.2.1 C.2.2.1 C.2.2.2.1 C.2.2.2.2 h2 (fun z => z.elim (nI_pos (by omega)) (fun z => by rw [e] at z; omega)) hd ?_
  rw [e]
  exact kk H locs ls h1 h2 h3
theorem j_slen (C : LC X b L ys) (hd : decode cL_law pc = .ok (.arraylength, 1)) (kk : J X k n σ lv (.int (nI L) :: st) (pc + 1)) : J X k n σ lv (.ref b :: st) pc := fun H locs ls h1 h2 h3 => va_slen C.1.1 C.1.2.1 C.2.2.1 C.2.2.2.1 C.2.2.2.2 h2 hd (kk H locs ls h1 h2 h3)
end LROW
theorem and2 {a b : Bool} (h : ¬ (a && b) = false) : a = true ∧ b = true := by
  cases a <;> cases b <;> simp_all
theorem and3 {a b c : Bool} (h : ¬ (a && b && c) = false) : a = true ∧ b = true ∧ c = true := ⟨(and2 (by rw [(and2 h).1]; decide) : a = true ∧ b = true).1, (and2 (by rw [(and2 h).1]; decide) : a = true ∧ b = true).2, (and2 h).2⟩
theorem isForm_t {S : SP} (h : isForm9 S = true) : 1 ≤ (dr S).length ∧ (dr S).length ≤ 6 := by
  unfold isForm9 at h
  rw [Bool.and_eq_true] at h
  exact ⟨of_decide_eq_true h.1, of_decide_eq_true h.2⟩
theorem raise_s {S : SP} {x : Int32} (c1 : ¬ inI x (nR S) = false) : s_raise S x = (0, nI (pos9 S (xN x) - 1), S_raise S (xN x)) := by
  unfold s_raise S_raise
  rw [if_neg c1]
  by_cases e : pos9 S (xN x) = 0
  · rw [if_pos e, if_pos e, e]; rfl
  · rw [if_neg e, if_neg e]
