/-! new cells, casts, throws, calls that throw -/
def dfk (k : Nat) : Value := match k with
  | 0 => .int 0
  | 1 => .long 0
  | _ => .null
def NP (ci N : Nat) (own : String) (idx : Nat) : Prop := ∃ (C : String) (T : u_T) (ty : Nat → FieldType), vwCl[ci]? = some (C, T, N) ∧ ci < 11 ∧ N ≤ 34 ∧ (∀ w ∈ u_ws C T N, w ∈ gtb) ∧ (∀ k, k < N → parseFieldDescriptor (T k).2.2.1 = some (ty k)) ∧ Cond.classLink own idx C ∈ gtb ∧ Cond.instantiable C N ∈ gtb ∧ Cond.initialized C ∈ gtb ∧ (∀ j, j < N → defaultValue (ty j) = dfk (fk ci j))
def CP (ci : Nat) (own : String) (idx : Nat) : Prop := ∃ q : vw_C, vwCl[ci]? = some q ∧ ci < 11 ∧ Cond.classLink own idx q.1 ∈ gtb
theorem hs_fv_new {σ : HS} {t : Tg} {q m j : Nat} (hj : j < 64) : hs_fv (sNew σ t q m) t j = dfk (fk t.1 j) := by
  have e1 : hI (sNew σ t q m) (64 * t.1 + j) t.2 0 = 0 := clr_eq (by omega) rfl
  have e2 : hL (sNew σ t q m) (64 * t.1 + j) t.2 0 = 0 := clr_eq (by omega) rfl
  have e3 : hR (sNew σ t q m) (64 * t.1 + j) t.2 0 = none := clr_eq (by omega) rfl
  unfold hs_fv dfk
  rw [e1, e2, e3]
  generalize fk t.1 j = z
  match z with
  | 0 => rfl
  | 1 => rfl
  | _ + 2 => rfl
theorem hs_R.ext {w : Wd} {σ : HS} {H H1 : Heap} (h : hs_R w σ H) (oq : ∀ q, q < H.size → H1[q]? = H[q]?) : hs_R w σ H1 := ⟨fun t hv => ⟨((h.1 t hv).1).kept (oq _ ((h.1 t hv).1).lt), (h.1 t hv).2⟩, h.2⟩
section JN
variable {X : Cx} {cc : ByteArray} {nL : Nat} {own : String} {k n : Nat} {σ : HS} {lv : List (Nat × Value)} {st : List Value} {pc : Nat}
theorem j_new (C : Ok X cc nL own) {N idx k' n' : Nat} {rm0 : Room} (t : Tg) (hR : xR X = rm0) (F : NP t.1 N own idx) (hv : hV σ t = false) (hd : decode cc pc = .ok (.new idx, 3)) (hf : k + 1 ≤ rm0.cells ∧ n + N ≤ rm0.slots) (hk : k + 1 = k') (hn : n + N = n') (kk : ∀ q : Nat, J X k' n' (sNew σ t q 0) lv (.ref q :: st) (pc + 3)) : J X k n σ lv st pc := by
  intro H locs ls h1 h2 h3
  subst hk; subst hn
  obtain ⟨Cn, T, ty, hc, hk11, hN, hin, hty, hcl, hins, hini, hdef⟩ := F
  have hts := C.2.2.2.2.1
  have hKn := C.2.2.2.2.2.1.1.1 t.1 _ hc
  have h9 : t ≠ (15, 0) := fun e => by rw [e] at hk11; exact absurd hk11 (by decide)
  refine W.newcK C.1 C.2.1 C.2.2.2.1 (hts _ hcl) (hts _ hins) (hts _ hini) rfl hd (by rw [hR]; exact hf.1) (by rw [hR]; exact hf.2) hKn.2.1 rfl fun H1 kC hkC e1 z1 o1 => ?_
  refine kk H.size H1 locs ls (hs_new t 0 h1 hv h9 (Nat.le_trans C.2.2.2.2.2.2.2.1 h2.1) C.2.2.2.2.2.2.1.2.2.2.2 ?_ o1) ⟨Nat.le_trans h2.1 (by omega), fun x g1 g2 => (o1 x (Nat.lt_of_lt_of_le g1 h2.1)).trans (h2.2.1 x g1 g2), h2.2.2⟩ h3
  unfold hs_at
  rw [if_pos hk11]
  refine ⟨_, hc, ?_⟩
  have hg : hG (sNew σ t H.size 0) t = H.size := up1_eq
  rw [hg]
  exact (u_born ty hts hin hKn hkC e1 hty).to (fun j hj => (hdef j hj).trans (hs_fv_new (by have : j < N := hj; omega)).symm)
theorem j_newa (C : Ok X cc nL own) {atype : ArrayType} {ty : FieldType} {x : Int32} {M k' n' : Nat} {rm0 : Room} (t : Tg) (hR : xR X = rm0) (hw : Cond.arrayClass ty ∈ gtb) (hty : newarray.typeOf atype = ty) (hkt : (t.1 = 11 ∧ ty = .int) ∨ (t.1 = 12 ∧ ty = .long) ∨ (t.1 = 13 ∧ ty = .boolean)) (hv : hV σ t = false) (hx : x = nI M) (hM : M < 1000000) (hd : decode cc pc = .ok (.newarray atype, 2)) (hf : k + 1 ≤ rm0.cells ∧ n + M ≤ rm0.slots) (hk : k + 1 = k') (hn : n + M = n') (kk : ∀ q : Nat, J X k' n' (sNew σ t q M) lv (.ref q :: st) (pc + 2)) : J X k n σ lv (.int x :: st) pc := by
  intro H locs ls h1 h2 h3
  subst hk; subst hn; subst hx; subst hty
  have hts := C.2.2.2.2.1
  have hK := C.2.2.2.2.2.1.1
  have h9 : t ≠ (15, 0) := fun e => by rw [e] at hkt; rcases hkt with ⟨q, -⟩ | ⟨q, -⟩ | ⟨q, -⟩ <;> exact absurd q (by decide)
  have hbytes : M * componentBytes (newarray.typeOf atype) ≤ 536870912 := by
    have : componentBytes (newarray.typeOf atype) ≤ 8 := by cases atype <;> decide
    calc M * componentBytes (newarray.typeOf atype) ≤ 1000000 * 8 := Nat.mul_le_mul (Nat.le_of_lt hM) this
      _ ≤ 536870912 := by decide
  refine va_newaK C.1 C.2.1 (hts _ hw) rfl hd rfl (nI_pos (by omega)) (nI_clamp (by omega)) hbytes (by rw [hR]; exact hf.1) (by rw [hR]; exact hf.2) rfl fun H1 cA e1 z1 o1 hAr hNm => ?_
  refine kk H.size H1 locs ls (hs_new t M h1 hv h9 (Nat.le_trans C.2.2.2.2.2.2.2.1 h2.1) C.2.2.2.2.2.2.1.2.2.2.2 ?_ o1) ⟨Nat.le_trans h2.1 (by omega), fun x g1 g2 => (o1 x (Nat.lt_of_lt_of_le g1 h2.1)).trans (h2.2.1 x g1 g2), h2.2.2⟩ h3
  unfold hs_at
  have hg : hG (sNew σ t H.size M) t = H.size := up1_eq
  have hm : hN (sNew σ t H.size M) t.1 t.2 = M := if_pos ⟨rfl, rfl⟩
  rw [hg, if_neg (by rcases hkt with ⟨q, -⟩ | ⟨q, -⟩ | ⟨q, -⟩ <;> rw [q] <;> decide), e1]
  unfold hs_ac
  rw [hm]
  obtain ⟨k0, i0⟩ := t
  rcases hkt with ⟨q, q2⟩ | ⟨q, q2⟩ | ⟨q, q2⟩ <;> dsimp only at q <;> subst q
  · rw [q2] at hNm ⊢
    have e : cA = (xw X).2.1 11 := Option.some.inj (hNm.symm.trans (hK.2 0 _ rfl).2)
    rw [if_neg (by simp), if_neg (by simp), vp_cell_i, e]
    refine congrArg some (congrArg (arrV _ M) (funext fun j => ?_))
    exact (congrArg Value.int (clr_eq (t := (11, i0)) (Nat.mul_div_cancel_left _ (by decide)) rfl)).symm
  · rw [q2] at hNm ⊢
    have e : cA = (xw X).2.1 12 := Option.some.inj (hNm.symm.trans (hK.2 1 _ rfl).2)
    rw [if_pos rfl, vp_cell_l, e]
    refine congrArg some (congrArg (arrV _ M) (funext fun j => ?_))
    exact (congrArg Value.long (clr_eq (t := (12, i0)) rfl rfl)).symm
  · rw [q2] at hNm ⊢
    have e : cA = (xw X).2.1 13 := Option.some.inj (hNm.symm.trans (hK.2 2 _ rfl).2)
    rw [if_neg (by simp), if_neg (by simp), vp_cell_i, e]
    refine congrArg some (congrArg (arrV _ M) (funext fun j => ?_))
    exact (congrArg Value.int (clr_eq (t := (13, i0)) (Nat.mul_div_cancel_left _ (by decide)) rfl)).symm
theorem j_cast (C : Ok X cc nL own) {idx a : Nat} {t : Tg} (F : CP t.1 own idx) (ht : At σ t a) (hd : decode cc pc = .ok (.checkcast idx, 3)) (kk : J X k n σ lv (.ref a :: st) (pc + 3)) : J X k n σ lv (.ref a :: st) pc := by
  intro H locs ls h1 h2 h3
  obtain ⟨q, hc, hk, hl⟩ := F
  exact va_castS C.1 C.2.1 C.2.2.2.1 (C.2.2.2.2.1 _ hl) (C.2.2.2.2.2.1.1.1 t.1 q hc).2 (C.recv h1 ht hc hk) hd (kk H locs ls h1 h2 h3)
abbrev exN : List String := ["java/lang/RuntimeException", "java/lang/Exception"]
def TP (own : String) (ik ic : Nat) (cls : String) : Prop := Bundle.fit cls = true ∧ Cond.classLink own ik cls ∈ gtb ∧ Cond.initialized cls ∈ gtb ∧ (∀ w ∈ (vx_at0 own ic cls exN).filter goodWord, w ∈ gtb) ∧ (∀ w ∈ (vx_at0 own ic cls exN).filter (fun w => !goodWord w), w ∈ otb) ∧ (∀ w ∈ Cond.classLink own ik cls :: Cond.initialized cls :: vx_at0 own ic cls exN, vx_ot w = true)
theorem exN_fit : ∀ n ∈ exN, Bundle.fit n = true := by decide +kernel
theorem j_throw0 (C : Ok X cc nL own) {post : Option Value → HS → Prop} {postx : String → HS → Prop} {rm : Room} {ret : Option FieldType} {ik ic : Nat} {cls : String} (Q : Rx X post postx rm ret) (NT : NoTab X) (F : TP own ik ic cls) (d0 : decode cc pc = .ok (.new ik, 3)) (d3 : decode cc (pc + 3) = .ok (.dup, 1)) (d4 : decode cc (pc + 4) = .ok (.invokespecial ic, 3)) (d7 : decode cc (pc + 7) = .ok (.athrow, 1))
    (hr : 5 < rm.frames ∧ (st.map fun v => v.category).sum + 81 ≤ rm.locals ∧ k + 1 ≤ rm.cells ∧ n + 6 ≤ rm.slots) (hp : postx cls σ) : J X k n σ lv st pc := by
  intro H locs ls h1 h2 h3
  obtain ⟨f1, f2, f3, f4, f5, f6⟩ := F
  have hts := C.2.2.2.2.1
  have hZ := C.2.2.2.2.2.2.1
  rw [Q.2.2.1]
  refine vx_throw0 C.1 C.2.1 Q.2.2.2 (names := exN) C.2.2.2.1 f1 exN_fit (hts _ f2) (hts _ f3) ?_ f6 hZ.2.2.1 hZ.2.2.2.1 h2 h3.1 d0 d3 d4 d7 (fun x hx => absurd hx (fun z => NT x z)) (by rw [Q.1]; exact hr.1) (by rw [Q.1]; exact hr.2.1) (by rw [Q.1]; exact hr.2.2.1) (by rw [Q.1]; exact hr.2.2.2) C.2.2.2.2.2.2.2.2 (fun t hal hz hq => ⟨σ, hp, h1.ext hq, ⟨Nat.le_trans h2.1 hz, fun q g1 g2 => (hq q (Nat.lt_of_lt_of_le g1 h2.1)).trans (h2.2.1 q g1 g2)⟩⟩) h2.2.2 hr.2.2.1 hr.2.2.2
  exact vx_hat (fun w hw => hts _ (f4 w hw)) f5 (fun w hw => (C.2.2.2.2.2.1.2.2.1 w hw).use (otb_tab w hw))
/-- behind a call that returns or throws -/
theorem j_backX {rm : Room} {post : Option Value → HS → Prop} {postx : String → HS → Prop} {rest : List Value} {a : Array Value} {H : Heap} {locs : List Loc} {ls : Array Slot} {k' n' : Nat} (hk : k + rm.cells = k') (hn : n + rm.slots = n') (hr : vx_Run (xp X) (xl X) (xe X) (xR X) (xs X) (xm X) (xa X) (xb X) (xh X) (xc X) H locs k n rm.cells rm.slots (F0 (xm X) pc ls st) rest (hs_Q (xw X) post a) (hs_X (xw X) postx) (hs_F (xw X))) (h2 : va_S (xA X) (xs X).heap H locs) (h3 : lv_has ls (xc X).maxLocals lv) (hB : wB (xw X) ≤ (xs X).heap.size)
    (kx : ∀ (E : String) (σ' : HS) (ce : Cell) (q9 : Addr) (H1 : Heap) (locs1 : List Loc), postx E σ' → hs_R (xw X) σ' H1 → va_S (xA X) (xs X).heap H1 locs1 → H1[q9]? = some ce → ce.vm = .none → (xs X).vm.findClass E = some ce.cls → vx_W (xp X) (xl X) (xe X) (xR X) (xs X) (xm X) (xa X) (xb X) (xh X) (xc X) H1 locs1 k' n' (xQ X) (F0 (xm X) pc ls rest) q9)
    (kk : ∀ (v : Option Value) (σ' : HS), post v σ' → J X k' n' σ' lv (v.toList ++ rest) (pc + 3)) : W (xp X) (xl X) (xe X) (xR X) (xs X) (xm X) (xa X) (xb X) (xh X) (xc X) H locs k n (xQ X) (F0 (xm X) pc ls st) := by
  subst hk; subst hn
  have key : ∀ {st₀ t T' : State} {L : List Loc}, st₀.heap = H → T'.heap = t.heap → (∀ q ∈ L, hs_F (xw X) q.base) → va_F (fun q => wB (xw X) ≤ q) st₀ t → va_S (xA X) (xs X).heap T'.heap (locs ++ L) := by
    intro st₀ t T' L h0 e1 hL hF
    obtain ⟨hz, hkp⟩ := hF
    rw [h0] at hz hkp
    exact ⟨Nat.le_trans h2.1 (by rw [e1]; exact hz), fun q g1 g2 => by rw [e1, hkp q (Nat.lt_of_lt_of_le g1 h2.1) g2]; exact h2.2.1 q g1 g2, fun q hq => by
      rcases List.mem_append.mp hq with h | h
      · exact h2.2.2 q h
      · exact hL q h⟩
  intro T hT X0
  rcases hr T hT X0 with ⟨v, st₀, t, T', L, h0, X', hL, e1, e2, ⟨v', σ', hv, hp, hb, hF⟩, stp⟩ | ⟨q, st₀, t, T', L, E, ce, h0, X', hL, e1, e2, ⟨σ', hp, hb, hF⟩, hce, hcv, hcl, stp⟩
  · cases hv
    obtain ⟨t2, a1, b1⟩ := kk v σ' hp T'.heap (locs ++ L) ls (by rw [e1]; exact hb) (key h0 e1 hL hF) h3 T' rfl X'
    exact ⟨t2, stp t2 a1, b1⟩
  · obtain ⟨t2, a1, b1⟩ := kx E σ' ce q T'.heap (locs ++ L) hp (by rw [e1]; exact hb) (key h0 e1 hL hF) (by rw [e1]; exact hce) hcv hcl T' rfl X'
    exact ⟨t2, stp.trans a1, b1⟩
/-- the callee's throw leaves this method too -/
theorem j_out (C : Ok X cc nL own) {post : Option Value → HS → Prop} {postx px : String → HS → Prop} {rm : Room} {ret : Option FieldType} {rest : List Value} {ls : Array Slot} (Q : Rx X post postx rm ret) (NT : NoTab X) (hk : k ≤ rm.cells) (hn : n ≤ rm.slots) (hp : ∀ E σ', px E σ' → postx E σ') : ∀ (E : String) (σ' : HS) (ce : Cell) (q9 : Addr) (H1 : Heap) (locs1 : List Loc), px E σ' → hs_R (xw X) σ' H1 → va_S (xA X) (xs X).heap H1 locs1 → H1[q9]? = some ce → ce.vm = .none → (xs X).vm.findClass E = some ce.cls → vx_W (xp X) (xl X) (xe X) (xR X) (xs X) (xm X) (xa X) (xb X) (xh X) (xc X) H1 locs1 k n (xQ X) (F0 (xm X) pc ls rest) q9 := by
  intro E σ' ce q9 H1 locs1 g1 g2 g3 g4 g5 g6
  rw [Q.2.2.1]
  exact vx_out (fun x hx => absurd hx (fun z => NT x z)) C.2.2.2.2.2.2.2.2 g4 g5 g6 (fun t ht hal => ⟨σ', hp E σ' g1, by rw [ht]; exact g2, hs_SF g3 ht⟩) g3.2.2 hk hn
theorem j_callVX (C : Ok X cc nL own) {y : MethodName} {bytes : ByteArray} {mL nA idx a : Nat} {ret ret0 : Option FieldType} {rm rm0 : Room} {post post0 : Option Value → HS → Prop} {px postx : String → HS → Prop} {t : Tg} (As rest : List Value) {k' n' : Nat} {q : vw_C} (Q : Rx X post0 postx rm0 ret0) (NT : NoTab X) (M : MX (xl X) (xw X) y bytes mL ret rm (.ref a :: As) σ post px) (P : MPV y bytes mL ret nA) (hl : Cond.methodLink own idx y ∈ gtb) (ht : At σ t a) (hc : vwCl[t.1]? = some q) (hcl : q.1 = y.cls) (hk11 : t.1 < 11) (hn : As.length = nA) (hst : st = As.reverse ++ .ref a :: rest) (hW : (rest.map fun v => v.category).sum ≤ 8) (hd : decode cc pc = .ok (.invokevirtual idx, 3)) (hf : rm.frames + 1 ≤ rm0.frames ∧ 8 + (mL + 11) + rm.locals ≤ rm0.locals) (hf2 : k + rm.cells ≤ rm0.cells ∧ n + rm.slots ≤ rm0.slots) (hk : k + rm.cells = k') (hn' : n + rm.slots = n') (hp : ∀ E σ', px E σ' → postx E σ') (kk : ∀ (v : Option Value) (σ' : HS), post v σ' → J X k' n' σ' lv (v.toList ++ rest) (pc + 3)) : J X k n σ lv st pc := by
  intro H locs ls h1 h2 h3
  subst hst
  have hts := C.2.2.2.2.1
  refine j_backX hk hn' (vx_runV (C := y.cls) C.fix M ⟨C.callB Q.1 P.1 hl hf, hts _ P.2.1, hts _ P.2.2⟩ ⟨hs_blind, by rw [← hcl]; exact C.recv h1 ht hc hk11, C.pre h1 h2⟩ rfl hn (by show ls.size = nL; rw [h3.1]; exact C.2.2.1) rfl (lv_room hW) hd (by rw [Q.1]; exact hf2)) h2 h3 C.2.2.2.2.2.2.2.1 (j_out C Q NT (by rw [← hk]; exact hf2.1) (by rw [← hn']; exact hf2.2) hp) kk
theorem j_callSX (C : Ok X cc nL own) {y : MethodName} {bytes : ByteArray} {mL nA idx : Nat} {ret ret0 : Option FieldType} {rm rm0 : Room} {post post0 : Option Value → HS → Prop} {px postx : String → HS → Prop} (As rest : List Value) {k' n' : Nat} (Q : Rx X post0 postx rm0 ret0) (NT : NoTab X) (M : MX (xl X) (xw X) y bytes mL ret rm As σ post px) (P : MPS y bytes mL ret nA) (hl : Cond.methodLink own idx y ∈ gtb) (hn : As.length = nA) (hst : st = As.reverse ++ rest) (hW : (rest.map fun v => v.category).sum ≤ 8) (hd : decode cc pc = .ok (.invokestatic idx, 3)) (hf : rm.frames + 1 ≤ rm0.frames ∧ 8 + (mL + 11) + rm.locals ≤ rm0.locals) (hf2 : k + rm.cells ≤ rm0.cells ∧ n + rm.slots ≤ rm0.slots) (hk : k + rm.cells = k') (hn' : n + rm.slots = n') (hp : ∀ E σ', px E σ' → postx E σ') (kk : ∀ (v : Option Value) (σ' : HS), post v σ' → J X k' n' σ' lv (v.toList ++ rest) (pc + 3)) : J X k n σ lv st pc := by
  intro H locs ls h1 h2 h3
  subst hst
  have hts := C.2.2.2.2.1
  refine j_backX hk hn' (vx_runS C.fix M ⟨C.callB Q.1 P.1 hl hf, hts _ P.2⟩ ⟨hs_blind, C.pre h1 h2⟩ rfl hn (by show ls.size = nL; rw [h3.1]; exact C.2.2.1) rfl (lv_room hW) hd (by rw [Q.1]; exact hf2)) h2 h3 C.2.2.2.2.2.2.2.1 (j_out C Q NT (by rw [← hk]; exact hf2.1) (by rw [← hn']; exact hf2.2) hp) kk
/-- the callee's throw is caught here -/
def Catches (X : Cx) (own E : String) (pc hpc : Nat) : Prop := ∃ (pre : List ExceptionTableEntry) (x : ExceptionTableEntry) (suf : List ExceptionTableEntry) (name : String), (xc X).exceptionTable.toList = pre ++ x :: suf ∧ (∀ z ∈ pre, covers z pc = false ∨ (z.catchType ≠ 0 ∧ ∃ nm, Cond.classLink own z.catchType nm ∈ gtb ∧ (E, nm) ∈ ntb)) ∧ covers x pc = true ∧ x.catchType ≠ 0 ∧ Cond.classLink own x.catchType name ∈ gtb ∧ Cond.castable E name ∈ otb ∧ x.handlerPc = hpc
theorem j_callVC (C : Ok X cc nL own) {y : MethodName} {bytes : ByteArray} {mL nA idx a : Nat} {ret : Option FieldType} {rm rm0 : Room} {post : Option Value → HS → Prop} {px : String → HS → Prop} {t : Tg} (As rest : List Value) {k' n' : Nat} {q : vw_C} (hR : xR X = rm0) (M : MX (xl X) (xw X) y bytes mL ret rm (.ref a :: As) σ post px) (P : MPV y bytes mL ret nA) (hl : Cond.methodLink own idx y ∈ gtb) (ht : At σ t a) (hc : vwCl[t.1]? = some q) (hcl : q.1 = y.cls) (hk11 : t.1 < 11) (hn : As.length = nA) (hst : st = As.reverse ++ .ref a :: rest) (hW : (rest.map fun v => v.category).sum ≤ 8) (hd : decode cc pc = .ok (.invokevirtual idx, 3)) (hf : rm.frames + 1 ≤ rm0.frames ∧ 8 + (mL + 11) + rm.locals ≤ rm0.locals) (hf2 : k + rm.cells ≤ rm0.cells ∧ n + rm.slots ≤ rm0.slots) (hk : k + rm.cells = k') (hn' : n + rm.slots = n') (kx : ∀ E σ', px E σ' → ∃ hpc, Catches X own E pc hpc ∧ ∀ q9 : Nat, J X k' n' σ' lv [.ref q9] hpc) (kk : ∀ (v : Option Value) (σ' : HS), post v σ' → J X k' n' σ' lv (v.toList ++ rest) (pc + 3)) : J X k n σ lv st pc := by
  intro H locs ls h1 h2 h3
  subst hst
  have hts := C.2.2.2.2.1
  refine j_backX hk hn' (vx_runV (C := y.cls) C.fix M ⟨C.callB hR P.1 hl hf, hts _ P.2.1, hts _ P.2.2⟩ ⟨hs_blind, by rw [← hcl]; exact C.recv h1 ht hc hk11, C.pre h1 h2⟩ rfl hn (by show ls.size = nL; rw [h3.1]; exact C.2.2.1) rfl (lv_room hW) hd (by rw [hR]; exact hf2)) h2 h3 C.2.2.2.2.2.2.2.1 ?_ kk
  intro E σ' ce q9 H1 locs1 g1 g2 g3 g4 g5 g6
  obtain ⟨hpc, ⟨pre, x, suf, name, c1, c2, c3, c4, c5, c6, rfl⟩, kj⟩ := kx E σ' g1
  refine vx_catch C.2.2.2.1 pre x suf c1 (fun z hz => ?_) c3 c4 (hts _ c5) ((C.2.2.2.2.2.1.2.2.1 _ c6).use rfl) g4 g5 g6 (kj q9 H1 locs1 ls g2 g3 h3)
  rcases c2 z hz with e | ⟨e1, nm, e2, e3⟩
  · exact Or.inl e
  · exact Or.inr ⟨e1, nm, hts _ e2, C.2.2.2.2.2.1.2.2.2.1 (E, nm) e3⟩
end JN
/-- the answer and the columns behind a call are told -/
theorem det1 {X : Cx} {k n : Nat} {σ2 : HS} {lv : List (Nat × Value)} {rest : List Value} {pc : Nat} {r : Value} (kk : J X k n σ2 lv (r :: rest) pc) : ∀ (v : Option Value) (σ' : HS), v = some r ∧ σ' = σ2 → J X k n σ' lv (v.toList ++ rest) pc := by
  rintro v σ' ⟨rfl, rfl⟩
  exact kk
theorem det0 {X : Cx} {k n : Nat} {σ2 : HS} {lv : List (Nat × Value)} {rest : List Value} {pc : Nat} (kk : J X k n σ2 lv rest pc) : ∀ (v : Option Value) (σ' : HS), v = none ∧ σ' = σ2 → J X k n σ' lv (v.toList ++ rest) pc := by
  rintro v σ' ⟨rfl, rfl⟩
  exact kk
