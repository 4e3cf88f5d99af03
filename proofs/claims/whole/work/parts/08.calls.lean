/-! contracts over columns, and calls -/
theorem hs_K.warm {w : Wd} {s U : State} (hW : s.WarmedH U.vm) (h : hs_K w s) : hs_K w U := ⟨va_K.moved hW.alike h.1, fun x hx => word_at hW (good_of_word (List.mem_filter.mp hx).2) (h.2.1 x hx), otb_warm hW h.2.2.1, fun q hq => (h.2.2.2.1 q hq).moved hW.alike, h.2.2.2.2.1.moved hW.alike, h.2.2.2.2.2.moved hW.alike⟩
theorem hs_Z.moved {w : Wd} {s U : State} {H : Heap} (hvm : s.vm.Alike U.vm) (h : hs_Z w s H) : hs_Z w U H := ⟨va_Z.moved hvm h.1, va_T.moved hvm h.2.1, h.2.2.1.moved hvm, h.2.2.2.1.moved hvm, h.2.2.2.2⟩
theorem hs_Z.kept {w : Wd} {s : State} {H H1 : Heap} (h : hs_Z w s H) (hq : ∀ a : Nat, a < H.size → ¬ wB w ≤ a → H1[a]? = H[a]?) : hs_Z w s H1 := ⟨h.1.kept hq, h.2.1.kept hq, h.2.2.1.kept hq, h.2.2.2.1.kept hq, h.2.2.2.2⟩
def hs_Pc (w : Wd) (av : List Value) (σ : HS) : Array Value → State → Prop := fun v U => v = av.toArray ∧ hs_R w σ U.heap ∧ hs_K w U ∧ hs_Z w U U.heap ∧ wB w ≤ U.heap.size
def hs_Q (w : Wd) (post : Option Value → HS → Prop) : Array Value → State → Outcome → State → Prop := fun _ st o t => ∃ (v : Option Value) (σ' : HS), o = .returned v ∧ post v σ' ∧ hs_R w σ' t.heap ∧ va_F (fun q => wB w ≤ q) st t
def hs_X (w : Wd) (postx : String → HS → Prop) : String → State → State → Prop := fun E st t => ∃ σ' : HS, postx E σ' ∧ hs_R w σ' t.heap ∧ va_F (fun q => wB w ≤ q) st t
abbrev hs_F (w : Wd) : Addr → Prop := fun q => wB w ≤ q
def MJ (l : Launch) (w : Wd) (y : MethodName) (cc : ByteArray) (nL : Nat) (ret : Option FieldType) (rm : Room) (av : List Value) (σ : HS) (post : Option Value → HS → Prop) : Prop := Met l y [Cond.code y cc nL ret] rm (hs_Pc w av σ) (hs_Q w post) rm.cells rm.slots (hs_F w)
def MX (l : Launch) (w : Wd) (y : MethodName) (cc : ByteArray) (nL : Nat) (ret : Option FieldType) (rm : Room) (av : List Value) (σ : HS) (post : Option Value → HS → Prop) (postx : String → HS → Prop) : Prop := vx_Met l y [Cond.code y cc nL ret] rm (hs_Pc w av σ) (hs_Q w post) (hs_X w postx) rm.cells rm.slots (hs_F w)
theorem hs_blind {w : Wd} {av : List Value} {σ : HS} : FrameBlind (hs_Pc w av σ) := fun a U g mk q => by
  obtain ⟨h1, h2, h3, h4, h5⟩ := q
  exact ⟨h1, h2, hs_K.warm (s := U) (U := U.calling g mk a) (State.WarmedH.refl U) h3, hs_Z.moved (s := U) (U := U.calling g mk a) (Vm.Alike.refl U.vm) h4, h5⟩
/-- what X asks at a return -/
def Rt (X : Cx) (post : Option Value → HS → Prop) (rm : Room) (ret : Option FieldType) : Prop := xR X = rm ∧ (xh X).sig.returnType = ret ∧ (xQ X = MQ (xb X) (hs_Q (xw X) post) (xa X) (xs X) rm.cells rm.slots (hs_F (xw X)) ∨ ∃ postx, xQ X = vx_MQ (xb X) (hs_Q (xw X) post) (hs_X (xw X) postx) (xa X) (xs X) rm.cells rm.slots (hs_F (xw X)))
/-- what X asks at a throw -/
def Rx (X : Cx) (post : Option Value → HS → Prop) (postx : String → HS → Prop) (rm : Room) (ret : Option FieldType) : Prop := xR X = rm ∧ (xh X).sig.returnType = ret ∧ xQ X = vx_MQ (xb X) (hs_Q (xw X) post) (hs_X (xw X) postx) (xa X) (xs X) rm.cells rm.slots (hs_F (xw X)) ∧ (xl X).stackTraces = false
theorem Rx.rt {X : Cx} {post : Option Value → HS → Prop} {postx : String → HS → Prop} {rm : Room} {ret : Option FieldType} (h : Rx X post postx rm ret) : Rt X post rm ret := ⟨h.1, h.2.1, Or.inr ⟨postx, h.2.2.1⟩⟩
def NoTab (X : Cx) : Prop := ∀ x ∈ (xc X).exceptionTable.toList, False
theorem hs_SF {w : Wd} {s t : State} {H : Heap} {locs : List Loc} (h : va_S (fun q => wB w ≤ q) s.heap H locs) (ht : t.heap = H) : va_F (fun q => wB w ≤ q) s t := h.F ht
theorem MJ.of {l : Launch} {w : Wd} {y : MethodName} {cc : ByteArray} {nL : Nat} {ret : Option FieldType} {rm : Room} {av : List Value} {σ : HS} {post : Option Value → HS → Prop} (hy : plainName y.cls = true) (hlen : (lg_sl av).length ≤ nL) (body : ∀ X : Cx, xl X = l → xw X = w → Ok X cc nL y.cls → Rt X post rm ret → (y.name = "<init>" → (xh X).name = "<init>") → J X 0 0 σ (lv_args 0 av) [] 0) : MJ l w y cc nL ret rm av σ post := by
  refine Met.ofW (cc := cc) (maxL := nL) (ret := ret) hy rfl ?_
  intro p e s m args below meth c s₁ B hml hv
  obtain ⟨rfl, hR, hK, hZ, hb⟩ := hv
  have hown : s.vm.findClass y.cls = some m.cls := findClass_of_methodNamed B.named
  rw [lg_entry_eq]
  have C : Ok (p, l, e, (headSpec [Cond.code y cc nL ret] rm).room, s, m, av.toArray, below, meth, c, MQ below (hs_Q w post) av.toArray s rm.cells rm.slots (hs_F w), w) cc nL y.cls := ⟨B.exec, B.bytes, hml, hown, fun x hx => word_at (s := s) (U := s) (State.WarmedH.refl s) (good_of_word (List.mem_filter.mp hx).2) (hK.2.1 x hx), hK, hZ, hb, B.notSynchronized⟩
  exact body (p, l, e, (headSpec [Cond.code y cc nL ret] rm).room, s, m, av.toArray, below, meth, c, MQ below (hs_Q w post) av.toArray s rm.cells rm.slots (hs_F w), w) rfl rfl C ⟨rfl, B.returns, Or.inl rfl⟩ (fun hn => (name_of_methodNamed B.named B.method).1.trans hn) s.heap [] _ hR va_S.rf (by show lv_has _ c.maxLocals _; rw [hml]; exact lv_entry av hlen)
theorem MX.of {l : Launch} {w : Wd} {y : MethodName} {cc : ByteArray} {nL : Nat} {ret : Option FieldType} {rm : Room} {av : List Value} {σ : HS} {post : Option Value → HS → Prop} {postx : String → HS → Prop} (hy : plainName y.cls = true) (hlen : (lg_sl av).length ≤ nL) (hl : l.stackTraces = false) (body : ∀ X : Cx, xl X = l → xw X = w → Ok X cc nL y.cls → Rx X post postx rm ret → NoTab X → J X 0 0 σ (lv_args 0 av) [] 0) : MX l w y cc nL ret rm av σ post postx := by
  refine vx_ofW (cc := cc) (maxL := nL) (ret := ret) hy rfl ?_
  intro p e s m args below meth c s₁ B hml htab hv
  obtain ⟨rfl, hR, hK, hZ, hb⟩ := hv
  have hown : s.vm.findClass y.cls = some m.cls := findClass_of_methodNamed B.named
  rw [lg_entry_eq]
  have C : Ok (p, l, e, (headSpec [Cond.code y cc nL ret] rm).room, s, m, av.toArray, below, meth, c, vx_MQ below (hs_Q w post) (hs_X w postx) av.toArray s rm.cells rm.slots (hs_F w), w) cc nL y.cls := ⟨B.exec, B.bytes, hml, hown, fun x hx => word_at (s := s) (U := s) (State.WarmedH.refl s) (good_of_word (List.mem_filter.mp hx).2) (hK.2.1 x hx), hK, hZ, hb, B.notSynchronized⟩
  exact body (p, l, e, (headSpec [Cond.code y cc nL ret] rm).room, s, m, av.toArray, below, meth, c, vx_MQ below (hs_Q w post) (hs_X w postx) av.toArray s rm.cells rm.slots (hs_F w), w) rfl rfl C ⟨rfl, B.returns, rfl, hl⟩ htab s.heap [] _ hR va_S.rf (by show lv_has _ c.maxLocals _; rw [hml]; exact lv_entry av hlen)
/-- what the tables say of a method: called on an object, statically, as a constructor -/
def MPB (y : MethodName) (cc : ByteArray) (nL : Nat) (ret : Option FieldType) (nA : Nat) : Prop := Cond.code y cc nL ret ∈ gtb ∧ Cond.initialized y.cls ∈ gtb ∧ (y.cls ≠ "java/lang/invoke/MethodHandle" ∧ y.cls ≠ "java/lang/invoke/VarHandle") ∧ (parseMethodDescriptor y.desc).map (fun d => d.parameters.length) = some nA
def MPV (y : MethodName) (cc : ByteArray) (nL : Nat) (ret : Option FieldType) (nA : Nat) : Prop := MPB y cc nL ret nA ∧ Cond.instanceMethod y ∈ gtb ∧ Cond.selects y.cls y y ∈ gtb
def MPS (y : MethodName) (cc : ByteArray) (nL : Nat) (ret : Option FieldType) (nA : Nat) : Prop := MPB y cc nL ret nA ∧ Cond.static y ∈ gtb
def MPI (y : MethodName) (cc : ByteArray) (nL : Nat) (nA : Nat) : Prop := MPB y cc nL none nA ∧ y.name = "<init>" ∧ Cond.instanceMethod y ∈ gtb
section JC
variable {X : Cx} {cc : ByteArray} {nL : Nat} {own : String} {k n : Nat} {σ : HS} {lv : List (Nat × Value)} {st : List Value} {pc : Nat}
theorem gtb_warm (C : Ok X cc nL own) {x : Cond} (hx : x ∈ gtb) (a' : Array Value) (U : State) (hW : (xs X).WarmedH U.vm) : x.before a' U = true := word_at hW (good_of_word (List.mem_filter.mp hx).2) (C.2.2.2.2.1 x hx)
theorem Ok.fix (C : Ok X cc nL own) : CallFix (xp X) (xm X) (xc X) cc nL (xs X) (xa X) gtb own := ⟨C.1, C.2.1, C.2.2.1, C.2.2.2.1, C.2.2.2.2.1⟩
theorem Ok.callB (C : Ok X cc nL own) {idx mL nA : Nat} {y : MethodName} {bytes : ByteArray} {ret : Option FieldType} {rm rm0 : Room} (hR : xR X = rm0) (P : MPB y bytes mL ret nA) (hl : Cond.methodLink own idx y ∈ gtb) (hf : rm.frames + 1 ≤ rm0.frames ∧ 8 + (mL + 11) + rm.locals ≤ rm0.locals) : CallB (xR X) (xs X) (xa X) own idx y bytes mL ret [Cond.code y bytes mL ret] rm rm.cells rm.slots nA := by
  obtain ⟨h1, h2, h3, h4⟩ := P
  have hts := C.2.2.2.2.1
  refine ⟨rfl, rfl, by rw [hR]; exact hf.1, by rw [hR]; exact hf.2, fun w hw a' U hW => ?_, List.mem_singleton.mpr rfl, hts _ h1, hts _ h2, h3, fun sig h => ?_, hts _ hl⟩
  · rw [List.mem_singleton.mp hw]
    exact gtb_warm C h1 a' U hW
  · rw [h] at h4
    exact (Option.some.inj h4).symm
theorem Ok.pre (C : Ok X cc nL own) {av : List Value} {H : Heap} {locs : List Loc} (h1 : hs_R (xw X) σ H) (h2 : va_S (xA X) (xs X).heap H locs) : ∀ U : State, U.heap = H → (xs X).WarmedH U.vm → hs_Pc (xw X) av σ av.toArray U := by
  intro U hU hW
  refine ⟨rfl, by rw [hU]; exact h1, hs_K.warm hW C.2.2.2.2.2.1, ?_, by rw [hU]; exact Nat.le_trans C.2.2.2.2.2.2.2.1 h2.1⟩
  rw [hU]
  exact (C.2.2.2.2.2.2.1.moved hW.alike).kept (fun a h3 h4 => h2.2.1 a h3 h4)
theorem Ok.recv (C : Ok X cc nL own) {t : Tg} {a : Nat} {H : Heap} (h1 : hs_R (xw X) σ H) (ht : At σ t a) {q : vw_C} (hc : vwCl[t.1]? = some q) (hk : t.1 < 11) : ∃ cell : Cell, H[a]? = some cell ∧ cell.vm.isStatics = false ∧ (xs X).vm.findClass q.1 = some cell.cls := by
  obtain ⟨hv, rfl⟩ := ht
  obtain ⟨cell, q1, q2, q3, q4⟩ := ((h1.1 t hv).1).obj hk (C := q.1) (T := q.2.1) (N := q.2.2) hc
  exact ⟨cell, q1, by rw [q3]; rfl, by rw [q2]; exact (C.2.2.2.2.2.1.1.1 t.1 q hc).2.1⟩
/-- behind a call -/
theorem j_back {rm : Room} {post : Option Value → HS → Prop} {rest : List Value} {a : Array Value} {H : Heap} {locs : List Loc} {ls : Array Slot} {k' n' : Nat} (hk : k + rm.cells = k') (hn : n + rm.slots = n') (hr : va_Run (xp X) (xl X) (xe X) (xR X) (xs X) (xm X) (xa X) (xb X) (xh X) (xc X) H locs k n rm.cells rm.slots (F0 (xm X) pc ls st) rest (hs_Q (xw X) post a) (hs_F (xw X))) (h2 : va_S (xA X) (xs X).heap H locs) (h3 : lv_has ls (xc X).maxLocals lv) (hB : wB (xw X) ≤ (xs X).heap.size) (kk : ∀ (v : Option Value) (σ' : HS), post v σ' → J X k' n' σ' lv (v.toList ++ rest) (pc + 3)) : W (xp X) (xl X) (xe X) (xR X) (xs X) (xm X) (xa X) (xb X) (xh X) (xc X) H locs k n (xQ X) (F0 (xm X) pc ls st) := by
  subst hk; subst hn
  intro T hT X0
  obtain ⟨v, st₀, t, T', L, h0, X', hL, e1, e2, ⟨v', σ', hv, hp, hb, hz, hkp⟩, stp⟩ := hr T hT X0
  cases hv
  rw [h0] at hz hkp
  obtain ⟨t2, a1, b1⟩ := kk v σ' hp T'.heap (locs ++ L) ls (by rw [e1]; exact hb) ⟨Nat.le_trans h2.1 (by rw [e1]; exact hz), fun q g1 g2 => by rw [e1, hkp q (Nat.lt_of_lt_of_le g1 h2.1) g2]; exact h2.2.1 q g1 g2, fun q hq => by
      rcases List.mem_append.mp hq with h | h
      · exact h2.2.2 q h
      · exact hL q h⟩ h3 T' rfl X'
  exact ⟨t2, stp t2 a1, b1⟩
theorem j_callV (C : Ok X cc nL own) {y : MethodName} {bytes : ByteArray} {mL nA idx a : Nat} {ret : Option FieldType} {rm rm0 : Room} {post : Option Value → HS → Prop} {t : Tg} (As rest : List Value) {k' n' : Nat} {q : vw_C} (hR : xR X = rm0) (M : MJ (xl X) (xw X) y bytes mL ret rm (.ref a :: As) σ post) (P : MPV y bytes mL ret nA) (hl : Cond.methodLink own idx y ∈ gtb) (ht : At σ t a) (hc : vwCl[t.1]? = some q) (hcl : q.1 = y.cls) (hk11 : t.1 < 11) (hn : As.length = nA) (hst : st = As.reverse ++ .ref a :: rest) (hW : (rest.map fun v => v.category).sum ≤ 8) (hd : decode cc pc = .ok (.invokevirtual idx, 3)) (hf : rm.frames + 1 ≤ rm0.frames ∧ 8 + (mL + 11) + rm.locals ≤ rm0.locals) (hf2 : k + rm.cells ≤ rm0.cells ∧ n + rm.slots ≤ rm0.slots) (hk : k + rm.cells = k') (hn' : n + rm.slots = n') (kk : ∀ (v : Option Value) (σ' : HS), post v σ' → J X k' n' σ' lv (v.toList ++ rest) (pc + 3)) : J X k n σ lv st pc := by
  intro H locs ls h1 h2 h3
  subst hst
  have hts := C.2.2.2.2.1
  refine j_back hk hn' (va_runV (C := y.cls) C.fix M ⟨C.callB hR P.1 hl hf, hts _ P.2.1, hts _ P.2.2⟩ ⟨hs_blind, by rw [← hcl]; exact C.recv h1 ht hc hk11, C.pre h1 h2⟩ rfl hn (by show ls.size = nL; rw [h3.1]; exact C.2.2.1) rfl (lv_room hW) hd (by rw [hR]; exact hf2)) h2 h3 C.2.2.2.2.2.2.2.1 kk
theorem j_callS (C : Ok X cc nL own) {y : MethodName} {bytes : ByteArray} {mL nA idx : Nat} {ret : Option FieldType} {rm rm0 : Room} {post : Option Value → HS → Prop} (As rest : List Value) {k' n' : Nat} (hR : xR X = rm0) (M : MJ (xl X) (xw X) y bytes mL ret rm As σ post) (P : MPS y bytes mL ret nA) (hl : Cond.methodLink own idx y ∈ gtb) (hn : As.length = nA) (hst : st = As.reverse ++ rest) (hW : (rest.map fun v => v.category).sum ≤ 8) (hd : decode cc pc = .ok (.invokestatic idx, 3)) (hf : rm.frames + 1 ≤ rm0.frames ∧ 8 + (mL + 11) + rm.locals ≤ rm0.locals) (hf2 : k + rm.cells ≤ rm0.cells ∧ n + rm.slots ≤ rm0.slots) (hk : k + rm.cells = k') (hn' : n + rm.slots = n') (kk : ∀ (v : Option Value) (σ' : HS), post v σ' → J X k' n' σ' lv (v.toList ++ rest) (pc + 3)) : J X k n σ lv st pc := by
  intro H locs ls h1 h2 h3
  subst hst
  have hts := C.2.2.2.2.1
  refine j_back hk hn' (va_runS C.fix M ⟨C.callB hR P.1 hl hf, hts _ P.2⟩ ⟨hs_blind, C.pre h1 h2⟩ rfl hn (by show ls.size = nL; rw [h3.1]; exact C.2.2.1) rfl (lv_room hW) hd (by rw [hR]; exact hf2)) h2 h3 C.2.2.2.2.2.2.2.1 kk
theorem j_callI (C : Ok X cc nL own) {y : MethodName} {bytes : ByteArray} {mL nA idx a : Nat} {rm rm0 : Room} {post : Option Value → HS → Prop} (As rest : List Value) {k' n' : Nat} (hR : xR X = rm0) (M : MJ (xl X) (xw X) y bytes mL none rm (.ref a :: As) σ post) (P : MPI y bytes mL nA) (hl : Cond.methodLink own idx y ∈ gtb) (hn : As.length = nA) (hst : st = As.reverse ++ .ref a :: rest) (hW : (rest.map fun v => v.category).sum ≤ 8) (hd : decode cc pc = .ok (.invokespecial idx, 3)) (hf : rm.frames + 1 ≤ rm0.frames ∧ 8 + (mL + 11) + rm.locals ≤ rm0.locals) (hf2 : k + rm.cells ≤ rm0.cells ∧ n + rm.slots ≤ rm0.slots) (hk : k + rm.cells = k') (hn' : n + rm.slots = n') (kk : ∀ (v : Option Value) (σ' : HS), post v σ' → J X k' n' σ' lv (v.toList ++ rest) (pc + 3)) : J X k n σ lv st pc := by
  intro H locs ls h1 h2 h3
  subst hst
  have hts := C.2.2.2.2.1
  refine j_back hk hn' (va_runI C.fix M ⟨C.callB hR P.1 hl hf, P.2.1, hts _ P.2.2⟩ ⟨hs_blind, C.pre h1 h2⟩ rfl hn (by show ls.size = nL; rw [h3.1]; exact C.2.2.1) rfl (lv_room hW) hd (by rw [hR]; exact hf2)) h2 h3 C.2.2.2.2.2.2.2.1 kk
theorem j_callIN (C : Ok X cc nL own) {y : MethodName} {host : String} {bytes : ByteArray} {mL nA idx a : Nat} {rm rm0 : Room} {post : Option Value → HS → Prop} (As rest : List Value) {k' n' : Nat} (hR : xR X = rm0) (M : MJ (xl X) (xw X) y bytes mL none rm (.ref a :: As) σ post) (P : MPI y bytes mL nA) (hl : Cond.methodLinkNest own idx y host ∈ otb) (hn : As.length = nA) (hst : st = As.reverse ++ .ref a :: rest) (hW : (rest.map fun v => v.category).sum ≤ 8) (hd : decode cc pc = .ok (.invokespecial idx, 3)) (hf : rm.frames + 1 ≤ rm0.frames ∧ 8 + (mL + 11) + rm.locals ≤ rm0.locals) (hf2 : k + rm.cells ≤ rm0.cells ∧ n + rm.slots ≤ rm0.slots) (hk : k + rm.cells = k') (hn' : n + rm.slots = n') (kk : ∀ (v : Option Value) (σ' : HS), post v σ' → J X k' n' σ' lv (v.toList ++ rest) (pc + 3)) : J X k n σ lv st pc := by
  intro H locs ls h1 h2 h3
  subst hst
  have hts := C.2.2.2.2.1
  obtain ⟨⟨g1, g2, g3, g4⟩, g5, g6⟩ := id P
  have hB : va_CN (xR X) (xs X) (xa X) own idx y host bytes mL none [Cond.code y bytes mL none] rm rm.cells rm.slots nA := ⟨⟨rfl, rfl, by rw [hR]; exact hf.1, by rw [hR]; exact hf.2, fun w hw a' U hW => by rw [List.mem_singleton.mp hw]; exact gtb_warm C g1 a' U hW, List.mem_singleton.mpr rfl⟩, hts _ g1, hts _ g2, g3, fun sig h => by rw [h] at g4; exact (Option.some.inj g4).symm, (C.2.2.2.2.2.1.2.2.1 _ hl).use rfl⟩
  refine j_back hk hn' (va_runIN C.fix M ⟨hB, g5, hts _ g6⟩ ⟨hs_blind, C.pre h1 h2⟩ rfl hn (by show ls.size = nL; rw [h3.1]; exact C.2.2.1) rfl (lv_room hW) hd (by rw [hR]; exact hf2)) h2 h3 C.2.2.2.2.2.2.2.1 kk
theorem j_objInit (C : Ok X cc nL own) {idx a : Nat} {rest : List Value} {rm0 : Room} (hR : xR X = rm0) (hl : Cond.methodLink own idx Lib.objectInit ∈ gtb) (hi : Cond.instanceMethod Lib.objectInit ∈ gtb) (hco : Cond.code Lib.objectInit ⟨#[0xb1]⟩ 1 none ∈ gtb) (hst : st = .ref a :: rest) (hd : decode cc pc = .ok (.invokespecial idx, 3)) (hf : 1 ≤ rm0.frames ∧ (rest.map fun v => v.category).sum + 12 ≤ rm0.locals) (kk : J X k n σ lv rest (pc + 3)) : J X k n σ lv st pc := by
  intro H locs ls h1 h2 h3
  subst hst
  have hts := C.2.2.2.2.1
  exact W.objInit C.1 C.2.1 C.2.2.2.1 (hts _ hl) (hts _ hi) (hts _ hco) rfl h3.1 rfl hd (by rw [hR]; exact hf.1) (by rw [hR]; exact Nat.le_trans (Nat.le_of_eq (by simp [JFrame.monitorRoom])) hf.2) (kk H locs ls h1 h2 h3)
/-! returns -/
theorem j_ret {post : Option Value → HS → Prop} {rm : Room} {ret : Option FieldType} {v : Option Value} (Q : Rt X post rm ret) (hk : k ≤ rm.cells) (hn : n ≤ rm.slots) (hp : post v σ) (hw : ∀ (H : Heap) (locs : List Loc) (ls : Array Slot) (c1 s1 : Nat), (∀ t : State, t.heap = H → (xs X).WarmedH t.vm → hs_Q (xw X) post (xa X) (xs X) (.returned v) t) → (∀ q ∈ locs, hs_F (xw X) q.base) → W (xp X) (xl X) (xe X) (xR X) (xs X) (xm X) (xa X) (xb X) (xh X) (xc X) H locs c1 s1 (MQ (xb X) (hs_Q (xw X) post) (xa X) (xs X) c1 s1 (hs_F (xw X))) (F0 (xm X) pc ls st)) : J X k n σ lv st pc := by
  intro H locs ls h1 h2 h3
  have g := hw H locs ls rm.cells rm.slots (fun t ht hW => ⟨v, σ, rfl, hp, by rw [ht]; exact h1, hs_SF h2 ht⟩) h2.2.2
  refine W.widen hk hn ?_
  rcases Q.2.2 with e | ⟨px, e⟩
  · rw [e]; exact g
  · rw [e]; exact vx_ret g
theorem j_ireturn (C : Ok X cc nL own) {post : Option Value → HS → Prop} {rm : Room} {v : Int32} (Q : Rt X post rm (some .int)) (hd : decode cc pc = .ok (.ireturn, 1)) (hk : k ≤ rm.cells) (hn : n ≤ rm.slots) (hp : post (some (.int v)) σ) : J X k n σ lv [.int v] pc :=
  j_ret Q hk hn hp (fun H locs ls c1 s1 hq hf => W.iret C.1 C.2.1 Q.2.1 hq hf hd C.2.2.2.2.2.2.2.2)
theorem j_zreturn (C : Ok X cc nL own) {post : Option Value → HS → Prop} {rm : Room} {v : Int32} (Q : Rt X post rm (some .boolean)) (hd : decode cc pc = .ok (.ireturn, 1)) (hz : narrow .boolean (.int v) = .int v) (hk : k ≤ rm.cells) (hn : n ≤ rm.slots) (hp : post (some (.int v)) σ) : J X k n σ lv [.int v] pc :=
  j_ret Q hk hn hp (fun H locs ls c1 s1 hq hf => W.zret C.1 C.2.1 Q.2.1 hz hq hf hd C.2.2.2.2.2.2.2.2)
theorem j_lreturn (C : Ok X cc nL own) {post : Option Value → HS → Prop} {rm : Room} {v : Int64} (Q : Rt X post rm (some .long)) (hd : decode cc pc = .ok (.lreturn, 1)) (hk : k ≤ rm.cells) (hn : n ≤ rm.slots) (hp : post (some (.long v)) σ) : J X k n σ lv [.long v] pc :=
  j_ret Q hk hn hp (fun H locs ls c1 s1 hq hf => W.lret C.1 C.2.1 Q.2.1 hq hf hd C.2.2.2.2.2.2.2.2)
theorem j_areturn (C : Ok X cc nL own) {post : Option Value → HS → Prop} {rm : Room} {v : Value} {rt : FieldType} (Q : Rt X post rm (some rt)) (hrt : (∃ n, rt = .object n) ∨ ∃ t, rt = .array t) (hv : v = .null ∨ ∃ a, v = .ref a) (hd : decode cc pc = .ok (.areturn, 1)) (hk : k ≤ rm.cells) (hn : n ≤ rm.slots) (hp : post (some v) σ) : J X k n σ lv [v] pc :=
  j_ret Q hk hn hp (fun H locs ls c1 s1 hq hf => W.aret C.1 C.2.1 Q.2.1 hrt hv hq hf hd C.2.2.2.2.2.2.2.2)
theorem j_vreturn (C : Ok X cc nL own) {post : Option Value → HS → Prop} {rm : Room} (Q : Rt X post rm none) (hd : decode cc pc = .ok (.return_, 1)) (hk : k ≤ rm.cells) (hn : n ≤ rm.slots) (hp : post none σ) : J X k n σ lv [] pc :=
  j_ret Q hk hn hp (fun H locs ls c1 s1 hq hf => W.vret C.1 C.2.1 Q.2.1 hq hf hd C.2.2.2.2.2.2.2.2)
end JC
