section JIN
variable {X : Cx} {cc : ByteArray} {nL : Nat} {own : String} {k n : Nat} {σ : HS} {lv : List (Nat × Value)} {st : List Value} {pc : Nat}
/-- two that live at one address are one -/
theorem j_inj (kk : (∀ t t', hV σ t = true → hV σ t' = true → hG σ t = hG σ t' → t = t') → J X k n σ lv st pc) : J X k n σ lv st pc := fun H locs ls h1 h2 h3 => kk (fun t t' a b e => by rw [← (h1.1 t a).2.1, ← (h1.1 t' b).2.1, e]) H locs ls h1 h2 h3
theorem jt_acmp_eq (C : Ok X cc nL own) {t t' : Tg} {a b : Nat} {off : Int} (tgt : Nat) (ha : At σ t a) (hb : At σ t' b) (hd : decode cc pc = .ok (.if_acmp .eq off, 3)) (ht : (pc : Int) + off = (tgt : Int)) (kt : t = t' → J X k n σ lv st tgt) (kf : t ≠ t' → J X k n σ lv st (pc + 3)) : J X k n σ lv (.ref b :: .ref a :: st) pc := j_inj (fun hi => j_acmp_eq C tgt hd ht (fun q => kt (hi t t' ha.1 hb.1 (ha.2.trans (q.trans hb.2.symm)))) (fun q => kf (fun z => q (by rw [← ha.2, ← hb.2, z]))))
theorem jt_acmp_ne (C : Ok X cc nL own) {t t' : Tg} {a b : Nat} {off : Int} (tgt : Nat) (ha : At σ t a) (hb : At σ t' b) (hd : decode cc pc = .ok (.if_acmp .ne off, 3)) (ht : (pc : Int) + off = (tgt : Int)) (kt : t ≠ t' → J X k n σ lv st tgt) (kf : t = t' → J X k n σ lv st (pc + 3)) : J X k n σ lv (.ref b :: .ref a :: st) pc := j_inj (fun hi => j_acmp_ne C tgt hd ht (fun q => kt (fun z => q (by rw [← ha.2, ← hb.2, z]))) (fun q => kf (hi t t' ha.1 hb.1 (ha.2.trans (q.trans hb.2.symm)))))
end JIN
theorem bt_1 {i : Nat} : bt (nI 1) i = decide (i = 0) := by
  by_cases h : i < 32
  · rw [bt_nI 1 h]
    have : (1 : Nat).testBit i = decide (0 = i) := Nat.testBit_two_pow (n := 0)
    rw [this]
    exact decide_eq_decide.mpr ⟨fun z => z.symm, fun z => z.symm⟩
  · rw [b_big (Nat.le_of_not_lt h), decide_eq_false (by omega)]
/-- three rows of bits, each at its place -/
theorem shr3 {x y z : Int32} {a b c : Nat} (ha : a < 32) (hb : b < 32) (hc : c < 32) : ((x.toUInt32 >>> ((nI a).toUInt32 &&& Int32.toUInt32 31)).toInt32 &&& (y.toUInt32 >>> ((nI b).toUInt32 &&& Int32.toUInt32 31)).toInt32) &&& (z.toUInt32 >>> ((nI c).toUInt32 &&& Int32.toUInt32 31)).toInt32 &&& nI 1 = nI (bt x a && bt y b && bt z c).toNat := by
  apply b_ext
  intro i hi
  rw [b_and, b_and, b_and, b_ushr a ha, b_ushr b hb, b_ushr c hc, bt_1, bt_nI _ hi]
  by_cases e : i = 0
  · subst e
    rw [Nat.add_zero, Nat.add_zero, Nat.add_zero]
    cases bt x a && bt y b && bt z c <;> rfl
  · rw [decide_eq_false e, Bool.and_false]
    cases bt x a && bt y b && bt z c
    · exact (Nat.zero_testBit i).symm
    · have : (1 : Nat).testBit i = decide (0 = i) := Nat.testBit_two_pow (n := 0)
      exact (this.trans (decide_eq_false (fun z => e z.symm))).symm
set_option maxHeartbeats 4000000 in
set_option maxRecDepth 100000 in
theorem c_X2_init (L9 : Launch) (w9 : Wd) {σ : HS} {c a0 : Nat} (ha0 : At σ (3, c) a0) (x y z : Int32) : MJ L9 w9 yX2_init cX2_init 4 none ({ frames := 1, cells := 0, slots := 0, locals := 12 } : Room) [.ref a0, .int x, .int y, .int z] σ (fun a9 σ' => a9 = none ∧ σ' = sI (sI (sI σ 192 c 0 x) 193 c 0 y) 194 c 0 z) := by
  refine MJ.of (by decide +kernel) (Nat.le_of_ble_eq_true rfl) (fun X hX1 hX2 C Q hinit => ?_)
  subst hX1; subst hX2
  show J X 0 0 σ [(0, .ref a0), (1, .int x), (2, .int y), (3, .int z)] [] 0
  refine j_aload_n (pc := 0) C dX2_init_0 rfl 0 rfl ?_
  refine j_objInit (pc := 1) C (rm0 := ({ frames := 1, cells := 0, slots := 0, locals := 12 } : Room)) Q.1 wm_127 wm_87 wm_88 rfl dX2_init_1 ⟨by decide, by decide⟩ ?_
  refine j_aload_n (pc := 4) C dX2_init_4 rfl 0 rfl ?_
  refine j_iload_n (pc := 5) C dX2_init_5 rfl 1 rfl ?_
  refine j_putI (pc := 6) C fp_X2_7 ha0 rfl rfl (Or.inr ⟨rfl, hinit rfl⟩) rfl (by decide) (f := 192) rfl dX2_init_6 ?_
  refine j_aload_n (pc := 9) C dX2_init_9 rfl 0 rfl ?_
  refine j_iload_n (pc := 10) C dX2_init_10 rfl 2 rfl ?_
  refine j_putI (pc := 11) C fp_X2_13 ha0 rfl rfl (Or.inr ⟨rfl, hinit rfl⟩) rfl (by decide) (f := 193) rfl dX2_init_11 ?_
  refine j_aload_n (pc := 14) C dX2_init_14 rfl 0 rfl ?_
  refine j_iload_n (pc := 15) C dX2_init_15 rfl 3 rfl ?_
  refine j_putI (pc := 16) C fp_X2_16 ha0 rfl rfl (Or.inl rfl) rfl (by decide) (f := 194) rfl dX2_init_16 ?_
  exact j_vreturn (pc := 19) C Q dX2_init_19 (Nat.le_of_ble_eq_true rfl) (Nat.le_of_ble_eq_true rfl) (⟨rfl, rfl⟩)
set_option maxHeartbeats 4000000 in
set_option maxRecDepth 100000 in
theorem c_X2_look (L9 : Launch) (w9 : Wd) {σ : HS} {c a0 : Nat} (ha0 : At σ (3, c) a0) {p q m k u : Nat} (h1 : hI σ 192 c 0 = nI p) (h2 : hI σ 193 c 0 = nI q) (h3 : hI σ 194 c 0 = nI m) (hk : k < 31) (hp : p < 64) (hu : u < 64) : MJ L9 w9 yX2_look cX2_look 3 none ({ frames := 0, cells := 0, slots := 0, locals := 0 } : Room) [.ref a0, .int (nI k), .int (nI u)] σ (fun a9 σ' => a9 = none ∧ σ' = sI σ 194 c 0 (nI (if u &&& p = p ∧ u &&& q = 0 then m ||| 2 ^ k else m))) := by
  refine MJ.of (by decide +kernel) (Nat.le_of_ble_eq_true rfl) (fun X hX1 hX2 C Q hinit => ?_)
  subst hX1; subst hX2
  show J X 0 0 σ [(0, .ref a0), (1, .int (nI k)), (2, .int (nI u))] [] 0
  have l1 : u &&& p ≤ u := Nat.and_le_left
  have l2 : u &&& q ≤ u := Nat.and_le_left
  have e0 : sI σ 194 c 0 (nI m) = σ := by rw [← h3]; exact sI_id
  refine j_iload_n (pc := 0) C dX2_look_0 rfl 2 rfl ?_
  refine j_aload_n (pc := 1) C dX2_look_1 rfl 0 rfl ?_
  refine j_getI (pc := 2) C fp_X2_7 ha0 rfl (f := 192) rfl dX2_look_2 ?_
  refine j_topi (nI p) h1 ?_
  refine j_iand (pc := 5) C dX2_look_5 ?_
  refine j_topi (nI (u &&& p)) (nx_and u p) ?_
  refine j_aload_n (pc := 6) C dX2_look_6 rfl 0 rfl ?_
  refine j_getI (pc := 7) C fp_X2_7 ha0 rfl (f := 192) rfl dX2_look_7 ?_
  refine j_topi (nI p) h1 ?_
  refine jn_icmp_ne (pc := 10) C 34 (a := u &&& p) (b := p) (by omega) (by omega) dX2_look_10 (by decide) (fun c1 => ?_) (fun c1 => ?_)
  · exact j_vreturn (pc := 34) C Q dX2_look_34 (Nat.le_of_ble_eq_true rfl) (Nat.le_of_ble_eq_true rfl) (⟨rfl, by rw [if_neg (fun z => c1 z.1)]; exact e0.symm⟩)
  · refine j_iload_n (pc := 13) C dX2_look_13 rfl 2 rfl ?_
    refine j_aload_n (pc := 14) C dX2_look_14 rfl 0 rfl ?_
    refine j_getI (pc := 15) C fp_X2_13 ha0 rfl (f := 193) rfl dX2_look_15 ?_
    refine j_topi (nI q) h2 ?_
    refine j_iand (pc := 18) C dX2_look_18 ?_
    refine j_topi (nI (u &&& q)) (nx_and u q) ?_
    refine jn_if_ne (pc := 19) C 34 (a := u &&& q) (by omega) dX2_look_19 (by decide) (fun c2 => ?_) (fun c2 => ?_)
    · exact j_vreturn (pc := 34) C Q dX2_look_34 (Nat.le_of_ble_eq_true rfl) (Nat.le_of_ble_eq_true rfl) (⟨rfl, by rw [if_neg (fun z => c2 z.2)]; exact e0.symm⟩)
    · refine j_aload_n (pc := 22) C dX2_look_22 rfl 0 rfl ?_
      refine j_dup (pc := 23) C dX2_look_23 rfl ?_
      refine j_getI (pc := 24) C fp_X2_16 ha0 rfl (f := 194) rfl dX2_look_24 ?_
      refine j_topi (nI m) h3 ?_
      refine j_iconst (pc := 27) C (nI 1) dX2_look_27 (by decide) ?_
      refine j_iload_n (pc := 28) C dX2_look_28 rfl 1 rfl ?_
      refine j_ishl (pc := 29) C dX2_look_29 ?_
      refine j_topi (nI (2 ^ k)) (shl1 hk) ?_
      refine j_ior (pc := 30) C dX2_look_30 ?_
      refine j_topi (nI (m ||| (2 ^ k))) (nx_or m (2 ^ k)) ?_
      refine j_putI (pc := 31) C fp_X2_16 ha0 rfl rfl (Or.inl rfl) rfl (by decide) (f := 194) rfl dX2_look_31 ?_
      exact j_vreturn (pc := 34) C Q dX2_look_34 (Nat.le_of_ble_eq_true rfl) (Nat.le_of_ble_eq_true rfl) (⟨rfl, by rw [if_pos ⟨c1, c2⟩]⟩)
set_option maxHeartbeats 4000000 in
set_option maxRecDepth 100000 in
theorem c_X7_init (L9 : Launch) (w9 : Wd) {σ : HS} {r a0 : Nat} (ha0 : At σ (7, r) a0) (x y : Int32) {t t1 t2 : Tg} {b b1 b2 : Nat} (hb : At σ t b) (hb1 : At σ t1 b1) (hb2 : At σ t2 b2) : MJ L9 w9 yX7_init cX7_init 6 none ({ frames := 1, cells := 0, slots := 0, locals := 12 } : Room) [.ref a0, .int x, .ref b, .int y, .ref b1, .ref b2] σ (fun a9 σ' => a9 = none ∧ σ' = sR (sR (sI (sR (sI σ 448 r 0 x) 449 r 0 (some t)) 450 r 0 y) 451 r 0 (some t1)) 452 r 0 (some t2)) := by
  refine MJ.of (by decide +kernel) (Nat.le_of_ble_eq_true rfl) (fun X hX1 hX2 C Q hinit => ?_)
  subst hX1; subst hX2
  show J X 0 0 σ [(0, .ref a0), (1, .int x), (2, .ref b), (3, .int y), (4, .ref b1), (5, .ref b2)] [] 0
  refine j_aload_n (pc := 0) C dX7_init_0 rfl 0 rfl ?_
  refine j_objInit (pc := 1) C (rm0 := ({ frames := 1, cells := 0, slots := 0, locals := 12 } : Room)) Q.1 wm_679 wm_87 wm_88 rfl dX7_init_1 ⟨by decide, by decide⟩ ?_
  refine j_aload_n (pc := 4) C dX7_init_4 rfl 0 rfl ?_
  refine j_iload_n (pc := 5) C dX7_init_5 rfl 1 rfl ?_
  refine j_putI (pc := 6) C fp_X7_7 ha0 rfl rfl (Or.inr ⟨rfl, hinit rfl⟩) rfl (by decide) (f := 448) rfl dX7_init_6 ?_
  refine j_aload_n (pc := 9) C dX7_init_9 rfl 0 rfl ?_
  refine j_aload_n (pc := 10) C dX7_init_10 rfl 2 rfl ?_
  refine j_putR (pc := 11) C t hb.2 (Or.inl hb.1) fp_X7_13 ha0 rfl rfl (Or.inr ⟨rfl, hinit rfl⟩) rfl (by decide) (f := 449) rfl dX7_init_11 ?_
  refine j_aload_n (pc := 14) C dX7_init_14 rfl 0 rfl ?_
  refine j_iload_n (pc := 15) C dX7_init_15 rfl 3 rfl ?_
  refine j_putI (pc := 16) C fp_X7_17 ha0 rfl rfl (Or.inr ⟨rfl, hinit rfl⟩) rfl (by decide) (f := 450) rfl dX7_init_16 ?_
  refine j_aload_n (pc := 19) C dX7_init_19 rfl 0 rfl ?_
  refine j_aload (pc := 20) C dX7_init_20 4 rfl ?_
  refine j_putR (pc := 22) C t1 hb1.2 (Or.inl hb1.1) fp_X7_20 ha0 rfl rfl (Or.inr ⟨rfl, hinit rfl⟩) rfl (by decide) (f := 451) rfl dX7_init_22 ?_
  refine j_aload_n (pc := 25) C dX7_init_25 rfl 0 rfl ?_
  refine j_aload (pc := 26) C dX7_init_26 5 rfl ?_
  refine j_putR (pc := 28) C t2 hb2.2 (Or.inl hb2.1) fp_X7_23 ha0 rfl rfl (Or.inr ⟨rfl, hinit rfl⟩) rfl (by decide) (f := 452) rfl dX7_init_28 ?_
  exact j_vreturn (pc := 31) C Q dX7_init_31 (Nat.le_of_ble_eq_true rfl) (Nat.le_of_ble_eq_true rfl) (⟨rfl, rfl⟩)
set_option maxHeartbeats 4000000 in
set_option maxRecDepth 100000 in
theorem c_X7_bit (L9 : Launch) (w9 : Wd) {σ : HS} {r a0 : Nat} (ha0 : At σ (7, r) a0) (h1 : hI σ 448 r 0 = nI r) (hr : r < 31) : MJ L9 w9 yX7_bit cX7_bit 1 (some .int) ({ frames := 0, cells := 0, slots := 0, locals := 0 } : Room) [.ref a0] σ (fun a9 σ' => a9 = some (.int (nI (2 ^ r))) ∧ σ' = σ) := by
  refine MJ.of (by decide +kernel) (Nat.le_of_ble_eq_true rfl) (fun X hX1 hX2 C Q hinit => ?_)
  subst hX1; subst hX2
  show J X 0 0 σ [(0, .ref a0)] [] 0
  refine j_iconst (pc := 0) C (nI 1) dX7_bit_0 (by decide) ?_
  refine j_aload_n (pc := 1) C dX7_bit_1 rfl 0 rfl ?_
  refine j_getI (pc := 2) C fp_X7_7 ha0 rfl (f := 448) rfl dX7_bit_2 ?_
  refine j_topi (nI r) h1 ?_
  refine j_ishl (pc := 5) C dX7_bit_5 ?_
  refine j_topi (nI (2 ^ r)) (shl1 hr) ?_
  exact j_ireturn (pc := 6) C Q dX7_bit_6 (Nat.le_of_ble_eq_true rfl) (Nat.le_of_ble_eq_true rfl) (⟨rfl, rfl⟩)
theorem and_bit {s r : Nat} : (s &&& 2 ^ r = 0 ↔ s.testBit r = false) := fb_bit_nat s r
set_option maxHeartbeats 4000000 in
set_option maxRecDepth 100000 in
theorem c_X7_isIn (L9 : Launch) (w9 : Wd) {σ : HS} {r a0 s : Nat} (ha0 : At σ (7, r) a0) (h1 : hI σ 448 r 0 = nI r) (hr : r < 31) (hs : s < 2 ^ 31) : MJ L9 w9 yX7_isIn cX7_isIn 2 (some .boolean) ({ frames := 1, cells := 0, slots := 0, locals := 20 } : Room) [.ref a0, .int (nI s)] σ (fun a9 σ' => a9 = some (.int (bI (s.testBit r))) ∧ σ' = σ) := by
  refine MJ.of (by decide +kernel) (Nat.le_of_ble_eq_true rfl) (fun X hX1 hX2 C Q hinit => ?_)
  subst hX1; subst hX2
  show J X 0 0 σ [(0, .ref a0), (1, .int (nI s))] [] 0
  have l1 : s &&& 2 ^ r ≤ s := Nat.and_le_left
  refine j_iload_n (pc := 0) C dX7_isIn_0 rfl 1 rfl ?_
  refine j_aload_n (pc := 1) C dX7_isIn_1 rfl 0 rfl ?_
  refine j_callV (pc := 2) C [] [.int (nI s)] (rm0 := ({ frames := 1, cells := 0, slots := 0, locals := 20 } : Room)) (k' := 0) (n' := 0) Q.1 (c_X7_bit (xl X) (xw X) ha0 h1 hr) mp_X7_bit wm_721 ha0 rfl rfl (Nat.le_of_ble_eq_true rfl) rfl rfl (Nat.le_of_ble_eq_true rfl) dX7_isIn_2 ⟨by decide, by decide⟩ ⟨Nat.le_of_ble_eq_true rfl, Nat.le_of_ble_eq_true rfl⟩ rfl rfl (det1 ?_)
  refine j_iand (pc := 5) C dX7_isIn_5 ?_
  refine j_topi (nI (s &&& (2 ^ r))) (nx_and s (2 ^ r)) ?_
  refine jn_if_eq (pc := 6) C 13 (a := s &&& (2 ^ r)) (by omega) dX7_isIn_6 (by decide) (fun c1 => ?_) (fun c1 => ?_)
  · refine j_iconst (pc := 13) C (nI 0) dX7_isIn_13 (by decide) ?_
    refine j_topi (bI (s.testBit r)) (by rw [and_bit.mp c1]; rfl) ?_
    exact j_zreturn (pc := 14) C Q dX7_isIn_14 (bI_nar _) (Nat.le_of_ble_eq_true rfl) (Nat.le_of_ble_eq_true rfl) (⟨rfl, rfl⟩)
  · have c3 : s.testBit r = true := by cases e : s.testBit r with
      | false => exact absurd (and_bit.mpr e) c1
      | true => rfl
    refine j_iconst (pc := 9) C (nI 1) dX7_isIn_9 (by decide) ?_
    refine j_goto (pc := 10) C 14 dX7_isIn_10 (by decide) ?_
    refine j_topi (bI (s.testBit r)) (by rw [c3]; rfl) ?_
    exact j_zreturn (pc := 14) C Q dX7_isIn_14 (bI_nar _) (Nat.le_of_ble_eq_true rfl) (Nat.le_of_ble_eq_true rfl) (⟨rfl, rfl⟩)
set_option maxHeartbeats 4000000 in
set_option maxRecDepth 100000 in
theorem c_X7_meets (L9 : Launch) (w9 : Wd) {σ : HS} {r a0 : Nat} (ha0 : At σ (7, r) a0) {i j k : Nat} (hl : hR σ 449 r 0 = some (3, i)) (hl1 : hR σ 451 r 0 = some (3, j)) (hl2 : hR σ 452 r 0 = some (3, k)) (v : hV σ (3, i) = true) (v1 : hV σ (3, j) = true) (v2 : hV σ (3, k) = true) {p q s : Nat} (hp : p < 32) (hq : q < 32) (hs : s < 32) : MJ L9 w9 yX7_meets cX7_meets 4 (some .boolean) ({ frames := 0, cells := 0, slots := 0, locals := 0 } : Room) [.ref a0, .int (nI p), .int (nI q), .int (nI s)] σ (fun a9 σ' => a9 = some (.int (bI (bt (hI σ 194 i 0) q && bt (hI σ 194 j 0) p && bt (hI σ 194 k 0) s))) ∧ σ' = σ) := by
  refine MJ.of (by decide +kernel) (Nat.le_of_ble_eq_true rfl) (fun X hX1 hX2 C Q hinit => ?_)
  subst hX1; subst hX2
  show J X 0 0 σ [(0, .ref a0), (1, .int (nI p)), (2, .int (nI q)), (3, .int (nI s))] [] 0
  refine j_aload_n (pc := 0) C dX7_meets_0 rfl 0 rfl ?_
  refine j_getA (pc := 1) C fp_X7_13 ha0 rfl (f := 449) rfl (3, i) (hG σ (3, i)) hl (⟨v, rfl⟩ : At _ (3, i) _) dX7_meets_1 ?_
  refine j_getI (pc := 4) C fp_X7_30 (⟨v, rfl⟩ : At _ (3, i) _) rfl (f := 194) rfl dX7_meets_4 ?_
  refine j_iload_n (pc := 7) C dX7_meets_7 rfl 2 rfl ?_
  refine j_iushr (pc := 8) C dX7_meets_8 ?_
  refine j_aload_n (pc := 9) C dX7_meets_9 rfl 0 rfl ?_
  refine j_getA (pc := 10) C fp_X7_20 ha0 rfl (f := 451) rfl (3, j) (hG σ (3, j)) hl1 (⟨v1, rfl⟩ : At _ (3, j) _) dX7_meets_10 ?_
  refine j_getI (pc := 13) C fp_X7_30 (⟨v1, rfl⟩ : At _ (3, j) _) rfl (f := 194) rfl dX7_meets_13 ?_
  refine j_iload_n (pc := 16) C dX7_meets_16 rfl 1 rfl ?_
  refine j_iushr (pc := 17) C dX7_meets_17 ?_
  refine j_iand (pc := 18) C dX7_meets_18 ?_
  refine j_aload_n (pc := 19) C dX7_meets_19 rfl 0 rfl ?_
  refine j_getA (pc := 20) C fp_X7_23 ha0 rfl (f := 452) rfl (3, k) (hG σ (3, k)) hl2 (⟨v2, rfl⟩ : At _ (3, k) _) dX7_meets_20 ?_
  refine j_getI (pc := 23) C fp_X7_30 (⟨v2, rfl⟩ : At _ (3, k) _) rfl (f := 194) rfl dX7_meets_23 ?_
  refine j_iload_n (pc := 26) C dX7_meets_26 rfl 3 rfl ?_
  refine j_iushr (pc := 27) C dX7_meets_27 ?_
  refine j_iand (pc := 28) C dX7_meets_28 ?_
  refine j_iconst (pc := 29) C (nI 1) dX7_meets_29 (by decide) ?_
  refine j_iand (pc := 30) C dX7_meets_30 ?_
  refine j_topi (nI ((bt (hI σ 194 i 0) q && bt (hI σ 194 j 0) p && bt (hI σ 194 k 0) s).toNat)) (shr3 hq hp hs) ?_
  refine jn_if_eq (pc := 31) C 38 (a := (bt (hI σ 194 i 0) q && bt (hI σ 194 j 0) p && bt (hI σ 194 k 0) s).toNat) (by first | exact bool_lt _ | omega) dX7_meets_31 (by decide) (fun c1 => ?_) (fun c1 => ?_)
  · refine j_iconst (pc := 38) C (nI 0) dX7_meets_38 (by decide) ?_
    refine j_topi (bI (bt (hI σ 194 i 0) q && bt (hI σ 194 j 0) p && bt (hI σ 194 k 0) s)) (by rw [bool0.mp c1]; rfl) ?_
    exact j_zreturn (pc := 39) C Q dX7_meets_39 (bI_nar _) (Nat.le_of_ble_eq_true rfl) (Nat.le_of_ble_eq_true rfl) (⟨rfl, rfl⟩)
  · have c3 : (bt (hI σ 194 i 0) q && bt (hI σ 194 j 0) p && bt (hI σ 194 k 0) s) = true := by cases e : (bt (hI σ 194 i 0) q && bt (hI σ 194 j 0) p && bt (hI σ 194 k 0) s) with
      | false => rw [e] at c1; exact absurd rfl c1
      | true => rfl
    refine j_iconst (pc := 34) C (nI 1) dX7_meets_34 (by decide) ?_
    refine j_goto (pc := 35) C 39 dX7_meets_35 (by decide) ?_
    refine j_topi (bI (bt (hI σ 194 i 0) q && bt (hI σ 194 j 0) p && bt (hI σ 194 k 0) s)) (by rw [c3]; rfl) ?_
    exact j_zreturn (pc := 39) C Q dX7_meets_39 (bI_nar _) (Nat.le_of_ble_eq_true rfl) (Nat.le_of_ble_eq_true rfl) (⟨rfl, rfl⟩)
set_option maxHeartbeats 4000000 in
set_option maxRecDepth 100000 in
theorem c_X3_init (L9 : Launch) (w9 : Wd) {σ : HS} {l a0 : Nat} (ha0 : At σ (4, l) a0) (x : Int32) (y : Int64) (hv : hV σ (1, l) = false) (hv2 : hV σ (12, l) = false) : MJ L9 w9 yX3_init cX3_init 4 none ({ frames := 2, cells := 2, slots := 10, locals := 32 } : Room) [.ref a0, .int x, .long y] σ (fun a9 σ' => a9 = none ∧ CR9 σ' l (fun _ => none) ∧ hI σ' 256 l 0 = x ∧ hL σ' 257 l 0 = y ∧ hI σ' 258 l 0 = hI σ 258 l 0 ∧ hR σ' 259 l 0 = some (1, l) ∧ Fr (fun t => (t.1 = 4 ∧ t.2 = l) ∨ tgC l t) σ σ') := by
  refine MJ.of (by decide +kernel) (Nat.le_of_ble_eq_true rfl) (fun X hX1 hX2 C Q hinit => ?_)
  subst hX1; subst hX2
  show J X 0 0 σ [(0, .ref a0), (1, .int x), (2, .long y)] [] 0
  refine j_aload_n (pc := 0) C dX3_init_0 rfl 0 rfl ?_
  refine j_objInit (pc := 1) C (rm0 := ({ frames := 2, cells := 2, slots := 10, locals := 32 } : Room)) Q.1 wm_605 wm_87 wm_88 rfl dX3_init_1 ⟨by decide, by decide⟩ ?_
  refine j_aload_n (pc := 4) C dX3_init_4 rfl 0 rfl ?_
  refine j_new (pc := 5) C (k' := 1) (n' := 2) (rm0 := ({ frames := 2, cells := 2, slots := 10, locals := 32 } : Room)) (1, l) Q.1 np_X3_7 hv dX3_init_5 ⟨by decide, by decide⟩ rfl rfl (fun q => ?_)
  show J X 1 2 (sNew σ (1, l) q 0) [(0, .ref a0), (1, .int x), (2, .long y)] [.ref q, .ref a0] 8
  have hF0 : Fr (fun t => (t.1 = 4 ∧ t.2 = l) ∨ tgC l t) σ (sNew σ (1, l) q 0) := Fr.rf.new hv (Or.inr ⟨Or.inl rfl, rfl⟩)
  refine j_dup (pc := 8) C dX3_init_8 rfl ?_
  refine j_callIN (pc := 9) C [] [.ref q, .ref a0] (host := "Fieldgrammar") (rm0 := ({ frames := 2, cells := 2, slots := 10, locals := 32 } : Room)) (k' := 2) (n' := 10) Q.1 (c_X0_init (xl X) (xw X) (σ := sNew σ (1, l) q 0) At.new (new_I (t := (1, l)) (f := 65) rfl) ((new_V (fun z => absurd (congrArg Prod.fst z) (show ¬ (12 : Nat) = 1 by decide))).trans hv2)) mp_X0_init (by decide +kernel) rfl rfl (Nat.le_of_ble_eq_true rfl) dX3_init_9 ⟨by decide, by decide⟩ ⟨Nat.le_of_ble_eq_true rfl, Nat.le_of_ble_eq_true rfl⟩ rfl rfl (fun v9 σ1 hp9 => ?_)
  obtain ⟨rfl, hC, hF1⟩ := hp9
  show J X 2 10 σ1 [(0, .ref a0), (1, .int x), (2, .long y)] [.ref q, .ref a0] 12
  have hF2 : Fr (fun t => (t.1 = 4 ∧ t.2 = l) ∨ tgC l t) σ σ1 := hF0.tr (hF1.wide (fun t z => Or.inr z))
  show J X 2 10 σ1 [(0, .ref a0), (1, .int x), (2, .long y)] [.ref q, .ref a0] 12
  refine j_putR (pc := 12) C (1, l) (hF1.at (At.new (σ := σ) (t := (1, l)) (q := q) (n := 0))).2 (Or.inl (hF1.at (At.new (σ := σ) (t := (1, l)) (q := q) (n := 0))).1) fp_X3_10 (hF2.at ha0) rfl rfl (Or.inr ⟨rfl, hinit rfl⟩) rfl (by decide) (f := 259) rfl dX3_init_12 ?_
  refine j_aload_n (pc := 15) C dX3_init_15 rfl 0 rfl ?_
  refine j_iload_n (pc := 16) C dX3_init_16 rfl 1 rfl ?_
  refine j_putI (pc := 17) C fp_X3_16 (hF2.at ha0) rfl rfl (Or.inr ⟨rfl, hinit rfl⟩) rfl (by decide) (f := 256) rfl dX3_init_17 ?_
  refine j_aload_n (pc := 20) C dX3_init_20 rfl 0 rfl ?_
  refine j_lload_n (pc := 21) C dX3_init_21 rfl 2 rfl ?_
  refine j_putL (pc := 22) C fp_X3_20 (hF2.at ha0) rfl rfl (Or.inl rfl) rfl (by decide) (f := 257) rfl dX3_init_22 ?_
  have hn : ∀ f, f / 64 = 4 → ¬ (f / 64, l) = (1, l) := fun f hf z => absurd (congrArg Prod.fst z) (by show ¬ f / 64 = 1; omega)
  have e8 : hI σ1 258 l 0 = hI σ 258 l 0 := (hF1.rI (f := 258) (by simp only [tgC] <;> omega)).trans (new_Ine (f := 258) (i := l) (t := (1, l)) (fun z => absurd z.1 (show ¬ 258 / 64 = 1 by decide)))
  have hF3 : Fr (fun t => (t.1 = 4 ∧ t.2 = l) ∨ tgC l t) σ (sL (sI (sR σ1 259 l 0 (some (1, l))) 256 l 0 x) 257 l 0 y) := ((hF2.sR (Or.inl ⟨rfl, rfl⟩)).sI (Or.inl ⟨rfl, rfl⟩)).sL (Or.inl ⟨rfl, rfl⟩)
  have hF4 : Fr (fun t => t.1 = 4 ∧ t.2 = l) σ1 (sL (sI (sR σ1 259 l 0 (some (1, l))) 256 l 0 x) 257 l 0 y) := ((Fr.rf.sR ⟨rfl, rfl⟩).sI ⟨rfl, rfl⟩).sL ⟨rfl, rfl⟩
  exact j_vreturn (pc := 25) C Q dX3_init_25 (Nat.le_of_ble_eq_true rfl) (Nat.le_of_ble_eq_true rfl) (⟨rfl, hC.fr hF4 (fun t z => by simp only [tgC] at z ⊢; omega), sI_eq, sL_eq, (show up3 (hI σ1) 256 l 0 x 258 l 0 = hI σ 258 l 0 from (up3_ne (fun z => absurd z.1 (by decide))).trans e8), sR_eq, hF3⟩)
set_option maxHeartbeats 4000000 in
set_option maxRecDepth 100000 in
theorem c_X8_init (L9 : Launch) (w9 : Wd) {σ : HS} {u a0 : Nat} (ha0 : At σ (8, u) a0) {t : Tg} {b : Nat} (hb : At σ t b) (x y : Int32) (z : Int64) : MJ L9 w9 yX8_init cX8_init 6 none ({ frames := 1, cells := 0, slots := 0, locals := 12 } : Room) [.ref a0, .ref b, .int x, .int y, .long z] σ (fun a9 σ' => a9 = none ∧ σ' = sL (sI (sI (sR σ 512 u 0 (some t)) 513 u 0 x) 514 u 0 y) 515 u 0 z) := by
  refine MJ.of (by decide +kernel) (Nat.le_of_ble_eq_true rfl) (fun X hX1 hX2 C Q hinit => ?_)
  subst hX1; subst hX2
  show J X 0 0 σ [(0, .ref a0), (1, .ref b), (2, .int x), (3, .int y), (4, .long z)] [] 0
  refine j_aload_n (pc := 0) C dX8_init_0 rfl 0 rfl ?_
  refine j_objInit (pc := 1) C (rm0 := ({ frames := 1, cells := 0, slots := 0, locals := 12 } : Room)) Q.1 wm_755 wm_87 wm_88 rfl dX8_init_1 ⟨by decide, by decide⟩ ?_
  refine j_aload_n (pc := 4) C dX8_init_4 rfl 0 rfl ?_
  refine j_aload_n (pc := 5) C dX8_init_5 rfl 1 rfl ?_
  refine j_putR (pc := 6) C t hb.2 (Or.inl hb.1) fp_X8_7 ha0 rfl rfl (Or.inl rfl) rfl (by decide) (f := 512) rfl dX8_init_6 ?_
  refine j_aload_n (pc := 9) C dX8_init_9 rfl 0 rfl ?_
  refine j_iload_n (pc := 10) C dX8_init_10 rfl 2 rfl ?_
  refine j_putI (pc := 11) C fp_X8_13 ha0 rfl rfl (Or.inr ⟨rfl, hinit rfl⟩) rfl (by decide) (f := 513) rfl dX8_init_11 ?_
  refine j_aload_n (pc := 14) C dX8_init_14 rfl 0 rfl ?_
  refine j_iload_n (pc := 15) C dX8_init_15 rfl 3 rfl ?_
  refine j_putI (pc := 16) C fp_X8_17 ha0 rfl rfl (Or.inr ⟨rfl, hinit rfl⟩) rfl (by decide) (f := 514) rfl dX8_init_16 ?_
  refine j_aload_n (pc := 19) C dX8_init_19 rfl 0 rfl ?_
  refine j_lload (pc := 20) C dX8_init_20 4 rfl ?_
  refine j_putL (pc := 22) C fp_X8_20 ha0 rfl rfl (Or.inl rfl) rfl (by decide) (f := 515) rfl dX8_init_22 ?_
  exact j_vreturn (pc := 25) C Q dX8_init_25 (Nat.le_of_ble_eq_true rfl) (Nat.le_of_ble_eq_true rfl) (⟨rfl, rfl⟩)
set_option maxHeartbeats 4000000 in
set_option maxRecDepth 100000 in
theorem c_X8_isOfException (L9 : Launch) (w9 : Wd) {σ : HS} {u a0 l c : Nat} (ha0 : At σ (8, u) a0) (h1 : hR σ 512 u 0 = some (4, l)) (v1 : hV σ (4, l) = true) (h2 : hR σ 259 l 0 = some (1, l)) {f : Nat → Option (List Nat)} (h : CR9 σ l f) (h3 : hI σ 513 u 0 = nI c) (hc : c < 8) : MJ L9 w9 yX8_isOfException cX8_isOfException 1 (some .boolean) ({ frames := 2, cells := 0, slots := 0, locals := 41 } : Room) [.ref a0] σ (fun a9 σ' => a9 = some (.int (bI (f c).isSome)) ∧ σ' = σ) := by
  refine MJ.of (by decide +kernel) (Nat.le_of_ble_eq_true rfl) (fun X hX1 hX2 C Q hinit => ?_)
  subst hX1; subst hX2
  show J X 0 0 σ [(0, .ref a0)] [] 0
  refine j_aload_n (pc := 0) C dX8_isOfException_0 rfl 0 rfl ?_
  refine j_getA (pc := 1) C fp_X8_7 ha0 rfl (f := 512) rfl (4, l) (hG σ (4, l)) h1 (⟨v1, rfl⟩ : At _ (4, l) _) dX8_isOfException_1 ?_
  refine j_getA (pc := 4) C fp_X8_24 (⟨v1, rfl⟩ : At _ (4, l) _) rfl (f := 259) rfl (1, l) (hG σ (1, l)) h2 (⟨h.1, rfl⟩ : At _ (1, l) _) dX8_isOfException_4 ?_
  refine j_aload_n (pc := 7) C dX8_isOfException_7 rfl 0 rfl ?_
  refine j_getI (pc := 8) C fp_X8_13 ha0 rfl (f := 513) rfl dX8_isOfException_8 ?_
  refine j_topi (nI c) h3 ?_
  refine j_callV (pc := 11) C [.int (nI c)] [] (rm0 := ({ frames := 2, cells := 0, slots := 0, locals := 41 } : Room)) (k' := 0) (n' := 0) Q.1 (c_X0_has (xl X) (xw X) h hc) mp_X0_has wm_271 (⟨h.1, rfl⟩ : At _ (1, l) _) rfl rfl (Nat.le_of_ble_eq_true rfl) rfl rfl (Nat.le_of_ble_eq_true rfl) dX8_isOfException_11 ⟨by decide, by decide⟩ ⟨Nat.le_of_ble_eq_true rfl, Nat.le_of_ble_eq_true rfl⟩ rfl rfl (det1 ?_)
  exact j_zreturn (pc := 14) C Q dX8_isOfException_14 (bI_nar _) (Nat.le_of_ble_eq_true rfl) (Nat.le_of_ble_eq_true rfl) (⟨rfl, rfl⟩)
set_option maxHeartbeats 4000000 in
set_option maxRecDepth 100000 in
theorem c_X1_init (L9 : Launch) (w9 : Wd) {σ : HS} {s a0 : Nat} (ha0 : At σ (2, s) a0) {t t' : Tg} {b b' : Nat} (hb : At σ t b) (hb' : At σ t' b') (d : Bool) (hv : hV σ (1, 1000 + s) = false) (hv2 : hV σ (12, 1000 + s) = false) : MJ L9 w9 yX1_init cX1_init 4 none ({ frames := 2, cells := 2, slots := 10, locals := 32 } : Room) [.ref a0, .ref b, .ref b', .int (bI d)] σ (fun a9 σ' => a9 = none ∧ CR9 σ' (1000 + s) (fun _ => none) ∧ hR σ' 128 s 0 = some t ∧ hR σ' 129 s 0 = some t' ∧ hI σ' 130 s 0 = bI d ∧ hR σ' 131 s 0 = some (1, 1000 + s) ∧ hL σ' 132 s 0 = hL σ 132 s 0 ∧ Fr (fun t => (t.1 = 2 ∧ t.2 = s) ∨ tgC (1000 + s) t) σ σ') := by
  refine MJ.of (by decide +kernel) (Nat.le_of_ble_eq_true rfl) (fun X hX1 hX2 C Q hinit => ?_)
  subst hX1; subst hX2
  show J X 0 0 σ [(0, .ref a0), (1, .ref b), (2, .ref b'), (3, .int (bI d))] [] 0
  refine j_aload_n (pc := 0) C dX1_init_0 rfl 0 rfl ?_
  refine j_objInit (pc := 1) C (rm0 := ({ frames := 2, cells := 2, slots := 10, locals := 32 } : Room)) Q.1 wm_834 wm_87 wm_88 rfl dX1_init_1 ⟨by decide, by decide⟩ ?_
  refine j_aload_n (pc := 4) C dX1_init_4 rfl 0 rfl ?_
  refine j_new (pc := 5) C (k' := 1) (n' := 2) (rm0 := ({ frames := 2, cells := 2, slots := 10, locals := 32 } : Room)) (1, 1000 + s) Q.1 np_X1_7 hv dX1_init_5 ⟨by decide, by decide⟩ rfl rfl (fun q => ?_)
  show J X 1 2 (sNew σ (1, 1000 + s) q 0) [(0, .ref a0), (1, .ref b), (2, .ref b'), (3, .int (bI d))] [.ref q, .ref a0] 8
  have hF0 : Fr (fun t => (t.1 = 2 ∧ t.2 = s) ∨ tgC (1000 + s) t) σ (sNew σ (1, 1000 + s) q 0) := Fr.rf.new hv (Or.inr ⟨Or.inl rfl, rfl⟩)
  refine j_dup (pc := 8) C dX1_init_8 rfl ?_
  refine j_callIN (pc := 9) C [] [.ref q, .ref a0] (host := "Fieldgrammar") (rm0 := ({ frames := 2, cells := 2, slots := 10, locals := 32 } : Room)) (k' := 2) (n' := 10) Q.1 (c_X0_init (xl X) (xw X) (r := 1000 + s) (σ := sNew σ (1, 1000 + s) q 0) At.new (new_I (t := (1, 1000 + s)) (f := 65) rfl) ((new_V (fun z => absurd (congrArg Prod.fst z) (show ¬ (12 : Nat) = 1 by decide))).trans hv2)) mp_X0_init (by decide +kernel) rfl rfl (Nat.le_of_ble_eq_true rfl) dX1_init_9 ⟨by decide, by decide⟩ ⟨Nat.le_of_ble_eq_true rfl, Nat.le_of_ble_eq_true rfl⟩ rfl rfl (fun v9 σ1 hp9 => ?_)
  obtain ⟨rfl, hC, hF1⟩ := hp9
  show J X 2 10 σ1 [(0, .ref a0), (1, .ref b), (2, .ref b'), (3, .int (bI d))] [.ref q, .ref a0] 12
  have hF2 : Fr (fun t => (t.1 = 2 ∧ t.2 = s) ∨ tgC (1000 + s) t) σ σ1 := hF0.tr (hF1.wide (fun t z => Or.inr z))
  show J X 2 10 σ1 [(0, .ref a0), (1, .ref b), (2, .ref b'), (3, .int (bI d))] [.ref q, .ref a0] 12
  refine j_putR (pc := 12) C (1, 1000 + s) (hF1.at (At.new (σ := σ) (t := (1, 1000 + s)) (q := q) (n := 0))).2 (Or.inl (hF1.at (At.new (σ := σ) (t := (1, 1000 + s)) (q := q) (n := 0))).1) fp_X1_10 (hF2.at ha0) rfl rfl (Or.inr ⟨rfl, hinit rfl⟩) rfl (by decide) (f := 131) rfl dX1_init_12 ?_
  refine j_aload_n (pc := 15) C dX1_init_15 rfl 0 rfl ?_
  refine j_aload_n (pc := 16) C dX1_init_16 rfl 1 rfl ?_
  refine j_putR (pc := 17) C t (hF2.at hb).2 (Or.inl (hF2.at hb).1) fp_X1_16 (hF2.at ha0) rfl rfl (Or.inr ⟨rfl, hinit rfl⟩) rfl (by decide) (f := 128) rfl dX1_init_17 ?_
  refine j_aload_n (pc := 20) C dX1_init_20 rfl 0 rfl ?_
  refine j_aload_n (pc := 21) C dX1_init_21 rfl 2 rfl ?_
  refine j_putR (pc := 22) C t' (hF2.at hb').2 (Or.inl (hF2.at hb').1) fp_X1_20 (hF2.at ha0) rfl rfl (Or.inr ⟨rfl, hinit rfl⟩) rfl (by decide) (f := 129) rfl dX1_init_22 ?_
  refine j_aload_n (pc := 25) C dX1_init_25 rfl 0 rfl ?_
  refine j_iload_n (pc := 26) C dX1_init_26 rfl 3 rfl ?_
  refine j_putI (pc := 27) C fp_X1_23 (hF2.at ha0) (bI_nar _) (bI_fits _) (Or.inr ⟨rfl, hinit rfl⟩) rfl (by decide) (f := 130) rfl dX1_init_27 ?_
  have hF3 : Fr (fun t => (t.1 = 2 ∧ t.2 = s) ∨ tgC (1000 + s) t) σ (sI (sR (sR (sR σ1 131 s 0 (some (1, 1000 + s))) 128 s 0 (some t)) 129 s 0 (some t')) 130 s 0 (bI d)) := (((hF2.sR (Or.inl ⟨rfl, rfl⟩)).sR (Or.inl ⟨rfl, rfl⟩)).sR (Or.inl ⟨rfl, rfl⟩)).sI (Or.inl ⟨rfl, rfl⟩)
  have hF4 : Fr (fun t => t.1 = 2 ∧ t.2 = s) σ1 (sI (sR (sR (sR σ1 131 s 0 (some (1, 1000 + s))) 128 s 0 (some t)) 129 s 0 (some t')) 130 s 0 (bI d)) := (((Fr.rf.sR ⟨rfl, rfl⟩).sR ⟨rfl, rfl⟩).sR ⟨rfl, rfl⟩).sI ⟨rfl, rfl⟩
  exact j_vreturn (pc := 30) C Q dX1_init_30 (Nat.le_of_ble_eq_true rfl) (Nat.le_of_ble_eq_true rfl) (⟨rfl, hC.fr hF4 (fun t z => by simp only [tgC] at z ⊢; omega), (show up3 (up3 (up3 (hR σ1) 131 s 0 (some (1, 1000 + s))) 128 s 0 (some t)) 129 s 0 (some t') 128 s 0 = some t from (up3_ne (fun z => absurd z.1 (by decide))).trans up3_eq), up3_eq, sI_eq, (show up3 (up3 (up3 (hR σ1) 131 s 0 (some (1, 1000 + s))) 128 s 0 (some t)) 129 s 0 (some t') 131 s 0 = some (1, 1000 + s) from (up3_ne (fun z => absurd z.1 (by decide))).trans ((up3_ne (fun z => absurd z.1 (by decide))).trans up3_eq)), (hF1.rL (f := 132) (by simp only [tgC]; omega)).trans (new_Lne (f := 132) (i := s) (t := (1, 1000 + s)) (fun z => absurd z.1 (show ¬ 132 / 64 = 1 by decide))), hF3⟩)
set_option maxHeartbeats 4000000 in
set_option maxRecDepth 100000 in
theorem c_X1_staying (L9 : Launch) (w9 : Wd) {σ : HS} {s a0 : Nat} (ha0 : At σ (2, s) a0) {t t' : Tg} {d : Bool} (h1 : hR σ 128 s 0 = some t) (v1 : hV σ t = true) (h2 : hR σ 129 s 0 = some t') (v2 : hV σ t' = true) (h3 : hI σ 130 s 0 = bI d) : MJ L9 w9 yX1_staying cX1_staying 1 (some (.object "Fieldgrammar$Lexeme")) ({ frames := 0, cells := 0, slots := 0, locals := 0 } : Room) [.ref a0] σ (fun a9 σ' => a9 = some ((.ref (hG σ (if d = true then t else t')))) ∧ σ' = σ) := by
  refine MJ.of (by decide +kernel) (Nat.le_of_ble_eq_true rfl) (fun X hX1 hX2 C Q hinit => ?_)
  subst hX1; subst hX2
  show J X 0 0 σ [(0, .ref a0)] [] 0
  refine j_aload_n (pc := 0) C dX1_staying_0 rfl 0 rfl ?_
  refine j_getI (pc := 1) C fp_X1_23 ha0 rfl (f := 130) rfl dX1_staying_1 ?_
  refine j_topi (bI d) h3 ?_
  refine jb_if_eq (pc := 4) C 14 (b := d) dX1_staying_4 (by decide) (fun c1 => ?_) (fun c1 => ?_)
  · refine j_aload_n (pc := 14) C dX1_staying_14 rfl 0 rfl ?_
    refine j_getA (pc := 15) C fp_X1_20 ha0 rfl (f := 129) rfl t' (hG σ t') h2 (⟨v2, rfl⟩ : At _ t' _) dX1_staying_15 ?_
    exact j_areturn (pc := 18) C Q (Or.inl ⟨_, rfl⟩) (Or.inr ⟨_, rfl⟩) dX1_staying_18 (Nat.le_of_ble_eq_true rfl) (Nat.le_of_ble_eq_true rfl) (⟨by rw [if_neg (by rw [c1]; decide)], rfl⟩)
  · refine j_aload_n (pc := 7) C dX1_staying_7 rfl 0 rfl ?_
    refine j_getA (pc := 8) C fp_X1_16 ha0 rfl (f := 128) rfl t (hG σ t) h1 (⟨v1, rfl⟩ : At _ t _) dX1_staying_8 ?_
    refine j_goto (pc := 11) C 18 dX1_staying_11 (by decide) ?_
    exact j_areturn (pc := 18) C Q (Or.inl ⟨_, rfl⟩) (Or.inr ⟨_, rfl⟩) dX1_staying_18 (Nat.le_of_ble_eq_true rfl) (Nat.le_of_ble_eq_true rfl) (⟨by rw [if_pos c1], rfl⟩)
