set_option maxHeartbeats 4000000 in
set_option maxRecDepth 100000 in
theorem c_X10_undo (L9 : Launch) (w9 : Wd) {σ : HS} {S : SP} {x9 : Nat → Nat} {k9 : Int32} (hs : RS S x9 k9 σ) (hw : WF S) : MJ L9 w9 yX10_undo cX10_undo 5 (some .int) ({ frames := 1, cells := 0, slots := 0, locals := 21 } : Room) [.ref (x9 0)] σ (fun a9 σ' => a9 = some (.int (s_undo S).2.1) ∧ RS (s_undo S).2.2 x9 (nI (s_undo S).1) σ' ∧ ME σ σ') := by
  refine MJ.of (by decide +kernel) (Nat.le_of_ble_eq_true rfl) (fun X hX1 hX2 C Q hinit => ?_)
  subst hX1; subst hX2
  show J X 0 0 σ [(0, .ref (x9 0))] [] 0
  have hme : ME σ σ := ME.rf
  have gL := hw.2.2.1.1
  have gW := hw.2.2.2.1.1
  have gD := hw.2.2.2.2.1
  refine j_aload_n (pc := 0) C dX10_undo_0 rfl 0 rfl ?_
  refine j_aload_n (pc := 1) C dX10_undo_1 rfl 0 rfl ?_
  refine j_getI (pc := 2) C fp_X10_193 hs.2.1.1 rfl (f := 672) rfl dX10_undo_2 ?_
  refine j_topi (nI (nD S)) (hs.rdI 672 0 0 (by decide) (by decide)) ?_
  refine jn_if_ne (pc := 5) C 12 (a := nD S) (by omega) dX10_undo_5 (by decide) (fun c1 => ?_) (fun c1 => ?_)
  · refine j_iconst (pc := 12) C (nI 0) dX10_undo_12 (by decide) ?_
    refine j_callV (pc := 13) C [.int (nI 0)] [] (rm0 := ({ frames := 1, cells := 0, slots := 0, locals := 21 } : Room)) (k' := 0) (n' := 0) Q.1 (c_X10_holds (xl X) (xw X) hs (nI 0)) mp_X10_holds wm_1156 hs.2.1.1 rfl rfl (by decide) rfl rfl (Nat.le_of_ble_eq_true rfl) dX10_undo_13 ⟨by decide, by decide⟩ ⟨Nat.le_of_ble_eq_true rfl, Nat.le_of_ble_eq_true rfl⟩ rfl rfl (fun v9 σ1 hp9 => ?_)
    obtain ⟨rfl, hs, hme9⟩ := hp9
    have hme := hme.tr hme9
    show J X 0 0 σ1 [(0, .ref (x9 0))] [.int (bI (decide (nI 0 = 0)))] 16
    refine j_topi (bI true) (by decide) ?_
    refine j_if_ne (pc := 16) C 21 dX10_undo_16 (by decide) (fun _ => ?_) (fun q => absurd q (by decide))
    refine j_aload_n (pc := 21) C dX10_undo_21 rfl 0 rfl ?_
    refine j_dup (pc := 22) C dX10_undo_22 rfl ?_
    refine j_getI (pc := 23) C fp_X10_193 hs.2.1.1 rfl (f := 672) rfl dX10_undo_23 ?_
    refine j_topi (nI (nD S)) (hs.rdI 672 0 0 (by decide) (by decide)) ?_
    refine j_iconst (pc := 26) C (nI 1) dX10_undo_26 (by decide) ?_
    refine j_isub (pc := 27) C dX10_undo_27 ?_
    refine j_topi (nI (nD S - 1)) (pk_sub (by omega)) ?_
    obtain ⟨u1, u2, u3, u4, u5⟩ := hw.2.2.2.2.2.1 (nD S - 1) (by omega)
    refine j_putI (pc := 28) C fp_X10_193 hs.2.1.1 rfl rfl (Or.inl rfl) rfl (by decide) (f := 672) rfl dX10_undo_28 ?_
    have hs := hs.wI 672 0 0 (nD S - 1) (by decide) (by decide)
    have hme := hme.sI (f := 672) (i := 0) (j := 0) (v := (nI (nD S - 1))) rfl
    generalize sI σ1 672 0 0 (nI (nD S - 1)) = σ2 at hs hme ⊢
    refine j_aload_n (pc := 31) C dX10_undo_31 rfl 0 rfl ?_
    refine j_getA (pc := 32) C fp_X10_69 hs.2.1.1 rfl (f := 668) rfl (11, 38) (x9 28) ((hs.2.1.2 28 (by decide) (by decide)).1) ((hs.2.1.2 28 (by decide) (by decide)).2.1) dX10_undo_32 ?_
    refine j_aload_n (pc := 35) C dX10_undo_35 rfl 0 rfl ?_
    refine j_getI (pc := 36) C fp_X10_193 hs.2.1.1 rfl (f := 672) rfl dX10_undo_36 ?_
    refine j_topi (nI (nD S - 1)) ((hs.rdI 672 0 0 (by decide) (by decide)).trans (congrArg nI zN_eq)) ?_
    refine j_iald (pc := 39) C (p := nD S - 1) (M := 32) ((hs.2.1.2 28 (by decide) (by decide)).2.1) rfl ((hs.2.1.2 28 (by decide) (by decide)).2.2) (by omega) (by decide) dX10_undo_39 ?_
    refine j_topi (nI (d1 S (nD S - 1))) (hs.rdI 704 38 (nD S - 1) (by decide) (by decide)) ?_
    refine j_istore_n (pc := 40) C [(1, .int (nI (d1 S (nD S - 1)))), (0, .ref (x9 0))] dX10_undo_40 rfl (by decide) rfl ?_
    refine j_aload_n (pc := 41) C dX10_undo_41 rfl 1 rfl ?_
    refine j_getA (pc := 42) C fp_X10_72 hs.2.1.1 rfl (f := 669) rfl (11, 39) (x9 29) ((hs.2.1.2 29 (by decide) (by decide)).1) ((hs.2.1.2 29 (by decide) (by decide)).2.1) dX10_undo_42 ?_
    refine j_aload_n (pc := 45) C dX10_undo_45 rfl 1 rfl ?_
    refine j_getI (pc := 46) C fp_X10_193 hs.2.1.1 rfl (f := 672) rfl dX10_undo_46 ?_
    refine j_topi (nI (nD S - 1)) ((hs.rdI 672 0 0 (by decide) (by decide)).trans (congrArg nI zN_eq)) ?_
    refine j_iald (pc := 49) C (p := nD S - 1) (M := 32) ((hs.2.1.2 29 (by decide) (by decide)).2.1) rfl ((hs.2.1.2 29 (by decide) (by decide)).2.2) (by omega) (by decide) dX10_undo_49 ?_
    refine j_topi (nI (d2 S (nD S - 1))) (hs.rdI 704 39 (nD S - 1) (by decide) (by decide)) ?_
    refine j_istore_n (pc := 50) C [(2, .int (nI (d2 S (nD S - 1)))), (1, .int (nI (d1 S (nD S - 1)))), (0, .ref (x9 0))] dX10_undo_50 rfl (by decide) rfl ?_
    refine j_iconst (pc := 51) C (nI 0) dX10_undo_51 (by decide) ?_
    refine j_istore_n (pc := 52) C [(3, .int (nI 0)), (2, .int (nI (d2 S (nD S - 1)))), (1, .int (nI (d1 S (nD S - 1)))), (0, .ref (x9 0))] dX10_undo_52 rfl (by decide) rfl ?_
    have loop : ∀ (f : Nat) (w : Nat) (σ9 : HS), (w ≤ nW S) → (nW S < w + f) → RS (backW (zN S 672 0 0 (nD S - 1)) (nD S - 1) w) x9 (nI 0) σ9 → ME σ σ9 → J X 0 0 σ9 [(3, .int (nI w)), (2, .int (nI (d2 S (nD S - 1)))), (1, .int (nI (d1 S (nD S - 1)))), (0, .ref (x9 0))] [] 53 := by
      clear hs hme
      intro f
      induction f with
      | zero => intro w σ9 h1 h2; exact absurd h2 (by omega)
      | succ f ih =>
        intro w σ9 h1 h2 hs hme
        refine j_iload_n (pc := 53) C dX10_undo_53 rfl 0 rfl ?_
        refine j_aload_n (pc := 54) C dX10_undo_54 rfl 3 rfl ?_
        refine j_getI (pc := 55) C fp_X10_187 hs.2.1.1 rfl (f := 666) rfl dX10_undo_55 ?_
        refine j_topi (nI (nW S)) ((hs.rdI 666 0 0 (by decide) (by decide)).trans (congrArg (nI) (backW_N (zN S 672 0 0 (nD S - 1)) (nD S - 1) (by decide) 0 w))) ?_
        refine jn_icmp_ge (pc := 58) C 145 (a := w) (b := nW S) (by omega) (by omega) dX10_undo_58 (by decide) (fun b1 => ?_) (fun b1 => ?_)
        · have e : w = nW S := Nat.le_antisymm h1 b1
          rw [e] at hs
          refine j_iconst (pc := 145) C (nI 0) dX10_undo_145 (by decide) ?_
          refine j_istore_n (pc := 146) C [(3, .int (nI 0)), (2, .int (nI (d2 S (nD S - 1)))), (1, .int (nI (d1 S (nD S - 1)))), (0, .ref (x9 0))] dX10_undo_146 rfl (by decide) rfl ?_
          have hd1 : d1 (backW (zN S 672 0 0 (nD S - 1)) (nD S - 1) (nW S)) (nD S - 1) = d1 S (nD S - 1) := backW_N (zN S 672 0 0 (nD S - 1)) (nD S - 1) (by decide) (nD S - 1) (nW S)
          have hd2 : d2 (backW (zN S 672 0 0 (nD S - 1)) (nD S - 1) (nW S)) (nD S - 1) = d2 S (nD S - 1) := backW_N (zN S 672 0 0 (nD S - 1)) (nD S - 1) (by decide) (nD S - 1) (nW S)
          have loop2 : ∀ (g : Nat) (c : Nat) (σ9 : HS), (c ≤ 8) → (8 < c + g) → RS (backX (backW (zN S 672 0 0 (nD S - 1)) (nD S - 1) (nW S)) (nD S - 1) c) x9 (nI 0) σ9 → ME σ σ9 → J X 0 0 σ9 [(3, .int (nI c)), (2, .int (nI (d2 S (nD S - 1)))), (1, .int (nI (d1 S (nD S - 1)))), (0, .ref (x9 0))] [] 147 := by
            clear hs hme
            intro g
            induction g with
            | zero => intro c σ9 g1 g2; exact absurd g2 (by omega)
            | succ g ih2 =>
              intro c σ9 g1 g2 hs hme
              refine j_iload_n (pc := 147) C dX10_undo_147 rfl 0 rfl ?_
              refine j_bipush (pc := 148) C (nI 8) dX10_undo_148 (by decide) ?_
              refine jn_icmp_ge (pc := 150) C 212 (a := c) (b := 8) (by omega) (by omega) dX10_undo_150 (by decide) (fun e1 => ?_) (fun e1 => ?_)
              · have e : c = 8 := Nat.le_antisymm g1 e1
                rw [e] at hs
                refine j_aload_n (pc := 212) C dX10_undo_212 rfl 3 rfl ?_
                refine j_getA (pc := 213) C fp_X10_26 hs.2.1.1 rfl (f := 649) rfl (13, 9) (x9 9) ((hs.2.1.2 9 (by decide) (by decide)).1) ((hs.2.1.2 9 (by decide) (by decide)).2.1) dX10_undo_213 ?_
                refine j_iload_n (pc := 216) C dX10_undo_216 rfl 2 rfl ?_
                refine j_aload_n (pc := 217) C dX10_undo_217 rfl 3 rfl ?_
                refine j_getA (pc := 218) C fp_X10_66 hs.2.1.1 rfl (f := 667) rfl (13, 27) (x9 27) ((hs.2.1.2 27 (by decide) (by decide)).1) ((hs.2.1.2 27 (by decide) (by decide)).2.1) dX10_undo_218 ?_
                refine j_aload_n (pc := 221) C dX10_undo_221 rfl 3 rfl ?_
                refine j_getI (pc := 222) C fp_X10_193 hs.2.1.1 rfl (f := 672) rfl dX10_undo_222 ?_
                refine j_topi (nI (nD S - 1)) ((((hs.rdI 672 0 0 (by decide) (by decide)).trans (congrArg (nI) (congrFun (congrFun (congrFun (backX_N (backW (zN S 672 0 0 (nD S - 1)) (nD S - 1) (nW S)) (nD S - 1) 8) 672) 0) 0))).trans (congrArg (nI) (backW_N (zN S 672 0 0 (nD S - 1)) (nD S - 1) (by decide) 0 (nW S)))).trans (congrArg (nI) (zN_eq (S := S) (f := 672) (i := 0) (j := 0) (v := (nD S - 1))))) ?_
                refine j_zald (pc := 225) C (p := nD S - 1) (M := 32) ((hs.2.1.2 27 (by decide) (by decide)).2.1) rfl ((hs.2.1.2 27 (by decide) (by decide)).2.2) (by omega) (by decide) dX10_undo_225 ?_
                refine j_topi (nI (im S (nD S - 1))) (((hs.rdI 832 27 (nD S - 1) (by decide) (by decide)).trans (congrArg (nI) (congrFun (congrFun (congrFun (backX_N (backW (zN S 672 0 0 (nD S - 1)) (nD S - 1) (nW S)) (nD S - 1) 8) 832) 27) (nD S - 1)))).trans (congrArg (nI) (backW_N (zN S 672 0 0 (nD S - 1)) (nD S - 1) (by decide) (nD S - 1) (nW S)))) ?_
                refine j_zast (pc := 226) C (p := d1 S (nD S - 1)) (M := 16) ((hs.2.1.2 9 (by decide) (by decide)).2.1) rfl ((hs.2.1.2 9 (by decide) (by decide)).2.2) (by omega) (by decide) (nI_nar (by omega)) dX10_undo_226 ?_
                have hs := hs.wI 832 9 (d1 S (nD S - 1)) (im S (nD S - 1)) (by decide) (by decide)
                have hme := hme.sI (f := 832) (i := 9) (j := (d1 S (nD S - 1))) (v := (nI (im S (nD S - 1)))) rfl
                generalize sI σ9 832 9 (d1 S (nD S - 1)) (nI (im S (nD S - 1))) = σ3 at hs hme ⊢
                refine j_aload_n (pc := 227) C dX10_undo_227 rfl 3 rfl ?_
                refine j_getI (pc := 228) C fp_X10_193 hs.2.1.1 rfl (f := 672) rfl dX10_undo_228 ?_
                refine j_topi (nI (nD S - 1)) (((((hs.rdI 672 0 0 (by decide) (by decide)).trans (congrArg (nI) (zN_ne (S := (backX (backW (zN S 672 0 0 (nD S - 1)) (nD S - 1) (nW S)) (nD S - 1) 8)) (f := 832) (i := 9) (j := (d1 S (nD S - 1))) (v := (im S (nD S - 1))) (f' := 672) (i' := 0) (j' := 0) (fun e => absurd e.1 (by decide))))).trans (congrArg (nI) (congrFun (congrFun (congrFun (backX_N (backW (zN S 672 0 0 (nD S - 1)) (nD S - 1) (nW S)) (nD S - 1) 8) 672) 0) 0))).trans (congrArg (nI) (backW_N (zN S 672 0 0 (nD S - 1)) (nD S - 1) (by decide) 0 (nW S)))).trans (congrArg (nI) (zN_eq (S := S) (f := 672) (i := 0) (j := 0) (v := (nD S - 1))))) ?_
                exact j_ireturn (pc := 231) C Q dX10_undo_231 (Nat.le_of_ble_eq_true rfl) (Nat.le_of_ble_eq_true rfl) (by rw [s_undo_go c1]; exact ⟨rfl, hs, hme⟩)
              · refine j_aload_n (pc := 153) C dX10_undo_153 rfl 3 rfl ?_
                refine j_getA (pc := 154) C fp_X10_33 hs.2.1.1 rfl (f := 652) rfl (12, 412) (x9 12) ((hs.2.1.2 12 (by decide) (by decide)).1) ((hs.2.1.2 12 (by decide) (by decide)).2.1) dX10_undo_154 ?_
                refine j_bipush (pc := 157) C (nI 8) dX10_undo_157 (by decide) ?_
                refine j_iload_n (pc := 159) C dX10_undo_159 rfl 2 rfl ?_
                refine j_imul (pc := 160) C dX10_undo_160 ?_
                refine j_topi (nI (8 * (d1 S (nD S - 1)))) (pk_mul 8 (d1 S (nD S - 1))) ?_
                refine j_iload_n (pc := 161) C dX10_undo_161 rfl 0 rfl ?_
                refine j_iadd (pc := 162) C dX10_undo_162 ?_
                refine j_topi (nI (8 * (d1 S (nD S - 1)) + c)) (nI_add (8 * (d1 S (nD S - 1))) c) ?_
                refine j_aload_n (pc := 163) C dX10_undo_163 rfl 3 rfl ?_
                refine j_getA (pc := 164) C fp_X10_78 hs.2.1.1 rfl (f := 671) rfl (12, 431) (x9 31) ((hs.2.1.2 31 (by decide) (by decide)).1) ((hs.2.1.2 31 (by decide) (by decide)).2.1) dX10_undo_164 ?_
                refine j_bipush (pc := 167) C (nI 16) dX10_undo_167 (by decide) ?_
                refine j_aload_n (pc := 169) C dX10_undo_169 rfl 3 rfl ?_
                refine j_getI (pc := 170) C fp_X10_193 hs.2.1.1 rfl (f := 672) rfl dX10_undo_170 ?_
                refine j_topi (nI (nD S - 1)) ((((hs.rdI 672 0 0 (by decide) (by decide)).trans (congrArg (nI) (congrFun (congrFun (congrFun (backX_N (backW (zN S 672 0 0 (nD S - 1)) (nD S - 1) (nW S)) (nD S - 1) c) 672) 0) 0))).trans (congrArg (nI) (backW_N (zN S 672 0 0 (nD S - 1)) (nD S - 1) (by decide) 0 (nW S)))).trans (congrArg (nI) (zN_eq (S := S) (f := 672) (i := 0) (j := 0) (v := (nD S - 1))))) ?_
                refine j_imul (pc := 173) C dX10_undo_173 ?_
                refine j_topi (nI (16 * (nD S - 1))) (pk_mul 16 (nD S - 1)) ?_
                refine j_iload_n (pc := 174) C dX10_undo_174 rfl 0 rfl ?_
                refine j_iadd (pc := 175) C dX10_undo_175 ?_
                refine j_topi (nI (16 * (nD S - 1) + c)) (nI_add (16 * (nD S - 1)) c) ?_
                refine j_lald (pc := 176) C (p := 16 * (nD S - 1) + c) (M := 512) ((hs.2.1.2 31 (by decide) (by decide)).2.1) rfl ((hs.2.1.2 31 (by decide) (by decide)).2.2) (by omega) (by decide) dX10_undo_176 ?_
                refine j_topl (encO ((backW (zN S 672 0 0 (nD S - 1)) (nD S - 1) (nW S)).2 768 431 (16 * (nD S - 1) + c))) ((hs.rdX 768 431 (16 * (nD S - 1) + c) (by decide) (by decide)).trans (congrArg (encO) (backX_R (backW (zN S 672 0 0 (nD S - 1)) (nD S - 1) (nW S)) (nD S - 1) (by decide) (16 * (nD S - 1) + c) c))) ?_
                refine j_last (pc := 177) C (p := 8 * (d1 S (nD S - 1)) + c) (M := 128) ((hs.2.1.2 12 (by decide) (by decide)).2.1) rfl ((hs.2.1.2 12 (by decide) (by decide)).2.2) (by omega) (by decide) dX10_undo_177 ?_
                have hs := hs.wL 768 412 (8 * (d1 S (nD S - 1)) + c) ((backW (zN S 672 0 0 (nD S - 1)) (nD S - 1) (nW S)).2 768 431 (16 * (nD S - 1) + c)) (encO ((backW (zN S 672 0 0 (nD S - 1)) (nD S - 1) (nW S)).2 768 431 (16 * (nD S - 1) + c))) (by decide) (by decide) rfl; have hme := hme.sL (f := 768) (i := 412) (j := (8 * (d1 S (nD S - 1)) + c)) (v := (encO ((backW (zN S 672 0 0 (nD S - 1)) (nD S - 1) (nW S)).2 768 431 (16 * (nD S - 1) + c)))) rfl
                generalize sL σ9 768 412 (8 * (d1 S (nD S - 1)) + c) (encO ((backW (zN S 672 0 0 (nD S - 1)) (nD S - 1) (nW S)).2 768 431 (16 * (nD S - 1) + c))) = σ4 at hs hme ⊢
                refine j_aload_n (pc := 178) C dX10_undo_178 rfl 3 rfl ?_
                refine j_getA (pc := 179) C fp_X10_33 hs.2.1.1 rfl (f := 652) rfl (12, 412) (x9 12) ((hs.2.1.2 12 (by decide) (by decide)).1) ((hs.2.1.2 12 (by decide) (by decide)).2.1) dX10_undo_179 ?_
                refine j_bipush (pc := 182) C (nI 8) dX10_undo_182 (by decide) ?_
                refine j_iload_n (pc := 184) C dX10_undo_184 rfl 1 rfl ?_
                refine j_imul (pc := 185) C dX10_undo_185 ?_
                refine j_topi (nI (8 * (d2 S (nD S - 1)))) (pk_mul 8 (d2 S (nD S - 1))) ?_
                refine j_iload_n (pc := 186) C dX10_undo_186 rfl 0 rfl ?_
                refine j_iadd (pc := 187) C dX10_undo_187 ?_
                refine j_topi (nI (8 * (d2 S (nD S - 1)) + c)) (nI_add (8 * (d2 S (nD S - 1))) c) ?_
                refine j_aload_n (pc := 188) C dX10_undo_188 rfl 3 rfl ?_
                refine j_getA (pc := 189) C fp_X10_78 hs.2.1.1 rfl (f := 671) rfl (12, 431) (x9 31) ((hs.2.1.2 31 (by decide) (by decide)).1) ((hs.2.1.2 31 (by decide) (by decide)).2.1) dX10_undo_189 ?_
                refine j_bipush (pc := 192) C (nI 16) dX10_undo_192 (by decide) ?_
                refine j_aload_n (pc := 194) C dX10_undo_194 rfl 3 rfl ?_
                refine j_getI (pc := 195) C fp_X10_193 hs.2.1.1 rfl (f := 672) rfl dX10_undo_195 ?_
                refine j_topi (nI (nD S - 1)) (((((hs.rdI 672 0 0 (by decide) (by decide)).trans (congrArg (nI) ((rfl : (zR (backX (backW (zN S 672 0 0 (nD S - 1)) (nD S - 1) (nW S)) (nD S - 1) c) 768 412 (8 * (d1 S (nD S - 1)) + c) ((backW (zN S 672 0 0 (nD S - 1)) (nD S - 1) (nW S)).2 768 431 (16 * (nD S - 1) + c))).1 672 0 0 = (backX (backW (zN S 672 0 0 (nD S - 1)) (nD S - 1) (nW S)) (nD S - 1) c).1 672 0 0)))).trans (congrArg (nI) (congrFun (congrFun (congrFun (backX_N (backW (zN S 672 0 0 (nD S - 1)) (nD S - 1) (nW S)) (nD S - 1) c) 672) 0) 0))).trans (congrArg (nI) (backW_N (zN S 672 0 0 (nD S - 1)) (nD S - 1) (by decide) 0 (nW S)))).trans (congrArg (nI) (zN_eq (S := S) (f := 672) (i := 0) (j := 0) (v := (nD S - 1))))) ?_
                refine j_imul (pc := 198) C dX10_undo_198 ?_
                refine j_topi (nI (16 * (nD S - 1))) (pk_mul 16 (nD S - 1)) ?_
                refine j_bipush (pc := 199) C (nI 8) dX10_undo_199 (by decide) ?_
                refine j_iadd (pc := 201) C dX10_undo_201 ?_
                refine j_topi (nI (16 * (nD S - 1) + 8)) (nI_add (16 * (nD S - 1)) 8) ?_
                refine j_iload_n (pc := 202) C dX10_undo_202 rfl 0 rfl ?_
                refine j_iadd (pc := 203) C dX10_undo_203 ?_
                refine j_topi (nI (16 * (nD S - 1) + 8 + c)) (nI_add (16 * (nD S - 1) + 8) c) ?_
                refine j_lald (pc := 204) C (p := 16 * (nD S - 1) + 8 + c) (M := 512) ((hs.2.1.2 31 (by decide) (by decide)).2.1) rfl ((hs.2.1.2 31 (by decide) (by decide)).2.2) (by omega) (by decide) dX10_undo_204 ?_
                refine j_topl (encO ((backW (zN S 672 0 0 (nD S - 1)) (nD S - 1) (nW S)).2 768 431 (16 * (nD S - 1) + 8 + c))) (((hs.rdX 768 431 (16 * (nD S - 1) + 8 + c) (by decide) (by decide)).trans (congrArg (encO) (zR_ne (S := (backX (backW (zN S 672 0 0 (nD S - 1)) (nD S - 1) (nW S)) (nD S - 1) c)) (f := 768) (i := 412) (j := (8 * (d1 S (nD S - 1)) + c)) (r := ((backW (zN S 672 0 0 (nD S - 1)) (nD S - 1) (nW S)).2 768 431 (16 * (nD S - 1) + c))) (f' := 768) (i' := 431) (j' := (16 * (nD S - 1) + 8 + c)) (fun e => absurd e.2.1 (by decide))))).trans (congrArg (encO) (backX_R (backW (zN S 672 0 0 (nD S - 1)) (nD S - 1) (nW S)) (nD S - 1) (by decide) (16 * (nD S - 1) + 8 + c) c))) ?_
                refine j_last (pc := 205) C (p := 8 * (d2 S (nD S - 1)) + c) (M := 128) ((hs.2.1.2 12 (by decide) (by decide)).2.1) rfl ((hs.2.1.2 12 (by decide) (by decide)).2.2) (by omega) (by decide) dX10_undo_205 ?_
                have hs := hs.wL 768 412 (8 * (d2 S (nD S - 1)) + c) ((backW (zN S 672 0 0 (nD S - 1)) (nD S - 1) (nW S)).2 768 431 (16 * (nD S - 1) + 8 + c)) (encO ((backW (zN S 672 0 0 (nD S - 1)) (nD S - 1) (nW S)).2 768 431 (16 * (nD S - 1) + 8 + c))) (by decide) (by decide) rfl; have hme := hme.sL (f := 768) (i := 412) (j := (8 * (d2 S (nD S - 1)) + c)) (v := (encO ((backW (zN S 672 0 0 (nD S - 1)) (nD S - 1) (nW S)).2 768 431 (16 * (nD S - 1) + 8 + c)))) rfl
                generalize sL σ4 768 412 (8 * (d2 S (nD S - 1)) + c) (encO ((backW (zN S 672 0 0 (nD S - 1)) (nD S - 1) (nW S)).2 768 431 (16 * (nD S - 1) + 8 + c))) = σ5 at hs hme ⊢
                refine j_iinc (pc := 206) C (nI (c + 1)) [(3, .int (nI (c + 1))), (2, .int (nI (d2 S (nD S - 1)))), (1, .int (nI (d1 S (nD S - 1)))), (0, .ref (x9 0))] dX10_undo_206 0 rfl (nI_add c 1) (by decide) rfl ?_
                refine j_goto (pc := 209) C 147 dX10_undo_209 (by decide) ?_
                have e9 : backX (backW (zN S 672 0 0 (nD S - 1)) (nD S - 1) (nW S)) (nD S - 1) (c + 1) = zR (zR (backX (backW (zN S 672 0 0 (nD S - 1)) (nD S - 1) (nW S)) (nD S - 1) c) 768 412 (8 * d1 S (nD S - 1) + c) ((backW (zN S 672 0 0 (nD S - 1)) (nD S - 1) (nW S)).2 768 431 (16 * (nD S - 1) + c))) 768 412 (8 * d2 S (nD S - 1) + c) ((backW (zN S 672 0 0 (nD S - 1)) (nD S - 1) (nW S)).2 768 431 (16 * (nD S - 1) + 8 + c)) := by
                  rw [← hd1, ← hd2]; rfl
                exact J.to [0, 1, 2, 3] rfl (ih2 (c + 1) σ5 (by omega) (by omega) (by rw [e9]; exact hs) hme)
          exact J.to [0, 1, 2, 3] rfl (loop2 9 0 _ (Nat.zero_le _) (by omega) hs hme)
        · have o1 := (hw.2.2.2.1.2.2 w b1).1
          refine j_aload_n (pc := 61) C dX10_undo_61 rfl 3 rfl ?_
          refine j_getA (pc := 62) C fp_X10_75 hs.2.1.1 rfl (f := 670) rfl (12, 430) (x9 30) ((hs.2.1.2 30 (by decide) (by decide)).1) ((hs.2.1.2 30 (by decide) (by decide)).2.1) dX10_undo_62 ?_
          refine j_aload_n (pc := 65) C dX10_undo_65 rfl 3 rfl ?_
          refine j_getI (pc := 66) C fp_X10_193 hs.2.1.1 rfl (f := 672) rfl dX10_undo_66 ?_
          refine j_topi (nI (nD S - 1)) (((hs.rdI 672 0 0 (by decide) (by decide)).trans (congrArg (nI) (backW_N (zN S 672 0 0 (nD S - 1)) (nD S - 1) (by decide) 0 w))).trans (congrArg (nI) (zN_eq (S := S) (f := 672) (i := 0) (j := 0) (v := (nD S - 1))))) ?_
          refine j_lald (pc := 69) C (p := nD S - 1) (M := 32) ((hs.2.1.2 30 (by decide) (by decide)).2.1) rfl ((hs.2.1.2 30 (by decide) (by decide)).2.2) (by omega) (by decide) dX10_undo_69 ?_
          refine j_topl (lN (mv S (nD S - 1))) ((hs.rdB (nD S - 1)).trans (congrArg (lN) (backW_N (zN S 672 0 0 (nD S - 1)) (nD S - 1) (by decide) (nD S - 1) w))) ?_
          refine j_iload_n (pc := 70) C dX10_undo_70 rfl 0 rfl ?_
          refine j_lshr (pc := 71) C dX10_undo_71 ?_
          refine j_lconst (pc := 72) C (lN 1) dX10_undo_72 (by decide) ?_
          refine j_land (pc := 73) C dX10_undo_73 ?_
          refine j_topl (lN ((mv S (nD S - 1)).testBit w).toNat) (bitL (by omega) (by omega)) ?_
          cases hB : (mv S (nD S - 1)).testBit w with
          | false =>
            show J X 0 0 σ9 [(3, .int (nI w)), (2, .int (nI (d2 S (nD S - 1)))), (1, .int (nI (d1 S (nD S - 1)))), (0, .ref (x9 0))] [.long (lN 0)] 74
            refine j_lconst (pc := 74) C (lN 1) dX10_undo_74 (by decide) ?_
            refine j_lcmp (pc := 75) C dX10_undo_75 ?_
            refine jl_if_ne (pc := 76) C 83 dX10_undo_76 (by decide) (fun c0 => ?_) (fun c0 => (absurd c0 (by decide) : False).elim)
            refine j_iconst (pc := 83) C (nI 0) dX10_undo_83 (by decide) ?_
            refine j_istore (pc := 84) C [(4, .int (nI 0)), (3, .int (nI w)), (2, .int (nI (d2 S (nD S - 1)))), (1, .int (nI (d1 S (nD S - 1)))), (0, .ref (x9 0))] dX10_undo_84 (by decide) rfl ?_
            refine j_aload_n (pc := 86) C dX10_undo_86 rfl 4 rfl ?_
            refine j_getA (pc := 87) C fp_X10_66 hs.2.1.1 rfl (f := 667) rfl (13, 27) (x9 27) ((hs.2.1.2 27 (by decide) (by decide)).1) ((hs.2.1.2 27 (by decide) (by decide)).2.1) dX10_undo_87 ?_
            refine j_aload_n (pc := 90) C dX10_undo_90 rfl 4 rfl ?_
            refine j_getI (pc := 91) C fp_X10_193 hs.2.1.1 rfl (f := 672) rfl dX10_undo_91 ?_
            refine j_topi (nI (nD S - 1)) (((hs.rdI 672 0 0 (by decide) (by decide)).trans (congrArg (nI) (backW_N (zN S 672 0 0 (nD S - 1)) (nD S - 1) (by decide) 0 w))).trans (congrArg (nI) (zN_eq (S := S) (f := 672) (i := 0) (j := 0) (v := (nD S - 1))))) ?_
            refine j_zald (pc := 94) C (p := nD S - 1) (M := 32) ((hs.2.1.2 27 (by decide) (by decide)).2.1) rfl ((hs.2.1.2 27 (by decide) (by decide)).2.2) (by omega) (by decide) dX10_undo_94 ?_
            refine j_topi (nI (im S (nD S - 1))) ((hs.rdI 832 27 (nD S - 1) (by decide) (by decide)).trans (congrArg (nI) (backW_N (zN S 672 0 0 (nD S - 1)) (nD S - 1) (by decide) (nD S - 1) w))) ?_
            rcases Nat.le_one_iff_eq_zero_or_eq_one.mp u1 with i9 | i9
            · refine jn_if_eq (pc := 95) C 106 (a := im S (nD S - 1)) (by omega) dX10_undo_95 (by decide) (fun c0 => ?_) (fun c0 => (absurd i9 c0 : False).elim)
              refine j_aload_n (pc := 106) C dX10_undo_106 rfl 4 rfl ?_
              refine j_getA (pc := 107) C fp_X10_51 hs.2.1.1 rfl (f := 661) rfl (11, 31) (x9 21) ((hs.2.1.2 21 (by decide) (by decide)).1) ((hs.2.1.2 21 (by decide) (by decide)).2.1) dX10_undo_107 ?_
              refine j_iload_n (pc := 110) C dX10_undo_110 rfl 1 rfl ?_
              refine j_iald (pc := 111) C (p := w) (M := 40) ((hs.2.1.2 21 (by decide) (by decide)).2.1) rfl ((hs.2.1.2 21 (by decide) (by decide)).2.2) (by omega) (by decide) dX10_undo_111 ?_
              refine j_topi (nI (ol S w)) ((hs.rdI 704 31 w (by decide) (by decide)).trans (congrArg (nI) (backW_ol (zN S 672 0 0 (nD S - 1)) (nD S - 1) w (Nat.le_refl _)))) ?_
              refine j_iload_n (pc := 112) C dX10_undo_112 rfl 3 rfl ?_
              refine jn_icmp_ne (pc := 113) C 139 (a := ol S w) (b := d1 S (nD S - 1)) (by omega) (by omega) dX10_undo_113 (by decide) (fun k1 => ?_) (fun k1 => ?_)
              · have e9 : backW (zN S 672 0 0 (nD S - 1)) (nD S - 1) (w + 1) = backW (zN S 672 0 0 (nD S - 1)) (nD S - 1) w := if_neg (show ¬ (if im S (nD S - 1) = 1 then (mv S (nD S - 1)).testBit w else decide (ol S w = d1 S (nD S - 1))) = true by rw [if_neg (by omega)]; exact fun z => k1 (of_decide_eq_true z))
                refine j_iinc (pc := 139) C (nI (w + 1)) [(3, .int (nI (w + 1))), (4, .int (nI 0)), (2, .int (nI (d2 S (nD S - 1)))), (1, .int (nI (d1 S (nD S - 1)))), (0, .ref (x9 0))] dX10_undo_139 1 rfl (nI_add w 1) (by decide) rfl ?_
                refine j_goto (pc := 142) C 53 dX10_undo_142 (by decide) ?_
                exact J.to [0, 2, 3, 4] rfl (ih (w + 1) σ9 (by omega) (by omega) (by rw [e9]; exact hs) hme)
              · refine j_aload_n (pc := 116) C dX10_undo_116 rfl 4 rfl ?_
                refine j_getA (pc := 117) C fp_X10_51 hs.2.1.1 rfl (f := 661) rfl (11, 31) (x9 21) ((hs.2.1.2 21 (by decide) (by decide)).1) ((hs.2.1.2 21 (by decide) (by decide)).2.1) dX10_undo_117 ?_
                refine j_iload_n (pc := 120) C dX10_undo_120 rfl 1 rfl ?_
                refine j_aload_n (pc := 121) C dX10_undo_121 rfl 4 rfl ?_
                refine j_getA (pc := 122) C fp_X10_66 hs.2.1.1 rfl (f := 667) rfl (13, 27) (x9 27) ((hs.2.1.2 27 (by decide) (by decide)).1) ((hs.2.1.2 27 (by decide) (by decide)).2.1) dX10_undo_122 ?_
                refine j_aload_n (pc := 125) C dX10_undo_125 rfl 4 rfl ?_
                refine j_getI (pc := 126) C fp_X10_193 hs.2.1.1 rfl (f := 672) rfl dX10_undo_126 ?_
                refine j_topi (nI (nD S - 1)) (((hs.rdI 672 0 0 (by decide) (by decide)).trans (congrArg (nI) (backW_N (zN S 672 0 0 (nD S - 1)) (nD S - 1) (by decide) 0 w))).trans (congrArg (nI) (zN_eq (S := S) (f := 672) (i := 0) (j := 0) (v := (nD S - 1))))) ?_
                refine j_zald (pc := 129) C (p := nD S - 1) (M := 32) ((hs.2.1.2 27 (by decide) (by decide)).2.1) rfl ((hs.2.1.2 27 (by decide) (by decide)).2.2) (by omega) (by decide) dX10_undo_129 ?_
                refine j_topi (nI (im S (nD S - 1))) ((hs.rdI 832 27 (nD S - 1) (by decide) (by decide)).trans (congrArg (nI) (backW_N (zN S 672 0 0 (nD S - 1)) (nD S - 1) (by decide) (nD S - 1) w))) ?_
                refine jn_if_eq (pc := 130) C 137 (a := im S (nD S - 1)) (by omega) dX10_undo_130 (by decide) (fun c0 => ?_) (fun c0 => (absurd i9 c0 : False).elim)
                refine j_iload_n (pc := 137) C dX10_undo_137 rfl 2 rfl ?_
                refine j_iast (pc := 138) C (p := w) (M := 40) ((hs.2.1.2 21 (by decide) (by decide)).2.1) rfl ((hs.2.1.2 21 (by decide) (by decide)).2.2) (by omega) (by decide) dX10_undo_138 ?_
                have hs := hs.wI 704 31 w (d2 S (nD S - 1)) (by decide) (by decide)
                have hme := hme.sI (f := 704) (i := 31) (j := w) (v := (nI (d2 S (nD S - 1)))) rfl
                generalize sI σ9 704 31 w (nI (d2 S (nD S - 1))) = σ6 at hs hme ⊢
                refine j_iinc (pc := 139) C (nI (w + 1)) [(3, .int (nI (w + 1))), (4, .int (nI 0)), (2, .int (nI (d2 S (nD S - 1)))), (1, .int (nI (d1 S (nD S - 1)))), (0, .ref (x9 0))] dX10_undo_139 1 rfl (nI_add w 1) (by decide) rfl ?_
                refine j_goto (pc := 142) C 53 dX10_undo_142 (by decide) ?_
                have e9 : backW (zN S 672 0 0 (nD S - 1)) (nD S - 1) (w + 1) = zN (backW (zN S 672 0 0 (nD S - 1)) (nD S - 1) w) 704 31 w (d2 S (nD S - 1)) := by
                  show (if (if im S (nD S - 1) = 1 then (mv S (nD S - 1)).testBit w else decide (ol S w = d1 S (nD S - 1))) = true then zN _ 704 31 w (if im S (nD S - 1) = 1 then d1 S (nD S - 1) else d2 S (nD S - 1)) else _) = _
                  rw [if_pos (show (if im S (nD S - 1) = 1 then (mv S (nD S - 1)).testBit w else decide (ol S w = d1 S (nD S - 1))) = true by rw [if_neg (by omega)]; exact decide_eq_true k1), if_neg (by omega)]
                exact J.to [0, 2, 3, 4] rfl (ih (w + 1) σ6 (by omega) (by omega) (by rw [e9]; exact hs) hme)
            · refine jn_if_eq (pc := 95) C 106 (a := im S (nD S - 1)) (by omega) dX10_undo_95 (by decide) (fun c0 => (absurd c0 (by omega) : False).elim) (fun c0 => ?_)
              refine j_iload (pc := 98) C dX10_undo_98 0 rfl ?_
              refine j_if_eq (pc := 100) C 139 dX10_undo_100 (by decide) (fun _ => ?_) (fun q => absurd q (by decide))
              have e9 : backW (zN S 672 0 0 (nD S - 1)) (nD S - 1) (w + 1) = backW (zN S 672 0 0 (nD S - 1)) (nD S - 1) w := if_neg (show ¬ (if im S (nD S - 1) = 1 then (mv S (nD S - 1)).testBit w else decide (ol S w = d1 S (nD S - 1))) = true by rw [if_pos i9, hB]; decide)
              refine j_iinc (pc := 139) C (nI (w + 1)) [(3, .int (nI (w + 1))), (4, .int (nI 0)), (2, .int (nI (d2 S (nD S - 1)))), (1, .int (nI (d1 S (nD S - 1)))), (0, .ref (x9 0))] dX10_undo_139 1 rfl (nI_add w 1) (by decide) rfl ?_
              refine j_goto (pc := 142) C 53 dX10_undo_142 (by decide) ?_
              exact J.to [0, 2, 3, 4] rfl (ih (w + 1) σ9 (by omega) (by omega) (by rw [e9]; exact hs) hme)
          | true =>
            show J X 0 0 σ9 [(3, .int (nI w)), (2, .int (nI (d2 S (nD S - 1)))), (1, .int (nI (d1 S (nD S - 1)))), (0, .ref (x9 0))] [.long (lN 1)] 74
            refine j_lconst (pc := 74) C (lN 1) dX10_undo_74 (by decide) ?_
            refine j_lcmp (pc := 75) C dX10_undo_75 ?_
            refine jl_if_ne (pc := 76) C 83 dX10_undo_76 (by decide) (fun c0 => (c0 rfl : False).elim) (fun c0 => ?_)
            refine j_iconst (pc := 79) C (nI 1) dX10_undo_79 (by decide) ?_
            refine j_goto (pc := 80) C 84 dX10_undo_80 (by decide) ?_
            refine j_istore (pc := 84) C [(4, .int (nI 1)), (3, .int (nI w)), (2, .int (nI (d2 S (nD S - 1)))), (1, .int (nI (d1 S (nD S - 1)))), (0, .ref (x9 0))] dX10_undo_84 (by decide) rfl ?_
            refine j_aload_n (pc := 86) C dX10_undo_86 rfl 4 rfl ?_
            refine j_getA (pc := 87) C fp_X10_66 hs.2.1.1 rfl (f := 667) rfl (13, 27) (x9 27) ((hs.2.1.2 27 (by decide) (by decide)).1) ((hs.2.1.2 27 (by decide) (by decide)).2.1) dX10_undo_87 ?_
            refine j_aload_n (pc := 90) C dX10_undo_90 rfl 4 rfl ?_
            refine j_getI (pc := 91) C fp_X10_193 hs.2.1.1 rfl (f := 672) rfl dX10_undo_91 ?_
            refine j_topi (nI (nD S - 1)) (((hs.rdI 672 0 0 (by decide) (by decide)).trans (congrArg (nI) (backW_N (zN S 672 0 0 (nD S - 1)) (nD S - 1) (by decide) 0 w))).trans (congrArg (nI) (zN_eq (S := S) (f := 672) (i := 0) (j := 0) (v := (nD S - 1))))) ?_
            refine j_zald (pc := 94) C (p := nD S - 1) (M := 32) ((hs.2.1.2 27 (by decide) (by decide)).2.1) rfl ((hs.2.1.2 27 (by decide) (by decide)).2.2) (by omega) (by decide) dX10_undo_94 ?_
            refine j_topi (nI (im S (nD S - 1))) ((hs.rdI 832 27 (nD S - 1) (by decide) (by decide)).trans (congrArg (nI) (backW_N (zN S 672 0 0 (nD S - 1)) (nD S - 1) (by decide) (nD S - 1) w))) ?_
            rcases Nat.le_one_iff_eq_zero_or_eq_one.mp u1 with i9 | i9
            · refine jn_if_eq (pc := 95) C 106 (a := im S (nD S - 1)) (by omega) dX10_undo_95 (by decide) (fun c0 => ?_) (fun c0 => (absurd i9 c0 : False).elim)
              refine j_aload_n (pc := 106) C dX10_undo_106 rfl 4 rfl ?_
              refine j_getA (pc := 107) C fp_X10_51 hs.2.1.1 rfl (f := 661) rfl (11, 31) (x9 21) ((hs.2.1.2 21 (by decide) (by decide)).1) ((hs.2.1.2 21 (by decide) (by decide)).2.1) dX10_undo_107 ?_
              refine j_iload_n (pc := 110) C dX10_undo_110 rfl 1 rfl ?_
              refine j_iald (pc := 111) C (p := w) (M := 40) ((hs.2.1.2 21 (by decide) (by decide)).2.1) rfl ((hs.2.1.2 21 (by decide) (by decide)).2.2) (by omega) (by decide) dX10_undo_111 ?_
              refine j_topi (nI (ol S w)) ((hs.rdI 704 31 w (by decide) (by decide)).trans (congrArg (nI) (backW_ol (zN S 672 0 0 (nD S - 1)) (nD S - 1) w (Nat.le_refl _)))) ?_
              refine j_iload_n (pc := 112) C dX10_undo_112 rfl 3 rfl ?_
              refine jn_icmp_ne (pc := 113) C 139 (a := ol S w) (b := d1 S (nD S - 1)) (by omega) (by omega) dX10_undo_113 (by decide) (fun k1 => ?_) (fun k1 => ?_)
              · have e9 : backW (zN S 672 0 0 (nD S - 1)) (nD S - 1) (w + 1) = backW (zN S 672 0 0 (nD S - 1)) (nD S - 1) w := if_neg (show ¬ (if im S (nD S - 1) = 1 then (mv S (nD S - 1)).testBit w else decide (ol S w = d1 S (nD S - 1))) = true by rw [if_neg (by omega)]; exact fun z => k1 (of_decide_eq_true z))
                refine j_iinc (pc := 139) C (nI (w + 1)) [(3, .int (nI (w + 1))), (4, .int (nI 1)), (2, .int (nI (d2 S (nD S - 1)))), (1, .int (nI (d1 S (nD S - 1)))), (0, .ref (x9 0))] dX10_undo_139 1 rfl (nI_add w 1) (by decide) rfl ?_
                refine j_goto (pc := 142) C 53 dX10_undo_142 (by decide) ?_
                exact J.to [0, 2, 3, 4] rfl (ih (w + 1) σ9 (by omega) (by omega) (by rw [e9]; exact hs) hme)
              · refine j_aload_n (pc := 116) C dX10_undo_116 rfl 4 rfl ?_
                refine j_getA (pc := 117) C fp_X10_51 hs.2.1.1 rfl (f := 661) rfl (11, 31) (x9 21) ((hs.2.1.2 21 (by decide) (by decide)).1) ((hs.2.1.2 21 (by decide) (by decide)).2.1) dX10_undo_117 ?_
                refine j_iload_n (pc := 120) C dX10_undo_120 rfl 1 rfl ?_
                refine j_aload_n (pc := 121) C dX10_undo_121 rfl 4 rfl ?_
                refine j_getA (pc := 122) C fp_X10_66 hs.2.1.1 rfl (f := 667) rfl (13, 27) (x9 27) ((hs.2.1.2 27 (by decide) (by decide)).1) ((hs.2.1.2 27 (by decide) (by decide)).2.1) dX10_undo_122 ?_
                refine j_aload_n (pc := 125) C dX10_undo_125 rfl 4 rfl ?_
                refine j_getI (pc := 126) C fp_X10_193 hs.2.1.1 rfl (f := 672) rfl dX10_undo_126 ?_
                refine j_topi (nI (nD S - 1)) (((hs.rdI 672 0 0 (by decide) (by decide)).trans (congrArg (nI) (backW_N (zN S 672 0 0 (nD S - 1)) (nD S - 1) (by decide) 0 w))).trans (congrArg (nI) (zN_eq (S := S) (f := 672) (i := 0) (j := 0) (v := (nD S - 1))))) ?_
                refine j_zald (pc := 129) C (p := nD S - 1) (M := 32) ((hs.2.1.2 27 (by decide) (by decide)).2.1) rfl ((hs.2.1.2 27 (by decide) (by decide)).2.2) (by omega) (by decide) dX10_undo_129 ?_
                refine j_topi (nI (im S (nD S - 1))) ((hs.rdI 832 27 (nD S - 1) (by decide) (by decide)).trans (congrArg (nI) (backW_N (zN S 672 0 0 (nD S - 1)) (nD S - 1) (by decide) (nD S - 1) w))) ?_
                refine jn_if_eq (pc := 130) C 137 (a := im S (nD S - 1)) (by omega) dX10_undo_130 (by decide) (fun c0 => ?_) (fun c0 => (absurd i9 c0 : False).elim)
                refine j_iload_n (pc := 137) C dX10_undo_137 rfl 2 rfl ?_
                refine j_iast (pc := 138) C (p := w) (M := 40) ((hs.2.1.2 21 (by decide) (by decide)).2.1) rfl ((hs.2.1.2 21 (by decide) (by decide)).2.2) (by omega) (by decide) dX10_undo_138 ?_
                have hs := hs.wI 704 31 w (d2 S (nD S - 1)) (by decide) (by decide)
                have hme := hme.sI (f := 704) (i := 31) (j := w) (v := (nI (d2 S (nD S - 1)))) rfl
                generalize sI σ9 704 31 w (nI (d2 S (nD S - 1))) = σ7 at hs hme ⊢
                refine j_iinc (pc := 139) C (nI (w + 1)) [(3, .int (nI (w + 1))), (4, .int (nI 1)), (2, .int (nI (d2 S (nD S - 1)))), (1, .int (nI (d1 S (nD S - 1)))), (0, .ref (x9 0))] dX10_undo_139 1 rfl (nI_add w 1) (by decide) rfl ?_
                refine j_goto (pc := 142) C 53 dX10_undo_142 (by decide) ?_
                have e9 : backW (zN S 672 0 0 (nD S - 1)) (nD S - 1) (w + 1) = zN (backW (zN S 672 0 0 (nD S - 1)) (nD S - 1) w) 704 31 w (d2 S (nD S - 1)) := by
                  show (if (if im S (nD S - 1) = 1 then (mv S (nD S - 1)).testBit w else decide (ol S w = d1 S (nD S - 1))) = true then zN _ 704 31 w (if im S (nD S - 1) = 1 then d1 S (nD S - 1) else d2 S (nD S - 1)) else _) = _
                  rw [if_pos (show (if im S (nD S - 1) = 1 then (mv S (nD S - 1)).testBit w else decide (ol S w = d1 S (nD S - 1))) = true by rw [if_neg (by omega)]; exact decide_eq_true k1), if_neg (by omega)]
                exact J.to [0, 2, 3, 4] rfl (ih (w + 1) σ7 (by omega) (by omega) (by rw [e9]; exact hs) hme)
            · refine jn_if_eq (pc := 95) C 106 (a := im S (nD S - 1)) (by omega) dX10_undo_95 (by decide) (fun c0 => (absurd c0 (by omega) : False).elim) (fun c0 => ?_)
              refine j_iload (pc := 98) C dX10_undo_98 0 rfl ?_
              refine j_if_eq (pc := 100) C 139 dX10_undo_100 (by decide) (fun q => absurd q (by decide)) (fun _ => ?_)
              refine j_goto (pc := 103) C 116 dX10_undo_103 (by decide) ?_
              refine j_aload_n (pc := 116) C dX10_undo_116 rfl 4 rfl ?_
              refine j_getA (pc := 117) C fp_X10_51 hs.2.1.1 rfl (f := 661) rfl (11, 31) (x9 21) ((hs.2.1.2 21 (by decide) (by decide)).1) ((hs.2.1.2 21 (by decide) (by decide)).2.1) dX10_undo_117 ?_
              refine j_iload_n (pc := 120) C dX10_undo_120 rfl 1 rfl ?_
              refine j_aload_n (pc := 121) C dX10_undo_121 rfl 4 rfl ?_
              refine j_getA (pc := 122) C fp_X10_66 hs.2.1.1 rfl (f := 667) rfl (13, 27) (x9 27) ((hs.2.1.2 27 (by decide) (by decide)).1) ((hs.2.1.2 27 (by decide) (by decide)).2.1) dX10_undo_122 ?_
              refine j_aload_n (pc := 125) C dX10_undo_125 rfl 4 rfl ?_
              refine j_getI (pc := 126) C fp_X10_193 hs.2.1.1 rfl (f := 672) rfl dX10_undo_126 ?_
              refine j_topi (nI (nD S - 1)) (((hs.rdI 672 0 0 (by decide) (by decide)).trans (congrArg (nI) (backW_N (zN S 672 0 0 (nD S - 1)) (nD S - 1) (by decide) 0 w))).trans (congrArg (nI) (zN_eq (S := S) (f := 672) (i := 0) (j := 0) (v := (nD S - 1))))) ?_
              refine j_zald (pc := 129) C (p := nD S - 1) (M := 32) ((hs.2.1.2 27 (by decide) (by decide)).2.1) rfl ((hs.2.1.2 27 (by decide) (by decide)).2.2) (by omega) (by decide) dX10_undo_129 ?_
              refine j_topi (nI (im S (nD S - 1))) ((hs.rdI 832 27 (nD S - 1) (by decide) (by decide)).trans (congrArg (nI) (backW_N (zN S 672 0 0 (nD S - 1)) (nD S - 1) (by decide) (nD S - 1) w))) ?_
              refine jn_if_eq (pc := 130) C 137 (a := im S (nD S - 1)) (by omega) dX10_undo_130 (by decide) (fun c0 => (absurd c0 (by omega) : False).elim) (fun c0 => ?_)
              refine j_iload_n (pc := 133) C dX10_undo_133 rfl 3 rfl ?_
              refine j_goto (pc := 134) C 138 dX10_undo_134 (by decide) ?_
              refine j_iast (pc := 138) C (p := w) (M := 40) ((hs.2.1.2 21 (by decide) (by decide)).2.1) rfl ((hs.2.1.2 21 (by decide) (by decide)).2.2) (by omega) (by decide) dX10_undo_138 ?_
              have hs := hs.wI 704 31 w (d1 S (nD S - 1)) (by decide) (by decide)
              have hme := hme.sI (f := 704) (i := 31) (j := w) (v := (nI (d1 S (nD S - 1)))) rfl
              generalize sI σ9 704 31 w (nI (d1 S (nD S - 1))) = σ8 at hs hme ⊢
              refine j_iinc (pc := 139) C (nI (w + 1)) [(3, .int (nI (w + 1))), (4, .int (nI 1)), (2, .int (nI (d2 S (nD S - 1)))), (1, .int (nI (d1 S (nD S - 1)))), (0, .ref (x9 0))] dX10_undo_139 1 rfl (nI_add w 1) (by decide) rfl ?_
              refine j_goto (pc := 142) C 53 dX10_undo_142 (by decide) ?_
              have e9 : backW (zN S 672 0 0 (nD S - 1)) (nD S - 1) (w + 1) = zN (backW (zN S 672 0 0 (nD S - 1)) (nD S - 1) w) 704 31 w (d1 S (nD S - 1)) := by
                show (if (if im S (nD S - 1) = 1 then (mv S (nD S - 1)).testBit w else decide (ol S w = d1 S (nD S - 1))) = true then zN _ 704 31 w (if im S (nD S - 1) = 1 then d1 S (nD S - 1) else d2 S (nD S - 1)) else _) = _
                rw [if_pos (show (if im S (nD S - 1) = 1 then (mv S (nD S - 1)).testBit w else decide (ol S w = d1 S (nD S - 1))) = true by rw [if_pos i9]; exact hB), if_pos i9]
              exact J.to [0, 2, 3, 4] rfl (ih (w + 1) σ8 (by omega) (by omega) (by rw [e9]; exact hs) hme)
    exact J.to [0, 1, 2, 3] rfl (loop (nW S + 1) 0 _ (Nat.zero_le _) (by omega) hs hme)
  · refine j_iconst (pc := 8) C (nI 1) dX10_undo_8 (by decide) ?_
    refine j_goto (pc := 9) C 13 dX10_undo_9 (by decide) ?_
    refine j_callV (pc := 13) C [.int (nI 1)] [] (rm0 := ({ frames := 1, cells := 0, slots := 0, locals := 21 } : Room)) (k' := 0) (n' := 0) Q.1 (c_X10_holds (xl X) (xw X) hs (nI 1)) mp_X10_holds wm_1156 hs.2.1.1 rfl rfl (by decide) rfl rfl (Nat.le_of_ble_eq_true rfl) dX10_undo_13 ⟨by decide, by decide⟩ ⟨Nat.le_of_ble_eq_true rfl, Nat.le_of_ble_eq_true rfl⟩ rfl rfl (fun v9 σ9 hp9 => ?_)
    obtain ⟨rfl, hs, hme9⟩ := hp9
    have hme := hme.tr hme9
    show J X 0 0 σ9 [(0, .ref (x9 0))] [.int (bI (decide (nI 1 = 0)))] 16
    refine j_topi (bI false) (by decide) ?_
    refine j_if_ne (pc := 16) C 21 dX10_undo_16 (by decide) (fun q => absurd q (by decide)) (fun _ => ?_)
    refine j_iconst (pc := 19) C (nI 0) dX10_undo_19 (by decide) ?_
    exact j_ireturn (pc := 20) C Q dX10_undo_20 (Nat.le_of_ble_eq_true rfl) (Nat.le_of_ble_eq_true rfl) (by unfold s_undo; rw [if_pos (by omega)]; exact ⟨rfl, hs, hme⟩)
set_option maxHeartbeats 4000000 in
set_option maxRecDepth 100000 in
theorem c_X10_length (L9 : Launch) (w9 : Wd) {σ : HS} {S : SP} {x9 : Nat → Nat} {k9 : Int32} (hs : RS S x9 k9 σ) (hw : WF S) (x c : Int32) : MJ L9 w9 yX10_length cX10_length 3 (some .int) ({ frames := 5, cells := 0, slots := 0, locals := 134 } : Room) [.ref (x9 0), .int x, .int c] σ (fun a9 σ' => a9 = some (.int (s_length S x c).2.1) ∧ RS (s_length S x c).2.2 x9 (nI (s_length S x c).1) σ' ∧ ME σ σ') := by
  refine MJ.of (by decide +kernel) (Nat.le_of_ble_eq_true rfl) (fun X hX1 hX2 C Q hinit => ?_)
  subst hX1; subst hX2
  show J X 0 0 σ [(0, .ref (x9 0)), (1, .int x), (2, .int c)] [] 0
  have hme : ME σ σ := ME.rf
  have gL := hw.2.2.1.1
  refine j_aload_n (pc := 0) C dX10_length_0 rfl 0 rfl ?_
  refine j_aload_n (pc := 1) C dX10_length_1 rfl 0 rfl ?_
  refine j_iload_n (pc := 2) C dX10_length_2 rfl 1 rfl ?_
  refine j_callV (pc := 3) C [.int x] [.ref (x9 0)] (rm0 := ({ frames := 5, cells := 0, slots := 0, locals := 134 } : Room)) (k' := 0) (n' := 0) Q.1 (c_X10_isLexeme (xl X) (xw X) hs hw x) mp_X10_isLexeme wm_1203 hs.2.1.1 rfl rfl (by decide) rfl rfl (Nat.le_of_ble_eq_true rfl) dX10_length_3 ⟨by decide, by decide⟩ ⟨Nat.le_of_ble_eq_true rfl, Nat.le_of_ble_eq_true rfl⟩ rfl rfl (det1 ?_)
  refine jb_if_eq (pc := 6) C 20 (b := isLex S x) dX10_length_6 (by decide) (fun c1 => ?_) (fun c1 => ?_)
  · refine j_iconst (pc := 20) C (nI 1) dX10_length_20 (by decide) ?_
    refine j_callV (pc := 21) C [.int (nI 1)] [] (rm0 := ({ frames := 5, cells := 0, slots := 0, locals := 134 } : Room)) (k' := 0) (n' := 0) Q.1 (c_X10_holds (xl X) (xw X) hs (nI 1)) mp_X10_holds wm_1156 hs.2.1.1 rfl rfl (by decide) rfl rfl (Nat.le_of_ble_eq_true rfl) dX10_length_21 ⟨by decide, by decide⟩ ⟨Nat.le_of_ble_eq_true rfl, Nat.le_of_ble_eq_true rfl⟩ rfl rfl (fun v9 σ1 hp9 => ?_)
    obtain ⟨rfl, hs, hme9⟩ := hp9
    have hme := hme.tr hme9
    show J X 0 0 σ1 [(0, .ref (x9 0)), (1, .int x), (2, .int c)] [.int (bI (decide (nI 1 = 0)))] 24
    refine j_topi (bI false) (by decide) ?_
    refine j_if_eq (pc := 24) C 39 dX10_length_24 (by decide) (fun _ => ?_) (fun q => absurd q (by decide))
    refine j_iconst (pc := 39) C (nI 0) dX10_length_39 (by decide) ?_
    exact j_ireturn (pc := 40) C Q dX10_length_40 (Nat.le_of_ble_eq_true rfl) (Nat.le_of_ble_eq_true rfl) (by unfold s_length; rw [if_pos (by rw [c1]; rfl)]; exact ⟨rfl, hs, hme⟩)
  · have c1k := c1
    have hlx : inI x (nL S) = true ∧ th S (xN x) = 1 := by
      unfold isLex at c1
      rw [Bool.and_eq_true, decide_eq_true_iff] at c1
      exact c1
    obtain ⟨hx1, hx2⟩ := inI_t hlx.1
    rw [hx2]
    refine j_iload_n (pc := 9) C dX10_length_9 rfl 2 rfl ?_
    refine j_callS (pc := 10) C [.int c] [.ref (x9 0)] (rm0 := ({ frames := 5, cells := 0, slots := 0, locals := 134 } : Room)) (k' := 0) (n' := 0) Q.1 (c_X10_isCell (xl X) (xw X) c) mp_X10_isCell wm_1211 rfl rfl (Nat.le_of_ble_eq_true rfl) dX10_length_10 ⟨by decide, by decide⟩ ⟨Nat.le_of_ble_eq_true rfl, Nat.le_of_ble_eq_true rfl⟩ rfl rfl (det1 ?_)
    refine jb_if_eq (pc := 13) C 20 (b := inI c 8) dX10_length_13 (by decide) (fun c2 => ?_) (fun c2 => ?_)
    · refine j_iconst (pc := 20) C (nI 1) dX10_length_20 (by decide) ?_
      refine j_callV (pc := 21) C [.int (nI 1)] [] (rm0 := ({ frames := 5, cells := 0, slots := 0, locals := 134 } : Room)) (k' := 0) (n' := 0) Q.1 (c_X10_holds (xl X) (xw X) hs (nI 1)) mp_X10_holds wm_1156 hs.2.1.1 rfl rfl (by decide) rfl rfl (Nat.le_of_ble_eq_true rfl) dX10_length_21 ⟨by decide, by decide⟩ ⟨Nat.le_of_ble_eq_true rfl, Nat.le_of_ble_eq_true rfl⟩ rfl rfl (fun v9 σ2 hp9 => ?_)
      obtain ⟨rfl, hs, hme9⟩ := hp9
      have hme := hme.tr hme9
      show J X 0 0 σ2 [(0, .ref (x9 0)), (1, .int (nI (xN x))), (2, .int c)] [.int (bI (decide (nI 1 = 0)))] 24
      refine j_topi (bI false) (by decide) ?_
      refine j_if_eq (pc := 24) C 39 dX10_length_24 (by decide) (fun _ => ?_) (fun q => absurd q (by decide))
      refine j_iconst (pc := 39) C (nI 0) dX10_length_39 (by decide) ?_
      exact j_ireturn (pc := 40) C Q dX10_length_40 (Nat.le_of_ble_eq_true rfl) (Nat.le_of_ble_eq_true rfl) (by unfold s_length; rw [if_pos (by rw [c1k, c2]; rfl)]; exact ⟨rfl, hs, hme⟩)
    · obtain ⟨hc1, hc2⟩ := inI_t c2
      rw [hc2]
      refine j_iconst (pc := 16) C (nI 0) dX10_length_16 (by decide) ?_
      refine j_goto (pc := 17) C 21 dX10_length_17 (by decide) ?_
      refine j_callV (pc := 21) C [.int (nI 0)] [] (rm0 := ({ frames := 5, cells := 0, slots := 0, locals := 134 } : Room)) (k' := 0) (n' := 0) Q.1 (c_X10_holds (xl X) (xw X) hs (nI 0)) mp_X10_holds wm_1156 hs.2.1.1 rfl rfl (by decide) rfl rfl (Nat.le_of_ble_eq_true rfl) dX10_length_21 ⟨by decide, by decide⟩ ⟨Nat.le_of_ble_eq_true rfl, Nat.le_of_ble_eq_true rfl⟩ rfl rfl (fun v9 σ3 hp9 => ?_)
      obtain ⟨rfl, hs, hme9⟩ := hp9
      have hme := hme.tr hme9
      show J X 0 0 σ3 [(0, .ref (x9 0)), (1, .int (nI (xN x))), (2, .int (nI (xN c)))] [.int (bI (decide (nI 0 = 0)))] 24
      refine j_topi (bI true) (by decide) ?_
      refine j_if_eq (pc := 24) C 39 dX10_length_24 (by decide) (fun q => absurd q (by decide)) (fun _ => ?_)
      refine j_aload_n (pc := 27) C dX10_length_27 rfl 0 rfl ?_
      refine j_iload_n (pc := 28) C dX10_length_28 rfl 1 rfl ?_
      refine j_iload_n (pc := 29) C dX10_length_29 rfl 2 rfl ?_
      refine j_callV (pc := 30) C [.int (nI (xN x)), .int (nI (xN c))] [] (rm0 := ({ frames := 5, cells := 0, slots := 0, locals := 134 } : Room)) (k' := 0) (n' := 0) Q.1 (c_X10_word (xl X) (xw X) hs hw hx1 hc1) mp_X10_word wm_1286 hs.2.1.1 rfl rfl (by decide) rfl rfl (Nat.le_of_ble_eq_true rfl) dX10_length_30 ⟨by decide, by decide⟩ ⟨Nat.le_of_ble_eq_true rfl, Nat.le_of_ble_eq_true rfl⟩ rfl rfl (fun v9 σ4 hp9 => ?_)
      obtain ⟨rfl, hs, hme9⟩ := hp9
      have hme := hme.tr hme9.1
      show J X 0 0 σ4 [(0, .ref (x9 0)), (1, .int (nI (xN x))), (2, .int (nI (xN c)))] [.long (enc4 (word9 S (xN x) (xN c)))] 33
      refine j_callS (pc := 33) C [.long (enc4 (word9 S (xN x) (xN c)))] [] (rm0 := ({ frames := 5, cells := 0, slots := 0, locals := 134 } : Room)) (k' := 0) (n' := 0) Q.1 (c_X10_size (xl X) (xw X) (okS.R hw.1 (word_ok hw hx1))) mp_X10_size wm_1172 rfl rfl (Nat.le_of_ble_eq_true rfl) dX10_length_33 ⟨by decide, by decide⟩ ⟨Nat.le_of_ble_eq_true rfl, Nat.le_of_ble_eq_true rfl⟩ rfl rfl (det1 ?_)
      refine j_goto (pc := 36) C 40 dX10_length_36 (by decide) ?_
      exact j_ireturn (pc := 40) C Q dX10_length_40 (Nat.le_of_ble_eq_true rfl) (Nat.le_of_ble_eq_true rfl) (by unfold s_length; rw [if_neg (by rw [c1k, c2]; decide)]; exact ⟨rfl, hs, hme⟩)
set_option maxHeartbeats 4000000 in
set_option maxRecDepth 100000 in
theorem c_X10_at (L9 : Launch) (w9 : Wd) {σ : HS} {S : SP} {x9 : Nat → Nat} {k9 : Int32} (hs : RS S x9 k9 σ) (hw : WF S) (x c p : Int32) : MJ L9 w9 yX10_at cX10_at 6 (some .int) ({ frames := 5, cells := 0, slots := 0, locals := 134 } : Room) [.ref (x9 0), .int x, .int c, .int p] σ (fun a9 σ' => a9 = some (.int (s_at S x c p).2.1) ∧ RS (s_at S x c p).2.2 x9 (nI (s_at S x c p).1) σ' ∧ ME σ σ') := by
  refine MJ.of (by decide +kernel) (Nat.le_of_ble_eq_true rfl) (fun X hX1 hX2 C Q hinit => ?_)
  subst hX1; subst hX2
  show J X 0 0 σ [(0, .ref (x9 0)), (1, .int x), (2, .int c), (3, .int p)] [] 0
  have hme : ME σ σ := ME.rf
  have gL := hw.2.2.1.1
  refine j_aload_n (pc := 0) C dX10_at_0 rfl 0 rfl ?_
  refine j_aload_n (pc := 1) C dX10_at_1 rfl 0 rfl ?_
  refine j_iload_n (pc := 2) C dX10_at_2 rfl 1 rfl ?_
  refine j_callV (pc := 3) C [.int x] [.ref (x9 0)] (rm0 := ({ frames := 5, cells := 0, slots := 0, locals := 134 } : Room)) (k' := 0) (n' := 0) Q.1 (c_X10_isLexeme (xl X) (xw X) hs hw x) mp_X10_isLexeme wm_1203 hs.2.1.1 rfl rfl (by decide) rfl rfl (Nat.le_of_ble_eq_true rfl) dX10_at_3 ⟨by decide, by decide⟩ ⟨Nat.le_of_ble_eq_true rfl, Nat.le_of_ble_eq_true rfl⟩ rfl rfl (det1 ?_)
  refine jb_if_eq (pc := 6) C 24 (b := isLex S x) dX10_at_6 (by decide) (fun c1 => ?_) (fun c1 => ?_)
  · refine j_iconst (pc := 24) C (nI 1) dX10_at_24 (by decide) ?_
    refine j_callV (pc := 25) C [.int (nI 1)] [] (rm0 := ({ frames := 5, cells := 0, slots := 0, locals := 134 } : Room)) (k' := 0) (n' := 0) Q.1 (c_X10_holds (xl X) (xw X) hs (nI 1)) mp_X10_holds wm_1156 hs.2.1.1 rfl rfl (by decide) rfl rfl (Nat.le_of_ble_eq_true rfl) dX10_at_25 ⟨by decide, by decide⟩ ⟨Nat.le_of_ble_eq_true rfl, Nat.le_of_ble_eq_true rfl⟩ rfl rfl (fun v9 σ1 hp9 => ?_)
    obtain ⟨rfl, hs, hme9⟩ := hp9
    have hme := hme.tr hme9
    show J X 0 0 σ1 [(0, .ref (x9 0)), (1, .int x), (2, .int c), (3, .int p)] [.int (bI (decide (nI 1 = 0)))] 28
    refine j_topi (bI false) (by decide) ?_
    refine j_if_ne (pc := 28) C 33 dX10_at_28 (by decide) (fun q => absurd q (by decide)) (fun _ => ?_)
    refine j_iconst (pc := 31) C (nI 0) dX10_at_31 (by decide) ?_
    exact j_ireturn (pc := 32) C Q dX10_at_32 (Nat.le_of_ble_eq_true rfl) (Nat.le_of_ble_eq_true rfl) (by unfold s_at; rw [if_pos (by rw [c1]; rfl)]; exact ⟨rfl, hs, hme⟩)
  · have c1k := c1
    have hlx : inI x (nL S) = true ∧ th S (xN x) = 1 := by
      unfold isLex at c1
      rw [Bool.and_eq_true, decide_eq_true_iff] at c1
      exact c1
    obtain ⟨hx1, hx2⟩ := inI_t hlx.1
    rw [hx2]
    refine j_iload_n (pc := 9) C dX10_at_9 rfl 2 rfl ?_
    refine j_callS (pc := 10) C [.int c] [.ref (x9 0)] (rm0 := ({ frames := 5, cells := 0, slots := 0, locals := 134 } : Room)) (k' := 0) (n' := 0) Q.1 (c_X10_isCell (xl X) (xw X) c) mp_X10_isCell wm_1211 rfl rfl (Nat.le_of_ble_eq_true rfl) dX10_at_10 ⟨by decide, by decide⟩ ⟨Nat.le_of_ble_eq_true rfl, Nat.le_of_ble_eq_true rfl⟩ rfl rfl (det1 ?_)
    refine jb_if_eq (pc := 13) C 24 (b := inI c 8) dX10_at_13 (by decide) (fun c2 => ?_) (fun c2 => ?_)
    · refine j_iconst (pc := 24) C (nI 1) dX10_at_24 (by decide) ?_
      refine j_callV (pc := 25) C [.int (nI 1)] [] (rm0 := ({ frames := 5, cells := 0, slots := 0, locals := 134 } : Room)) (k' := 0) (n' := 0) Q.1 (c_X10_holds (xl X) (xw X) hs (nI 1)) mp_X10_holds wm_1156 hs.2.1.1 rfl rfl (by decide) rfl rfl (Nat.le_of_ble_eq_true rfl) dX10_at_25 ⟨by decide, by decide⟩ ⟨Nat.le_of_ble_eq_true rfl, Nat.le_of_ble_eq_true rfl⟩ rfl rfl (fun v9 σ2 hp9 => ?_)
      obtain ⟨rfl, hs, hme9⟩ := hp9
      have hme := hme.tr hme9
      show J X 0 0 σ2 [(0, .ref (x9 0)), (1, .int (nI (xN x))), (2, .int c), (3, .int p)] [.int (bI (decide (nI 1 = 0)))] 28
      refine j_topi (bI false) (by decide) ?_
      refine j_if_ne (pc := 28) C 33 dX10_at_28 (by decide) (fun q => absurd q (by decide)) (fun _ => ?_)
      refine j_iconst (pc := 31) C (nI 0) dX10_at_31 (by decide) ?_
      exact j_ireturn (pc := 32) C Q dX10_at_32 (Nat.le_of_ble_eq_true rfl) (Nat.le_of_ble_eq_true rfl) (by unfold s_at; rw [if_pos (by rw [c1k, c2]; rfl)]; exact ⟨rfl, hs, hme⟩)
    · obtain ⟨hc1, hc2⟩ := inI_t c2
      rw [hc2]
      refine j_iload_n (pc := 16) C dX10_at_16 rfl 3 rfl ?_
      refine j_if_lt (pc := 17) C 24 dX10_at_17 (by decide) (fun c3 => ?_) (fun c3 => ?_)
      · refine j_iconst (pc := 24) C (nI 1) dX10_at_24 (by decide) ?_
        refine j_callV (pc := 25) C [.int (nI 1)] [] (rm0 := ({ frames := 5, cells := 0, slots := 0, locals := 134 } : Room)) (k' := 0) (n' := 0) Q.1 (c_X10_holds (xl X) (xw X) hs (nI 1)) mp_X10_holds wm_1156 hs.2.1.1 rfl rfl (by decide) rfl rfl (Nat.le_of_ble_eq_true rfl) dX10_at_25 ⟨by decide, by decide⟩ ⟨Nat.le_of_ble_eq_true rfl, Nat.le_of_ble_eq_true rfl⟩ rfl rfl (fun v9 σ3 hp9 => ?_)
        obtain ⟨rfl, hs, hme9⟩ := hp9
        have hme := hme.tr hme9
        show J X 0 0 σ3 [(0, .ref (x9 0)), (1, .int (nI (xN x))), (2, .int (nI (xN c))), (3, .int p)] [.int (bI (decide (nI 1 = 0)))] 28
        refine j_topi (bI false) (by decide) ?_
        refine j_if_ne (pc := 28) C 33 dX10_at_28 (by decide) (fun q => absurd q (by decide)) (fun _ => ?_)
        refine j_iconst (pc := 31) C (nI 0) dX10_at_31 (by decide) ?_
        exact j_ireturn (pc := 32) C Q dX10_at_32 (Nat.le_of_ble_eq_true rfl) (Nat.le_of_ble_eq_true rfl) (by unfold s_at; rw [if_pos (by rw [c1k, c2, decide_eq_false (lt0_iff.mp c3)]; rfl)]; exact ⟨rfl, hs, hme⟩)
      · have c4 : 0 ≤ p.toInt := by
          rcases Int.lt_or_le p.toInt 0 with q | q
          · exact absurd (lt0_iff.mpr (by omega)) c3
          · exact q
        obtain ⟨hp1, hp2⟩ := nn_t c4
        rw [hp2]
        refine j_iconst (pc := 20) C (nI 0) dX10_at_20 (by decide) ?_
        refine j_goto (pc := 21) C 25 dX10_at_21 (by decide) ?_
        refine j_callV (pc := 25) C [.int (nI 0)] [] (rm0 := ({ frames := 5, cells := 0, slots := 0, locals := 134 } : Room)) (k' := 0) (n' := 0) Q.1 (c_X10_holds (xl X) (xw X) hs (nI 0)) mp_X10_holds wm_1156 hs.2.1.1 rfl rfl (by decide) rfl rfl (Nat.le_of_ble_eq_true rfl) dX10_at_25 ⟨by decide, by decide⟩ ⟨Nat.le_of_ble_eq_true rfl, Nat.le_of_ble_eq_true rfl⟩ rfl rfl (fun v9 σ4 hp9 => ?_)
        obtain ⟨rfl, hs, hme9⟩ := hp9
        have hme := hme.tr hme9
        show J X 0 0 σ4 [(0, .ref (x9 0)), (1, .int (nI (xN x))), (2, .int (nI (xN c))), (3, .int (nI (xN p)))] [.int (bI (decide (nI 0 = 0)))] 28
        refine j_topi (bI true) (by decide) ?_
        refine j_if_ne (pc := 28) C 33 dX10_at_28 (by decide) (fun _ => ?_) (fun q => absurd q (by decide))
        refine j_aload_n (pc := 33) C dX10_at_33 rfl 0 rfl ?_
        refine j_iload_n (pc := 34) C dX10_at_34 rfl 1 rfl ?_
        refine j_iload_n (pc := 35) C dX10_at_35 rfl 2 rfl ?_
        refine j_callV (pc := 36) C [.int (nI (xN x)), .int (nI (xN c))] [] (rm0 := ({ frames := 5, cells := 0, slots := 0, locals := 134 } : Room)) (k' := 0) (n' := 0) Q.1 (c_X10_word (xl X) (xw X) hs hw hx1 hc1) mp_X10_word wm_1286 hs.2.1.1 rfl rfl (by decide) rfl rfl (Nat.le_of_ble_eq_true rfl) dX10_at_36 ⟨by decide, by decide⟩ ⟨Nat.le_of_ble_eq_true rfl, Nat.le_of_ble_eq_true rfl⟩ rfl rfl (fun v9 σ5 hp9 => ?_)
        obtain ⟨rfl, hs, hme9⟩ := hp9
        have hme := hme.tr hme9.1
        show J X 0 0 σ5 [(0, .ref (x9 0)), (1, .int (nI (xN x))), (2, .int (nI (xN c))), (3, .int (nI (xN p)))] [.long (enc4 (word9 S (xN x) (xN c)))] 39
        have hR := okS.R hw.1 (word_ok hw hx1 (c := xN c))
        have h8 := hR.1
        refine j_lstore (pc := 39) C [(4, .long (enc4 (word9 S (xN x) (xN c)))), (0, .ref (x9 0)), (1, .int (nI (xN x))), (2, .int (nI (xN c))), (3, .int (nI (xN p)))] dX10_at_39 (by decide) rfl ?_
        refine j_iload_n (pc := 41) C dX10_at_41 rfl 4 rfl ?_
        refine j_lload (pc := 42) C dX10_at_42 0 rfl ?_
        refine j_callS (pc := 44) C [.long (enc4 (word9 S (xN x) (xN c)))] [.int (nI (xN p))] (rm0 := ({ frames := 5, cells := 0, slots := 0, locals := 134 } : Room)) (k' := 0) (n' := 0) Q.1 (c_X10_size (xl X) (xw X) hR) mp_X10_size wm_1172 rfl rfl (Nat.le_of_ble_eq_true rfl) dX10_at_44 ⟨by decide, by decide⟩ ⟨Nat.le_of_ble_eq_true rfl, Nat.le_of_ble_eq_true rfl⟩ rfl rfl (det1 ?_)
        refine jn_icmp_ge (pc := 47) C 59 (a := xN p) (b := (word9 S (xN x) (xN c)).length) (by omega) (by omega) dX10_at_47 (by decide) (fun c5 => ?_) (fun c5 => ?_)
        · have e9 : cd (word9 S (xN x) (xN c)) (xN p) = 0 := by unfold cd; rw [List.getElem?_eq_none c5]; rfl
          refine j_iconst (pc := 59) C (-1) dX10_at_59 (by decide) ?_
          refine j_topi (nI (cd (word9 S (xN x) (xN c)) (xN p)) - 1) (by rw [e9]; rfl) ?_
          exact j_ireturn (pc := 60) C Q dX10_at_60 (Nat.le_of_ble_eq_true rfl) (Nat.le_of_ble_eq_true rfl) (by unfold s_at; rw [if_neg (by rw [c1k, c2, decide_eq_true c4]; decide)]; exact ⟨rfl, hs, hme⟩)
        · obtain ⟨s, hs9⟩ : ∃ s, (word9 S (xN x) (xN c))[xN p]? = some s := ⟨_, List.getElem?_eq_getElem c5⟩
          have e9 : cd (word9 S (xN x) (xN c)) (xN p) = s + 1 := by unfold cd; rw [hs9]; rfl
          have s16 := hR.2 s (List.mem_of_getElem? hs9)
          refine j_lload (pc := 50) C dX10_at_50 0 rfl ?_
          refine j_iload_n (pc := 52) C dX10_at_52 rfl 4 rfl ?_
          refine j_callS (pc := 53) C [.long (enc4 (word9 S (xN x) (xN c))), .int (nI (xN p))] [] (rm0 := ({ frames := 5, cells := 0, slots := 0, locals := 134 } : Room)) (k' := 0) (n' := 0) Q.1 (c_X10_soundAt (xl X) (xw X) hR hs9) mp_X10_soundAt wm_1297 rfl rfl (Nat.le_of_ble_eq_true rfl) dX10_at_53 ⟨by decide, by decide⟩ ⟨Nat.le_of_ble_eq_true rfl, Nat.le_of_ble_eq_true rfl⟩ rfl rfl (det1 ?_)
          refine j_goto (pc := 56) C 60 dX10_at_56 (by decide) ?_
          refine j_topi (nI (cd (word9 S (xN x) (xN c)) (xN p)) - 1) (by rw [e9]; exact (pk_sub (a := s + 1) (b := 1) (by omega)).symm) ?_
          exact j_ireturn (pc := 60) C Q dX10_at_60 (Nat.le_of_ble_eq_true rfl) (Nat.le_of_ble_eq_true rfl) (by unfold s_at; rw [if_neg (by rw [c1k, c2, decide_eq_true c4]; decide)]; exact ⟨rfl, hs, hme⟩)
set_option maxHeartbeats 4000000 in
set_option maxRecDepth 100000 in
theorem c_X10_step (L9 : Launch) (w9 : Wd) {σ : HS} {S : SP} {x9 : Nat → Nat} {k9 : Int32} (hs : RS S x9 k9 σ) (hw : WF S) (x c r : Int32) : MJ L9 w9 yX10_step cX10_step 4 (some .int) ({ frames := 5, cells := 0, slots := 0, locals := 135 } : Room) [.ref (x9 0), .int x, .int c, .int r] σ (fun a9 σ' => a9 = some (.int (s_step S x c r).2.1) ∧ RS (s_step S x c r).2.2 x9 (nI (s_step S x c r).1) σ' ∧ ME σ σ') := by
  refine MJ.of (by decide +kernel) (Nat.le_of_ble_eq_true rfl) (fun X hX1 hX2 C Q hinit => ?_)
  subst hX1; subst hX2
  show J X 0 0 σ [(0, .ref (x9 0)), (1, .int x), (2, .int c), (3, .int r)] [] 0
  have hme : ME σ σ := ME.rf
  have gL := hw.2.2.1.1
  refine j_aload_n (pc := 0) C dX10_step_0 rfl 0 rfl ?_
  refine j_aload_n (pc := 1) C dX10_step_1 rfl 0 rfl ?_
  refine j_iload_n (pc := 2) C dX10_step_2 rfl 1 rfl ?_
  refine j_callV (pc := 3) C [.int x] [.ref (x9 0)] (rm0 := ({ frames := 5, cells := 0, slots := 0, locals := 135 } : Room)) (k' := 0) (n' := 0) Q.1 (c_X10_isLexeme (xl X) (xw X) hs hw x) mp_X10_isLexeme wm_1203 hs.2.1.1 rfl rfl (by decide) rfl rfl (Nat.le_of_ble_eq_true rfl) dX10_step_3 ⟨by decide, by decide⟩ ⟨Nat.le_of_ble_eq_true rfl, Nat.le_of_ble_eq_true rfl⟩ rfl rfl (det1 ?_)
  refine jb_if_eq (pc := 6) C 28 (b := isLex S x) dX10_step_6 (by decide) (fun c1 => ?_) (fun c1 => ?_)
  · refine j_iconst (pc := 28) C (nI 1) dX10_step_28 (by decide) ?_
    refine j_callV (pc := 29) C [.int (nI 1)] [] (rm0 := ({ frames := 5, cells := 0, slots := 0, locals := 135 } : Room)) (k' := 0) (n' := 0) Q.1 (c_X10_holds (xl X) (xw X) hs (nI 1)) mp_X10_holds wm_1156 hs.2.1.1 rfl rfl (by decide) rfl rfl (Nat.le_of_ble_eq_true rfl) dX10_step_29 ⟨by decide, by decide⟩ ⟨Nat.le_of_ble_eq_true rfl, Nat.le_of_ble_eq_true rfl⟩ rfl rfl (fun v9 σ1 hp9 => ?_)
    obtain ⟨rfl, hs, hme9⟩ := hp9
    have hme := hme.tr hme9
    show J X 0 0 σ1 [(0, .ref (x9 0)), (1, .int x), (2, .int c), (3, .int r)] [.int (bI (decide (nI 1 = 0)))] 32
    refine j_topi (bI false) (by decide) ?_
    refine j_if_eq (pc := 32) C 45 dX10_step_32 (by decide) (fun _ => ?_) (fun q => absurd q (by decide))
    refine j_iconst (pc := 45) C (nI 0) dX10_step_45 (by decide) ?_
    exact j_ireturn (pc := 46) C Q dX10_step_46 (Nat.le_of_ble_eq_true rfl) (Nat.le_of_ble_eq_true rfl) (by unfold s_step; rw [if_pos (by rw [c1]; rfl)]; exact ⟨rfl, hs, hme⟩)
  · have c1k := c1
    have hlx : inI x (nL S) = true ∧ th S (xN x) = 1 := by
      unfold isLex at c1
      rw [Bool.and_eq_true, decide_eq_true_iff] at c1
      exact c1
    obtain ⟨hx1, hx2⟩ := inI_t hlx.1
    rw [hx2]
    refine j_iload_n (pc := 9) C dX10_step_9 rfl 2 rfl ?_
    refine j_callS (pc := 10) C [.int c] [.ref (x9 0)] (rm0 := ({ frames := 5, cells := 0, slots := 0, locals := 135 } : Room)) (k' := 0) (n' := 0) Q.1 (c_X10_isCell (xl X) (xw X) c) mp_X10_isCell wm_1211 rfl rfl (Nat.le_of_ble_eq_true rfl) dX10_step_10 ⟨by decide, by decide⟩ ⟨Nat.le_of_ble_eq_true rfl, Nat.le_of_ble_eq_true rfl⟩ rfl rfl (det1 ?_)
    refine jb_if_eq (pc := 13) C 28 (b := inI c 8) dX10_step_13 (by decide) (fun c2 => ?_) (fun c2 => ?_)
    · refine j_iconst (pc := 28) C (nI 1) dX10_step_28 (by decide) ?_
      refine j_callV (pc := 29) C [.int (nI 1)] [] (rm0 := ({ frames := 5, cells := 0, slots := 0, locals := 135 } : Room)) (k' := 0) (n' := 0) Q.1 (c_X10_holds (xl X) (xw X) hs (nI 1)) mp_X10_holds wm_1156 hs.2.1.1 rfl rfl (by decide) rfl rfl (Nat.le_of_ble_eq_true rfl) dX10_step_29 ⟨by decide, by decide⟩ ⟨Nat.le_of_ble_eq_true rfl, Nat.le_of_ble_eq_true rfl⟩ rfl rfl (fun v9 σ2 hp9 => ?_)
      obtain ⟨rfl, hs, hme9⟩ := hp9
      have hme := hme.tr hme9
      show J X 0 0 σ2 [(0, .ref (x9 0)), (1, .int (nI (xN x))), (2, .int c), (3, .int r)] [.int (bI (decide (nI 1 = 0)))] 32
      refine j_topi (bI false) (by decide) ?_
      refine j_if_eq (pc := 32) C 45 dX10_step_32 (by decide) (fun _ => ?_) (fun q => absurd q (by decide))
      refine j_iconst (pc := 45) C (nI 0) dX10_step_45 (by decide) ?_
      exact j_ireturn (pc := 46) C Q dX10_step_46 (Nat.le_of_ble_eq_true rfl) (Nat.le_of_ble_eq_true rfl) (by unfold s_step; rw [if_pos (by rw [c1k, c2]; rfl)]; exact ⟨rfl, hs, hme⟩)
    · obtain ⟨hc1, hc2⟩ := inI_t c2
      rw [hc2]
      refine j_aload_n (pc := 16) C dX10_step_16 rfl 0 rfl ?_
      refine j_iload_n (pc := 17) C dX10_step_17 rfl 3 rfl ?_
      refine j_callV (pc := 18) C [.int r] [.ref (x9 0)] (rm0 := ({ frames := 5, cells := 0, slots := 0, locals := 135 } : Room)) (k' := 0) (n' := 0) Q.1 (c_X10_isRule (xl X) (xw X) hs hw r) mp_X10_isRule wm_1230 hs.2.1.1 rfl rfl (by decide) rfl rfl (Nat.le_of_ble_eq_true rfl) dX10_step_18 ⟨by decide, by decide⟩ ⟨Nat.le_of_ble_eq_true rfl, Nat.le_of_ble_eq_true rfl⟩ rfl rfl (det1 ?_)
      refine jb_if_eq (pc := 21) C 28 (b := inI r (nR S)) dX10_step_21 (by decide) (fun c3 => ?_) (fun c3 => ?_)
      · refine j_iconst (pc := 28) C (nI 1) dX10_step_28 (by decide) ?_
        refine j_callV (pc := 29) C [.int (nI 1)] [] (rm0 := ({ frames := 5, cells := 0, slots := 0, locals := 135 } : Room)) (k' := 0) (n' := 0) Q.1 (c_X10_holds (xl X) (xw X) hs (nI 1)) mp_X10_holds wm_1156 hs.2.1.1 rfl rfl (by decide) rfl rfl (Nat.le_of_ble_eq_true rfl) dX10_step_29 ⟨by decide, by decide⟩ ⟨Nat.le_of_ble_eq_true rfl, Nat.le_of_ble_eq_true rfl⟩ rfl rfl (fun v9 σ3 hp9 => ?_)
        obtain ⟨rfl, hs, hme9⟩ := hp9
        have hme := hme.tr hme9
        show J X 0 0 σ3 [(0, .ref (x9 0)), (1, .int (nI (xN x))), (2, .int (nI (xN c))), (3, .int r)] [.int (bI (decide (nI 1 = 0)))] 32
        refine j_topi (bI false) (by decide) ?_
        refine j_if_eq (pc := 32) C 45 dX10_step_32 (by decide) (fun _ => ?_) (fun q => absurd q (by decide))
        refine j_iconst (pc := 45) C (nI 0) dX10_step_45 (by decide) ?_
        exact j_ireturn (pc := 46) C Q dX10_step_46 (Nat.le_of_ble_eq_true rfl) (Nat.le_of_ble_eq_true rfl) (by unfold s_step; rw [if_pos (by rw [c1k, c2, c3]; rfl)]; exact ⟨rfl, hs, hme⟩)
      · obtain ⟨hr1, hr2⟩ := inI_t c3
        rw [hr2]
        refine j_iconst (pc := 24) C (nI 0) dX10_step_24 (by decide) ?_
        refine j_goto (pc := 25) C 29 dX10_step_25 (by decide) ?_
        refine j_callV (pc := 29) C [.int (nI 0)] [] (rm0 := ({ frames := 5, cells := 0, slots := 0, locals := 135 } : Room)) (k' := 0) (n' := 0) Q.1 (c_X10_holds (xl X) (xw X) hs (nI 0)) mp_X10_holds wm_1156 hs.2.1.1 rfl rfl (by decide) rfl rfl (Nat.le_of_ble_eq_true rfl) dX10_step_29 ⟨by decide, by decide⟩ ⟨Nat.le_of_ble_eq_true rfl, Nat.le_of_ble_eq_true rfl⟩ rfl rfl (fun v9 σ4 hp9 => ?_)
        obtain ⟨rfl, hs, hme9⟩ := hp9
        have hme := hme.tr hme9
        show J X 0 0 σ4 [(0, .ref (x9 0)), (1, .int (nI (xN x))), (2, .int (nI (xN c))), (3, .int (nI (xN r)))] [.int (bI (decide (nI 0 = 0)))] 32
        refine j_topi (bI true) (by decide) ?_
        refine j_if_eq (pc := 32) C 45 dX10_step_32 (by decide) (fun q => absurd q (by decide)) (fun _ => ?_)
        refine j_aload_n (pc := 35) C dX10_step_35 rfl 0 rfl ?_
        refine j_iload_n (pc := 36) C dX10_step_36 rfl 1 rfl ?_
        refine j_iload_n (pc := 37) C dX10_step_37 rfl 2 rfl ?_
        refine j_iload_n (pc := 38) C dX10_step_38 rfl 3 rfl ?_
        refine j_callV (pc := 39) C [.int (nI (xN x)), .int (nI (xN c)), .int (nI (xN r))] [] (rm0 := ({ frames := 5, cells := 0, slots := 0, locals := 135 } : Room)) (k' := 0) (n' := 0) Q.1 (c_X10_steps (xl X) (xw X) hs hw hx1 hc1 hr1) mp_X10_steps wm_1321 hs.2.1.1 rfl rfl (by decide) rfl rfl (Nat.le_of_ble_eq_true rfl) dX10_step_39 ⟨by decide, by decide⟩ ⟨Nat.le_of_ble_eq_true rfl, Nat.le_of_ble_eq_true rfl⟩ rfl rfl (fun v9 σ5 hp9 => ?_)
        obtain ⟨rfl, hs, hme9⟩ := hp9
        have hme := hme.tr hme9.1
        show J X 0 0 σ5 [(0, .ref (x9 0)), (1, .int (nI (xN x))), (2, .int (nI (xN c))), (3, .int (nI (xN r)))] [.int (nI (steps9 S (xN x) (xN c) (xN r)))] 42
        refine j_goto (pc := 42) C 46 dX10_step_42 (by decide) ?_
        exact j_ireturn (pc := 46) C Q dX10_step_46 (Nat.le_of_ble_eq_true rfl) (Nat.le_of_ble_eq_true rfl) (by unfold s_step; rw [if_neg (by rw [c1k, c2, c3]; decide)]; exact ⟨rfl, hs, hme⟩)
set_option maxHeartbeats 4000000 in
set_option maxRecDepth 100000 in
theorem c_X10_holes (L9 : Launch) (w9 : Wd) {σ : HS} {S : SP} {x9 : Nat → Nat} {k9 : Int32} (hs : RS S x9 k9 σ) (hw : WF S) (x : Int32) : MJ L9 w9 yX10_holes cX10_holes 2 (some .int) ({ frames := 2, cells := 0, slots := 0, locals := 43 } : Room) [.ref (x9 0), .int x] σ (fun a9 σ' => a9 = some (.int (s_holes S x).2.1) ∧ RS (s_holes S x).2.2 x9 (nI (s_holes S x).1) σ' ∧ ME σ σ') := by
  refine MJ.of (by decide +kernel) (Nat.le_of_ble_eq_true rfl) (fun X hX1 hX2 C Q hinit => ?_)
  subst hX1; subst hX2
  show J X 0 0 σ [(0, .ref (x9 0)), (1, .int x)] [] 0
  have hme : ME σ σ := ME.rf
  refine j_aload_n (pc := 0) C dX10_holes_0 rfl 0 rfl ?_
  refine j_aload_n (pc := 1) C dX10_holes_1 rfl 0 rfl ?_
  refine j_iload_n (pc := 2) C dX10_holes_2 rfl 1 rfl ?_
  refine j_callV (pc := 3) C [.int x] [.ref (x9 0)] (rm0 := ({ frames := 2, cells := 0, slots := 0, locals := 43 } : Room)) (k' := 0) (n' := 0) Q.1 (c_X10_isLexeme (xl X) (xw X) hs hw x) mp_X10_isLexeme wm_1203 hs.2.1.1 rfl rfl (by decide) rfl rfl (Nat.le_of_ble_eq_true rfl) dX10_holes_3 ⟨by decide, by decide⟩ ⟨Nat.le_of_ble_eq_true rfl, Nat.le_of_ble_eq_true rfl⟩ rfl rfl (det1 ?_)
  refine jb_if_eq (pc := 6) C 13 (b := isLex S x) dX10_holes_6 (by decide) (fun c1 => ?_) (fun c1 => ?_)
  · refine j_iconst (pc := 13) C (nI 1) dX10_holes_13 (by decide) ?_
    refine j_callV (pc := 14) C [.int (nI 1)] [] (rm0 := ({ frames := 2, cells := 0, slots := 0, locals := 43 } : Room)) (k' := 0) (n' := 0) Q.1 (c_X10_holds (xl X) (xw X) hs (nI 1)) mp_X10_holds wm_1156 hs.2.1.1 rfl rfl (by decide) rfl rfl (Nat.le_of_ble_eq_true rfl) dX10_holes_14 ⟨by decide, by decide⟩ ⟨Nat.le_of_ble_eq_true rfl, Nat.le_of_ble_eq_true rfl⟩ rfl rfl (fun v9 σ1 hp9 => ?_)
    obtain ⟨rfl, hs, hme9⟩ := hp9
    have hme := hme.tr hme9
    show J X 0 0 σ1 [(0, .ref (x9 0)), (1, .int x)] [.int (bI (decide (nI 1 = 0)))] 17
    refine j_topi (bI false) (by decide) ?_
    refine j_if_eq (pc := 17) C 34 dX10_holes_17 (by decide) (fun _ => ?_) (fun q => absurd q (by decide))
    refine j_iconst (pc := 34) C (nI 0) dX10_holes_34 (by decide) ?_
    exact j_ireturn (pc := 35) C Q dX10_holes_35 (Nat.le_of_ble_eq_true rfl) (Nat.le_of_ble_eq_true rfl) (by unfold s_holes; rw [if_pos c1]; exact ⟨rfl, hs, hme⟩)
  · have c1k := c1
    have hlx : inI x (nL S) = true ∧ th S (xN x) = 1 := by
      unfold isLex at c1
      rw [Bool.and_eq_true, decide_eq_true_iff] at c1
      exact c1
    obtain ⟨hx1, hx2⟩ := inI_t hlx.1
    rw [hx2]
    refine j_iconst (pc := 9) C (nI 0) dX10_holes_9 (by decide) ?_
    refine j_goto (pc := 10) C 14 dX10_holes_10 (by decide) ?_
    refine j_callV (pc := 14) C [.int (nI 0)] [] (rm0 := ({ frames := 2, cells := 0, slots := 0, locals := 43 } : Room)) (k' := 0) (n' := 0) Q.1 (c_X10_holds (xl X) (xw X) hs (nI 0)) mp_X10_holds wm_1156 hs.2.1.1 rfl rfl (by decide) rfl rfl (Nat.le_of_ble_eq_true rfl) dX10_holes_14 ⟨by decide, by decide⟩ ⟨Nat.le_of_ble_eq_true rfl, Nat.le_of_ble_eq_true rfl⟩ rfl rfl (fun v9 σ2 hp9 => ?_)
    obtain ⟨rfl, hs, hme9⟩ := hp9
    have hme := hme.tr hme9
    show J X 0 0 σ2 [(0, .ref (x9 0)), (1, .int (nI (xN x)))] [.int (bI (decide (nI 0 = 0)))] 17
    refine j_topi (bI true) (by decide) ?_
    refine j_if_eq (pc := 17) C 34 dX10_holes_17 (by decide) (fun q => absurd q (by decide)) (fun _ => ?_)
    refine j_sipush (pc := 20) C (nI 255) dX10_holes_20 (by decide) ?_
    refine j_aload_n (pc := 23) C dX10_holes_23 rfl 0 rfl ?_
    refine j_iload_n (pc := 24) C dX10_holes_24 rfl 1 rfl ?_
    refine j_callV (pc := 25) C [.int (nI (xN x))] [.int (nI 255)] (rm0 := ({ frames := 2, cells := 0, slots := 0, locals := 43 } : Room)) (k' := 0) (n' := 0) Q.1 (c_X10_heardIn (xl X) (xw X) hs hw hx1) mp_X10_heardIn wm_1368 hs.2.1.1 rfl rfl (by decide) rfl rfl (Nat.le_of_ble_eq_true rfl) dX10_holes_25 ⟨by decide, by decide⟩ ⟨Nat.le_of_ble_eq_true rfl, Nat.le_of_ble_eq_true rfl⟩ rfl rfl (det1 ?_)
    refine j_iconst (pc := 28) C (-1) dX10_holes_28 (by decide) ?_
    refine j_ixor (pc := 29) C dX10_holes_29 ?_
    refine j_iand (pc := 30) C dX10_holes_30 ?_
    refine j_topi (nI (255 - heardIn S (xN x) (nW S))) (holes_eq _ (heardIn_lt hw (xN x) (nW S) (Nat.le_refl _))) ?_
    refine j_goto (pc := 31) C 35 dX10_holes_31 (by decide) ?_
    exact j_ireturn (pc := 35) C Q dX10_holes_35 (Nat.le_of_ble_eq_true rfl) (Nat.le_of_ble_eq_true rfl) (by unfold s_holes; rw [if_neg (by rw [c1k]; decide)]; exact ⟨rfl, hs, hme⟩)
set_option maxHeartbeats 4000000 in
set_option maxRecDepth 100000 in
theorem c_X10_fitting (L9 : Launch) (w9 : Wd) {σ : HS} {S : SP} {x9 : Nat → Nat} {k9 : Int32} (hs : RS S x9 k9 σ) (hw : WF S) : MJ L9 w9 yX10_fitting cX10_fitting 3 (some .int) ({ frames := 6, cells := 0, slots := 0, locals := 157 } : Room) [.ref (x9 0)] σ (fun a9 σ' => a9 = some (.int (s_fitting S).2.1) ∧ RS (s_fitting S).2.2 x9 (nI (s_fitting S).1) σ' ∧ ME σ σ') := by
  refine MJ.of (by decide +kernel) (Nat.le_of_ble_eq_true rfl) (fun X hX1 hX2 C Q hinit => ?_)
  subst hX1; subst hX2
  show J X 0 0 σ [(0, .ref (x9 0))] [] 0
  have hme : ME σ σ := ME.rf
  have gR := hw.2.1.1
  have g6 : 2 ^ nR S ≤ 2 ^ 6 := Nat.pow_le_pow_right (by decide) gR
  refine j_aload_n (pc := 0) C dX10_fitting_0 rfl 0 rfl ?_
  refine j_iconst (pc := 1) C (nI 0) dX10_fitting_1 (by decide) ?_
  refine j_putI (pc := 2) C fp_X10_86 hs.2.1.1 rfl rfl (Or.inl rfl) rfl (by decide) (f := 640) rfl dX10_fitting_2 ?_
  have hs := hs.wT (nI 0); have hme := hme.sI (f := 640) (i := 0) (j := 0) (v := (nI 0)) rfl
  generalize sI σ 640 0 0 (nI 0) = σ1 at hs hme ⊢
  refine j_iconst (pc := 5) C (nI 0) dX10_fitting_5 (by decide) ?_
  refine j_istore_n (pc := 6) C [(1, .int (nI 0)), (0, .ref (x9 0))] dX10_fitting_6 rfl (by decide) rfl ?_
  refine j_iconst (pc := 7) C (nI 0) dX10_fitting_7 (by decide) ?_
  refine j_istore_n (pc := 8) C [(2, .int (nI 0)), (1, .int (nI 0)), (0, .ref (x9 0))] dX10_fitting_8 rfl (by decide) rfl ?_
  have loop : ∀ (f : Nat) (set : Nat) (σ9 : HS), (set ≤ 2 ^ nR S) → (2 ^ nR S < set + f) → RS S x9 (nI 0) σ9 → ME σ σ9 → J X 0 0 σ9 [(2, .int (nI set)), (1, .int (nI (fb_ct (fitset S) set))), (0, .ref (x9 0))] [] 9 := by
    clear hs hme
    intro f
    induction f with
    | zero => intro set σ9 h1 h2; exact absurd h2 (by omega)
    | succ f ih =>
      intro set σ9 h1 h2 hs hme
      have hle := fb_ct_le (fitset S) set
      refine j_iload_n (pc := 9) C dX10_fitting_9 rfl 0 rfl ?_
      refine j_iconst (pc := 10) C (nI 1) dX10_fitting_10 (by decide) ?_
      refine j_aload_n (pc := 11) C dX10_fitting_11 rfl 2 rfl ?_
      refine j_getI (pc := 12) C fp_X10_133 hs.2.1.1 rfl (f := 659) rfl dX10_fitting_12 ?_
      refine j_topi (nI (nR S)) (hs.rdI 659 0 0 (by decide) (by decide)) ?_
      refine j_ishl (pc := 15) C dX10_fitting_15 ?_
      refine j_topi (nI (2 ^ nR S)) (shl1 (by omega)) ?_
      refine jn_icmp_ge (pc := 16) C 41 (a := set) (b := 2 ^ nR S) (by omega) (by omega) dX10_fitting_16 (by decide) (fun c1 => ?_) (fun c1 => ?_)
      · have e : set = 2 ^ nR S := Nat.le_antisymm h1 c1
        rw [e]
        refine j_iload_n (pc := 41) C dX10_fitting_41 rfl 1 rfl ?_
        exact j_ireturn (pc := 42) C Q dX10_fitting_42 (Nat.le_of_ble_eq_true rfl) (Nat.le_of_ble_eq_true rfl) (by unfold s_fitting; exact ⟨rfl, hs, hme⟩)
      · refine j_iload_n (pc := 19) C dX10_fitting_19 rfl 1 rfl ?_
        refine j_aload_n (pc := 20) C dX10_fitting_20 rfl 2 rfl ?_
        refine j_iload_n (pc := 21) C dX10_fitting_21 rfl 0 rfl ?_
        refine j_callV (pc := 22) C [.int (nI set)] [.int (nI (fb_ct (fitset S) set))] (rm0 := ({ frames := 6, cells := 0, slots := 0, locals := 157 } : Room)) (k' := 0) (n' := 0) Q.1 (c_X10_isFitting (xl X) (xw X) hs hw (set := set) (by omega)) mp_X10_isFitting wm_1353 hs.2.1.1 rfl rfl (by decide) rfl rfl (Nat.le_of_ble_eq_true rfl) dX10_fitting_22 ⟨by decide, by decide⟩ ⟨Nat.le_of_ble_eq_true rfl, Nat.le_of_ble_eq_true rfl⟩ rfl rfl (fun v9 σ2 hp9 => ?_)
        obtain ⟨rfl, hs, hme9⟩ := hp9
        have hme := hme.tr hme9.1
        show J X 0 0 σ2 [(2, .int (nI set)), (1, .int (nI (fb_ct (fitset S) set))), (0, .ref (x9 0))] [.int (bI (fitset S set)), .int (nI (fb_ct (fitset S) set))] 25
        refine jb_if_eq (pc := 25) C 32 (b := fitset S set) dX10_fitting_25 (by decide) (fun c2 => ?_) (fun c2 => ?_)
        · have e9 : fb_ct (fitset S) (set + 1) = fb_ct (fitset S) set + 0 := by rw [fb_ct_succ, c2]; rfl
          refine j_iconst (pc := 32) C (nI 0) dX10_fitting_32 (by decide) ?_
          refine j_iadd (pc := 33) C dX10_fitting_33 ?_
          refine j_topi (nI (fb_ct (fitset S) set + 0)) (nI_add (fb_ct (fitset S) set) 0) ?_
          refine j_topi (nI (fb_ct (fitset S) (set + 1))) (congrArg nI e9.symm) ?_
          refine j_istore_n (pc := 34) C [(1, .int (nI (fb_ct (fitset S) (set + 1)))), (2, .int (nI set)), (0, .ref (x9 0))] dX10_fitting_34 rfl (by decide) rfl ?_
          refine j_iinc (pc := 35) C (nI (set + 1)) [(2, .int (nI (set + 1))), (1, .int (nI (fb_ct (fitset S) (set + 1)))), (0, .ref (x9 0))] dX10_fitting_35 1 rfl (nI_add set 1) (by decide) rfl ?_
          refine j_goto (pc := 38) C 9 dX10_fitting_38 (by decide) ?_
          exact J.to [0, 1, 2] rfl (ih (set + 1) σ2 (by omega) (by omega) hs hme)
        · have e9 : fb_ct (fitset S) (set + 1) = fb_ct (fitset S) set + 1 := by rw [fb_ct_succ, c2]; rfl
          refine j_iconst (pc := 28) C (nI 1) dX10_fitting_28 (by decide) ?_
          refine j_goto (pc := 29) C 33 dX10_fitting_29 (by decide) ?_
          refine j_iadd (pc := 33) C dX10_fitting_33 ?_
          refine j_topi (nI (fb_ct (fitset S) set + 1)) (nI_add (fb_ct (fitset S) set) 1) ?_
          refine j_topi (nI (fb_ct (fitset S) (set + 1))) (congrArg nI e9.symm) ?_
          refine j_istore_n (pc := 34) C [(1, .int (nI (fb_ct (fitset S) (set + 1)))), (2, .int (nI set)), (0, .ref (x9 0))] dX10_fitting_34 rfl (by decide) rfl ?_
          refine j_iinc (pc := 35) C (nI (set + 1)) [(2, .int (nI (set + 1))), (1, .int (nI (fb_ct (fitset S) (set + 1)))), (0, .ref (x9 0))] dX10_fitting_35 1 rfl (nI_add set 1) (by decide) rfl ?_
          refine j_goto (pc := 38) C 9 dX10_fitting_38 (by decide) ?_
          exact J.to [0, 1, 2] rfl (ih (set + 1) σ2 (by omega) (by omega) hs hme)
  exact J.to [0, 1, 2] rfl (loop (2 ^ nR S + 1) 0 _ (Nat.zero_le _) (by omega) hs hme)
set_option maxHeartbeats 4000000 in
set_option maxRecDepth 100000 in
theorem c_X10_pairs (L9 : Launch) (w9 : Wd) {σ : HS} {S : SP} {x9 : Nat → Nat} {k9 : Int32} (hs : RS S x9 k9 σ) (hw : WF S) (x y : Int32) : MJ L9 w9 yX10_pairs cX10_pairs 7 (some .int) ({ frames := 2, cells := 0, slots := 0, locals := 51 } : Room) [.ref (x9 0), .int x, .int y] σ (fun a9 σ' => a9 = some (.int (s_pairs S x y).2.1) ∧ RS (s_pairs S x y).2.2 x9 (nI (s_pairs S x y).1) σ' ∧ ME σ σ') := by
  refine MJ.of (by decide +kernel) (Nat.le_of_ble_eq_true rfl) (fun X hX1 hX2 C Q hinit => ?_)
  subst hX1; subst hX2
  show J X 0 0 σ [(0, .ref (x9 0)), (1, .int x), (2, .int y)] [] 0
  have hme : ME σ σ := ME.rf
  have gS := hw.1.1
  have gW := hw.2.2.2.1.1
  refine j_aload_n (pc := 0) C dX10_pairs_0 rfl 0 rfl ?_
  refine j_iload_n (pc := 1) C dX10_pairs_1 rfl 1 rfl ?_
  refine j_callV (pc := 2) C [.int x] [] (rm0 := ({ frames := 2, cells := 0, slots := 0, locals := 51 } : Room)) (k' := 0) (n' := 0) Q.1 (c_X10_isSound (xl X) (xw X) hs hw x) mp_X10_isSound wm_1168 hs.2.1.1 rfl rfl (by decide) rfl rfl (Nat.le_of_ble_eq_true rfl) dX10_pairs_2 ⟨by decide, by decide⟩ ⟨Nat.le_of_ble_eq_true rfl, Nat.le_of_ble_eq_true rfl⟩ rfl rfl (det1 ?_)
  refine jb_if_eq (pc := 5) C 20 (b := inI x (nS S)) dX10_pairs_5 (by decide) (fun c1 => ?_) (fun c1 => ?_)
  · refine j_iconst (pc := 20) C (nI 0) dX10_pairs_20 (by decide) ?_
    refine j_istore_n (pc := 21) C [(3, .int (nI 0)), (0, .ref (x9 0)), (1, .int x), (2, .int y)] dX10_pairs_21 rfl (by decide) rfl ?_
    refine j_aload_n (pc := 22) C dX10_pairs_22 rfl 1 rfl ?_
    refine j_iload_n (pc := 23) C dX10_pairs_23 rfl 0 rfl ?_
    refine j_if_ne (pc := 24) C 31 dX10_pairs_24 (by decide) (fun q => absurd q (by decide)) (fun _ => ?_)
    refine j_iconst (pc := 27) C (nI 1) dX10_pairs_27 (by decide) ?_
    refine j_goto (pc := 28) C 41 dX10_pairs_28 (by decide) ?_
    refine j_callV (pc := 41) C [.int (nI 1)] [] (rm0 := ({ frames := 2, cells := 0, slots := 0, locals := 51 } : Room)) (k' := 0) (n' := 0) Q.1 (c_X10_holds (xl X) (xw X) hs (nI 1)) mp_X10_holds wm_1156 hs.2.1.1 rfl rfl (by decide) rfl rfl (Nat.le_of_ble_eq_true rfl) dX10_pairs_41 ⟨by decide, by decide⟩ ⟨Nat.le_of_ble_eq_true rfl, Nat.le_of_ble_eq_true rfl⟩ rfl rfl (fun v9 σ1 hp9 => ?_)
    obtain ⟨rfl, hs, hme9⟩ := hp9
    have hme := hme.tr hme9
    show J X 0 0 σ1 [(3, .int (nI 0)), (0, .ref (x9 0)), (1, .int x), (2, .int y)] [.int (bI (decide (nI 1 = 0)))] 44
    refine j_topi (bI false) (by decide) ?_
    refine j_if_ne (pc := 44) C 49 dX10_pairs_44 (by decide) (fun q => absurd q (by decide)) (fun _ => ?_)
    refine j_iconst (pc := 47) C (nI 0) dX10_pairs_47 (by decide) ?_
    exact j_ireturn (pc := 48) C Q dX10_pairs_48 (Nat.le_of_ble_eq_true rfl) (Nat.le_of_ble_eq_true rfl) (by unfold s_pairs; rw [if_pos (by rw [c1]; rfl)]; exact ⟨rfl, hs, hme⟩)
  · refine j_aload_n (pc := 8) C dX10_pairs_8 rfl 0 rfl ?_
    refine j_iload_n (pc := 9) C dX10_pairs_9 rfl 2 rfl ?_
    refine j_callV (pc := 10) C [.int y] [] (rm0 := ({ frames := 2, cells := 0, slots := 0, locals := 51 } : Room)) (k' := 0) (n' := 0) Q.1 (c_X10_isSound (xl X) (xw X) hs hw y) mp_X10_isSound wm_1168 hs.2.1.1 rfl rfl (by decide) rfl rfl (Nat.le_of_ble_eq_true rfl) dX10_pairs_10 ⟨by decide, by decide⟩ ⟨Nat.le_of_ble_eq_true rfl, Nat.le_of_ble_eq_true rfl⟩ rfl rfl (det1 ?_)
    refine jb_if_eq (pc := 13) C 20 (b := inI y (nS S)) dX10_pairs_13 (by decide) (fun c2 => ?_) (fun c2 => ?_)
    · refine j_iconst (pc := 20) C (nI 0) dX10_pairs_20 (by decide) ?_
      refine j_istore_n (pc := 21) C [(3, .int (nI 0)), (0, .ref (x9 0)), (1, .int x), (2, .int y)] dX10_pairs_21 rfl (by decide) rfl ?_
      refine j_aload_n (pc := 22) C dX10_pairs_22 rfl 1 rfl ?_
      refine j_iload_n (pc := 23) C dX10_pairs_23 rfl 0 rfl ?_
      refine j_if_ne (pc := 24) C 31 dX10_pairs_24 (by decide) (fun q => absurd q (by decide)) (fun _ => ?_)
      refine j_iconst (pc := 27) C (nI 1) dX10_pairs_27 (by decide) ?_
      refine j_goto (pc := 28) C 41 dX10_pairs_28 (by decide) ?_
      refine j_callV (pc := 41) C [.int (nI 1)] [] (rm0 := ({ frames := 2, cells := 0, slots := 0, locals := 51 } : Room)) (k' := 0) (n' := 0) Q.1 (c_X10_holds (xl X) (xw X) hs (nI 1)) mp_X10_holds wm_1156 hs.2.1.1 rfl rfl (by decide) rfl rfl (Nat.le_of_ble_eq_true rfl) dX10_pairs_41 ⟨by decide, by decide⟩ ⟨Nat.le_of_ble_eq_true rfl, Nat.le_of_ble_eq_true rfl⟩ rfl rfl (fun v9 σ2 hp9 => ?_)
      obtain ⟨rfl, hs, hme9⟩ := hp9
      have hme := hme.tr hme9
      show J X 0 0 σ2 [(3, .int (nI 0)), (0, .ref (x9 0)), (1, .int x), (2, .int y)] [.int (bI (decide (nI 1 = 0)))] 44
      refine j_topi (bI false) (by decide) ?_
      refine j_if_ne (pc := 44) C 49 dX10_pairs_44 (by decide) (fun q => absurd q (by decide)) (fun _ => ?_)
      refine j_iconst (pc := 47) C (nI 0) dX10_pairs_47 (by decide) ?_
      exact j_ireturn (pc := 48) C Q dX10_pairs_48 (Nat.le_of_ble_eq_true rfl) (Nat.le_of_ble_eq_true rfl) (by unfold s_pairs; rw [if_pos (by rw [c1, c2]; rfl)]; exact ⟨rfl, hs, hme⟩)
    · obtain ⟨hx1, hx2⟩ := inI_t c1
      rw [hx2]
      obtain ⟨hy1, hy2⟩ := inI_t c2
      rw [hy2]
      refine j_iconst (pc := 16) C (nI 1) dX10_pairs_16 (by decide) ?_
      refine j_goto (pc := 17) C 21 dX10_pairs_17 (by decide) ?_
      refine j_istore_n (pc := 21) C [(3, .int (nI 1)), (0, .ref (x9 0)), (1, .int (nI (xN x))), (2, .int (nI (xN y)))] dX10_pairs_21 rfl (by decide) rfl ?_
      refine j_aload_n (pc := 22) C dX10_pairs_22 rfl 1 rfl ?_
      refine j_iload_n (pc := 23) C dX10_pairs_23 rfl 0 rfl ?_
      refine j_if_ne (pc := 24) C 31 dX10_pairs_24 (by decide) (fun _ => ?_) (fun q => absurd q (by decide))
      refine j_iload_n (pc := 31) C dX10_pairs_31 rfl 2 rfl ?_
      refine j_iload_n (pc := 32) C dX10_pairs_32 rfl 3 rfl ?_
      refine jn_icmp_ne (pc := 33) C 40 (a := xN x) (b := xN y) (by omega) (by omega) dX10_pairs_33 (by decide) (fun c3 => ?_) (fun c3 => ?_)
      · refine j_iconst (pc := 40) C (nI 0) dX10_pairs_40 (by decide) ?_
        refine j_callV (pc := 41) C [.int (nI 0)] [] (rm0 := ({ frames := 2, cells := 0, slots := 0, locals := 51 } : Room)) (k' := 0) (n' := 0) Q.1 (c_X10_holds (xl X) (xw X) hs (nI 0)) mp_X10_holds wm_1156 hs.2.1.1 rfl rfl (by decide) rfl rfl (Nat.le_of_ble_eq_true rfl) dX10_pairs_41 ⟨by decide, by decide⟩ ⟨Nat.le_of_ble_eq_true rfl, Nat.le_of_ble_eq_true rfl⟩ rfl rfl (fun v9 σ3 hp9 => ?_)
        obtain ⟨rfl, hs, hme9⟩ := hp9
        have hme := hme.tr hme9
        show J X 0 0 σ3 [(3, .int (nI 1)), (0, .ref (x9 0)), (1, .int (nI (xN x))), (2, .int (nI (xN y)))] [.int (bI (decide (nI 0 = 0)))] 44
        refine j_topi (bI true) (by decide) ?_
        refine j_if_ne (pc := 44) C 49 dX10_pairs_44 (by decide) (fun _ => ?_) (fun q => absurd q (by decide))
        refine j_iconst (pc := 49) C (nI 0) dX10_pairs_49 (by decide) ?_
        refine j_istore (pc := 50) C [(4, .int (nI 0)), (3, .int (nI 1)), (0, .ref (x9 0)), (1, .int (nI (xN x))), (2, .int (nI (xN y)))] dX10_pairs_50 (by decide) rfl ?_
        refine j_iconst (pc := 52) C (nI 0) dX10_pairs_52 (by decide) ?_
        refine j_istore (pc := 53) C [(5, .int (nI 0)), (4, .int (nI 0)), (3, .int (nI 1)), (0, .ref (x9 0)), (1, .int (nI (xN x))), (2, .int (nI (xN y)))] dX10_pairs_53 (by decide) rfl ?_
        have hF : ∀ v, fb_ct (prP S (xN x) (xN y) v) (nW S) ≤ 40 := fun v => Nat.le_trans (fb_ct_le _ _) gW
        have loop : ∀ (f : Nat) (v : Nat), (v ≤ nW S) → (nW S < v + f) → J X 0 0 σ3 [(5, .int (nI v)), (4, .int (nI (fb_sm (fun v => fb_ct (prP S (xN x) (xN y) v) (nW S)) v))), (0, .ref (x9 0)), (1, .int (nI (xN x))), (2, .int (nI (xN y)))] [] 55 := by
          intro f
          induction f with
          | zero => intro v h1 h2; exact absurd h2 (by omega)
          | succ f ih =>
            intro v h1 h2
            have hb : fb_sm (fun v => fb_ct (prP S (xN x) (xN y) v) (nW S)) v ≤ v * 40 := fb_sm_bound (fun k _ => hF k)
            refine j_iload (pc := 55) C dX10_pairs_55 0 rfl ?_
            refine j_aload_n (pc := 57) C dX10_pairs_57 rfl 2 rfl ?_
            refine j_getI (pc := 58) C fp_X10_187 hs.2.1.1 rfl (f := 666) rfl dX10_pairs_58 ?_
            refine j_topi (nI (nW S)) (hs.rdI 666 0 0 (by decide) (by decide)) ?_
            refine jn_icmp_ge (pc := 61) C 114 (a := v) (b := nW S) (by omega) (by omega) dX10_pairs_61 (by decide) (fun d1 => ?_) (fun d1 => ?_)
            · have e : v = nW S := Nat.le_antisymm h1 d1
              rw [e]
              refine j_iload (pc := 114) C dX10_pairs_114 1 rfl ?_
              exact j_ireturn (pc := 116) C Q dX10_pairs_116 (Nat.le_of_ble_eq_true rfl) (Nat.le_of_ble_eq_true rfl) (by unfold s_pairs; rw [if_neg (by rw [c1, c2]; decide), if_neg c3]; exact ⟨rfl, hs, hme⟩)
            · refine j_iload (pc := 64) C dX10_pairs_64 0 rfl ?_
              refine j_iconst (pc := 66) C (nI 1) dX10_pairs_66 (by decide) ?_
              refine j_iadd (pc := 67) C dX10_pairs_67 ?_
              refine j_topi (nI (v + 1)) (nI_add v 1) ?_
              refine j_istore (pc := 68) C [(6, .int (nI (v + 1))), (5, .int (nI v)), (4, .int (nI (fb_sm (fun v => fb_ct (prP S (xN x) (xN y) v) (nW S)) v))), (0, .ref (x9 0)), (1, .int (nI (xN x))), (2, .int (nI (xN y)))] dX10_pairs_68 (by decide) rfl ?_
              have hlow := prP_low S (xN x) (xN y) v
              have loop2 : ∀ (g : Nat) (u : Nat), (u ≤ nW S) → (nW S < u + g) → (v < u) → J X 0 0 σ3 [(6, .int (nI u)), (5, .int (nI v)), (4, .int (nI (fb_sm (fun v => fb_ct (prP S (xN x) (xN y) v) (nW S)) v + fb_ct (prP S (xN x) (xN y) v) u))), (0, .ref (x9 0)), (1, .int (nI (xN x))), (2, .int (nI (xN y)))] [] 70 := by
                intro g
                induction g with
                | zero => intro u g1 g2 g3; exact absurd g2 (by omega)
                | succ g ih2 =>
                  intro u g1 g2 g3
                  have hu := fb_ct_le (prP S (xN x) (xN y) v) u
                  refine j_iload (pc := 70) C dX10_pairs_70 0 rfl ?_
                  refine j_aload_n (pc := 72) C dX10_pairs_72 rfl 3 rfl ?_
                  refine j_getI (pc := 73) C fp_X10_187 hs.2.1.1 rfl (f := 666) rfl dX10_pairs_73 ?_
                  refine j_topi (nI (nW S)) (hs.rdI 666 0 0 (by decide) (by decide)) ?_
                  refine jn_icmp_ge (pc := 76) C 108 (a := u) (b := nW S) (by omega) (by omega) dX10_pairs_76 (by decide) (fun e1 => ?_) (fun e1 => ?_)
                  · have e : u = nW S := Nat.le_antisymm g1 e1
                    rw [e]
                    refine j_iinc (pc := 108) C (nI (v + 1)) [(5, .int (nI (v + 1))), (6, .int (nI (nW S))), (4, .int (nI (fb_sm (fun v => fb_ct (prP S (xN x) (xN y) v) (nW S)) v + fb_ct (prP S (xN x) (xN y) v) (nW S)))), (0, .ref (x9 0)), (1, .int (nI (xN x))), (2, .int (nI (xN y)))] dX10_pairs_108 1 rfl (nI_add v 1) (by decide) rfl ?_
                    refine j_goto (pc := 111) C 55 dX10_pairs_111 (by decide) ?_
                    exact J.to [0, 2, 3, 4, 5] rfl (ih (v + 1) (by omega) (by omega))
                  · refine j_iload (pc := 79) C dX10_pairs_79 2 rfl ?_
                    refine j_aload_n (pc := 81) C dX10_pairs_81 rfl 3 rfl ?_
                    refine j_iload (pc := 82) C dX10_pairs_82 1 rfl ?_
                    refine j_iload (pc := 84) C dX10_pairs_84 0 rfl ?_
                    refine j_iload_n (pc := 86) C dX10_pairs_86 rfl 4 rfl ?_
                    refine j_iload_n (pc := 87) C dX10_pairs_87 rfl 5 rfl ?_
                    refine j_callV (pc := 88) C [.int (nI v), .int (nI u), .int (nI (xN x)), .int (nI (xN y))] [.int (nI (fb_sm (fun v => fb_ct (prP S (xN x) (xN y) v) (nW S)) v + fb_ct (prP S (xN x) (xN y) v) u))] (rm0 := ({ frames := 2, cells := 0, slots := 0, locals := 51 } : Room)) (k' := 0) (n' := 0) Q.1 (c_X10_isPair (xl X) (xw X) hs hw d1 e1 hx1 hy1) mp_X10_isPair wm_1380 hs.2.1.1 rfl rfl (by decide) rfl rfl (Nat.le_of_ble_eq_true rfl) dX10_pairs_88 ⟨by decide, by decide⟩ ⟨Nat.le_of_ble_eq_true rfl, Nat.le_of_ble_eq_true rfl⟩ rfl rfl (det1 ?_)
                    refine jb_if_eq (pc := 91) C 98 (b := isPair9 S v u (xN x) (xN y)) dX10_pairs_91 (by decide) (fun e2 => ?_) (fun e2 => ?_)
                    · have e9 : fb_sm (fun v => fb_ct (prP S (xN x) (xN y) v) (nW S)) v + fb_ct (prP S (xN x) (xN y) v) (u + 1) = fb_sm (fun v => fb_ct (prP S (xN x) (xN y) v) (nW S)) v + fb_ct (prP S (xN x) (xN y) v) u + 0 := by
                        rw [fb_ct_succ]; unfold prP; rw [decide_eq_true g3, e2]; rfl
                      refine j_iconst (pc := 98) C (nI 0) dX10_pairs_98 (by decide) ?_
                      refine j_iadd (pc := 99) C dX10_pairs_99 ?_
                      refine j_topi (nI (fb_sm (fun v => fb_ct (prP S (xN x) (xN y) v) (nW S)) v + fb_ct (prP S (xN x) (xN y) v) u + 0)) (nI_add (fb_sm (fun v => fb_ct (prP S (xN x) (xN y) v) (nW S)) v + fb_ct (prP S (xN x) (xN y) v) u) 0) ?_
                      refine j_topi (nI (fb_sm (fun v => fb_ct (prP S (xN x) (xN y) v) (nW S)) v + fb_ct (prP S (xN x) (xN y) v) (u + 1))) (congrArg nI e9.symm) ?_
                      refine j_istore (pc := 100) C [(4, .int (nI (fb_sm (fun v => fb_ct (prP S (xN x) (xN y) v) (nW S)) v + fb_ct (prP S (xN x) (xN y) v) (u + 1)))), (6, .int (nI u)), (5, .int (nI v)), (0, .ref (x9 0)), (1, .int (nI (xN x))), (2, .int (nI (xN y)))] dX10_pairs_100 (by decide) rfl ?_
                      refine j_iinc (pc := 102) C (nI (u + 1)) [(6, .int (nI (u + 1))), (4, .int (nI (fb_sm (fun v => fb_ct (prP S (xN x) (xN y) v) (nW S)) v + fb_ct (prP S (xN x) (xN y) v) (u + 1)))), (5, .int (nI v)), (0, .ref (x9 0)), (1, .int (nI (xN x))), (2, .int (nI (xN y)))] dX10_pairs_102 1 rfl (nI_add u 1) (by decide) rfl ?_
                      refine j_goto (pc := 105) C 70 dX10_pairs_105 (by decide) ?_
                      exact J.to [0, 2, 1, 3, 4, 5] rfl (ih2 (u + 1) (by omega) (by omega) (by omega))
                    · have e9 : fb_sm (fun v => fb_ct (prP S (xN x) (xN y) v) (nW S)) v + fb_ct (prP S (xN x) (xN y) v) (u + 1) = fb_sm (fun v => fb_ct (prP S (xN x) (xN y) v) (nW S)) v + fb_ct (prP S (xN x) (xN y) v) u + 1 := by
                        rw [fb_ct_succ]; unfold prP; rw [decide_eq_true g3, e2]; rfl
                      refine j_iconst (pc := 94) C (nI 1) dX10_pairs_94 (by decide) ?_
                      refine j_goto (pc := 95) C 99 dX10_pairs_95 (by decide) ?_
                      refine j_iadd (pc := 99) C dX10_pairs_99 ?_
                      refine j_topi (nI (fb_sm (fun v => fb_ct (prP S (xN x) (xN y) v) (nW S)) v + fb_ct (prP S (xN x) (xN y) v) u + 1)) (nI_add (fb_sm (fun v => fb_ct (prP S (xN x) (xN y) v) (nW S)) v + fb_ct (prP S (xN x) (xN y) v) u) 1) ?_
                      refine j_topi (nI (fb_sm (fun v => fb_ct (prP S (xN x) (xN y) v) (nW S)) v + fb_ct (prP S (xN x) (xN y) v) (u + 1))) (congrArg nI e9.symm) ?_
                      refine j_istore (pc := 100) C [(4, .int (nI (fb_sm (fun v => fb_ct (prP S (xN x) (xN y) v) (nW S)) v + fb_ct (prP S (xN x) (xN y) v) (u + 1)))), (6, .int (nI u)), (5, .int (nI v)), (0, .ref (x9 0)), (1, .int (nI (xN x))), (2, .int (nI (xN y)))] dX10_pairs_100 (by decide) rfl ?_
                      refine j_iinc (pc := 102) C (nI (u + 1)) [(6, .int (nI (u + 1))), (4, .int (nI (fb_sm (fun v => fb_ct (prP S (xN x) (xN y) v) (nW S)) v + fb_ct (prP S (xN x) (xN y) v) (u + 1)))), (5, .int (nI v)), (0, .ref (x9 0)), (1, .int (nI (xN x))), (2, .int (nI (xN y)))] dX10_pairs_102 1 rfl (nI_add u 1) (by decide) rfl ?_
                      refine j_goto (pc := 105) C 70 dX10_pairs_105 (by decide) ?_
                      exact J.to [0, 2, 1, 3, 4, 5] rfl (ih2 (u + 1) (by omega) (by omega) (by omega))
              have l0 := loop2 (nW S + 1) (v + 1) (by omega) (by omega) (by omega)
              rw [hlow] at l0
              exact J.to [0, 1, 2, 3, 4, 5] rfl l0
        exact J.to [0, 1, 3, 4, 5] rfl (loop (nW S + 1) 0 (Nat.zero_le _) (by omega))
      · refine j_iconst (pc := 36) C (nI 2) dX10_pairs_36 (by decide) ?_
        refine j_goto (pc := 37) C 41 dX10_pairs_37 (by decide) ?_
        refine j_callV (pc := 41) C [.int (nI 2)] [] (rm0 := ({ frames := 2, cells := 0, slots := 0, locals := 51 } : Room)) (k' := 0) (n' := 0) Q.1 (c_X10_holds (xl X) (xw X) hs (nI 2)) mp_X10_holds wm_1156 hs.2.1.1 rfl rfl (by decide) rfl rfl (Nat.le_of_ble_eq_true rfl) dX10_pairs_41 ⟨by decide, by decide⟩ ⟨Nat.le_of_ble_eq_true rfl, Nat.le_of_ble_eq_true rfl⟩ rfl rfl (fun v9 σ4 hp9 => ?_)
        obtain ⟨rfl, hs, hme9⟩ := hp9
        have hme := hme.tr hme9
        show J X 0 0 σ4 [(3, .int (nI 1)), (0, .ref (x9 0)), (1, .int (nI (xN x))), (2, .int (nI (xN y)))] [.int (bI (decide (nI 2 = 0)))] 44
        refine j_topi (bI false) (by decide) ?_
        refine j_if_ne (pc := 44) C 49 dX10_pairs_44 (by decide) (fun q => absurd q (by decide)) (fun _ => ?_)
        refine j_iconst (pc := 47) C (nI 0) dX10_pairs_47 (by decide) ?_
        exact j_ireturn (pc := 48) C Q dX10_pairs_48 (Nat.le_of_ble_eq_true rfl) (Nat.le_of_ble_eq_true rfl) (by unfold s_pairs; rw [if_neg (by rw [c1, c2]; decide), if_pos c3]; exact ⟨rfl, hs, hme⟩)
set_option maxHeartbeats 4000000 in
set_option maxRecDepth 100000 in
theorem c_X10_shared (L9 : Launch) (w9 : Wd) {σ : HS} {S : SP} {x9 : Nat → Nat} {k9 : Int32} (hs : RS S x9 k9 σ) (hw : WF S) (x y : Int32) : MJ L9 w9 yX10_shared cX10_shared 6 (some .int) ({ frames := 1, cells := 0, slots := 0, locals := 28 } : Room) [.ref (x9 0), .int x, .int y] σ (fun a9 σ' => a9 = some (.int (s_shared S x y).2.1) ∧ RS (s_shared S x y).2.2 x9 (nI (s_shared S x y).1) σ' ∧ ME σ σ') := by
  refine MJ.of (by decide +kernel) (Nat.le_of_ble_eq_true rfl) (fun X hX1 hX2 C Q hinit => ?_)
  subst hX1; subst hX2
  show J X 0 0 σ [(0, .ref (x9 0)), (1, .int x), (2, .int y)] [] 0
  have hme : ME σ σ := ME.rf
  have gL := hw.2.2.1.1
  refine j_aload_n (pc := 0) C dX10_shared_0 rfl 0 rfl ?_
  refine j_iload_n (pc := 1) C dX10_shared_1 rfl 1 rfl ?_
  refine j_iconst (pc := 2) C (nI 0) dX10_shared_2 (by decide) ?_
  refine j_iconst (pc := 3) C (nI 3) dX10_shared_3 (by decide) ?_
  refine j_callS (pc := 4) C [.int x, .int (nI 0), .int (nI 3)] [.ref (x9 0)] (rm0 := ({ frames := 1, cells := 0, slots := 0, locals := 28 } : Room)) (k' := 0) (n' := 0) Q.1 (c_X10_isIn (xl X) (xw X) _ _ _ _ (in_of x (by decide))) mp_X10_isIn wm_1153 rfl rfl (Nat.le_of_ble_eq_true rfl) dX10_shared_4 ⟨by decide, by decide⟩ ⟨Nat.le_of_ble_eq_true rfl, Nat.le_of_ble_eq_true rfl⟩ rfl rfl (det1 ?_)
  refine jb_if_eq (pc := 7) C 23 (b := inI x 4) dX10_shared_7 (by decide) (fun c1 => ?_) (fun c1 => ?_)
  · refine j_iconst (pc := 23) C (nI 1) dX10_shared_23 (by decide) ?_
    refine j_callV (pc := 24) C [.int (nI 1)] [] (rm0 := ({ frames := 1, cells := 0, slots := 0, locals := 28 } : Room)) (k' := 0) (n' := 0) Q.1 (c_X10_holds (xl X) (xw X) hs (nI 1)) mp_X10_holds wm_1156 hs.2.1.1 rfl rfl (by decide) rfl rfl (Nat.le_of_ble_eq_true rfl) dX10_shared_24 ⟨by decide, by decide⟩ ⟨Nat.le_of_ble_eq_true rfl, Nat.le_of_ble_eq_true rfl⟩ rfl rfl (fun v9 σ1 hp9 => ?_)
    obtain ⟨rfl, hs, hme9⟩ := hp9
    have hme := hme.tr hme9
    show J X 0 0 σ1 [(0, .ref (x9 0)), (1, .int x), (2, .int y)] [.int (bI (decide (nI 1 = 0)))] 27
    refine j_topi (bI false) (by decide) ?_
    refine j_if_ne (pc := 27) C 32 dX10_shared_27 (by decide) (fun q => absurd q (by decide)) (fun _ => ?_)
    refine j_iconst (pc := 30) C (nI 0) dX10_shared_30 (by decide) ?_
    exact j_ireturn (pc := 31) C Q dX10_shared_31 (Nat.le_of_ble_eq_true rfl) (Nat.le_of_ble_eq_true rfl) (by unfold s_shared; rw [if_pos (by rw [c1]; rfl)]; exact ⟨rfl, hs, hme⟩)
  · refine j_iload_n (pc := 10) C dX10_shared_10 rfl 2 rfl ?_
    refine j_iconst (pc := 11) C (nI 0) dX10_shared_11 (by decide) ?_
    refine j_iconst (pc := 12) C (nI 3) dX10_shared_12 (by decide) ?_
    refine j_callS (pc := 13) C [.int y, .int (nI 0), .int (nI 3)] [.ref (x9 0)] (rm0 := ({ frames := 1, cells := 0, slots := 0, locals := 28 } : Room)) (k' := 0) (n' := 0) Q.1 (c_X10_isIn (xl X) (xw X) _ _ _ _ (in_of y (by decide))) mp_X10_isIn wm_1153 rfl rfl (Nat.le_of_ble_eq_true rfl) dX10_shared_13 ⟨by decide, by decide⟩ ⟨Nat.le_of_ble_eq_true rfl, Nat.le_of_ble_eq_true rfl⟩ rfl rfl (det1 ?_)
    refine jb_if_eq (pc := 16) C 23 (b := inI y 4) dX10_shared_16 (by decide) (fun c2 => ?_) (fun c2 => ?_)
    · refine j_iconst (pc := 23) C (nI 1) dX10_shared_23 (by decide) ?_
      refine j_callV (pc := 24) C [.int (nI 1)] [] (rm0 := ({ frames := 1, cells := 0, slots := 0, locals := 28 } : Room)) (k' := 0) (n' := 0) Q.1 (c_X10_holds (xl X) (xw X) hs (nI 1)) mp_X10_holds wm_1156 hs.2.1.1 rfl rfl (by decide) rfl rfl (Nat.le_of_ble_eq_true rfl) dX10_shared_24 ⟨by decide, by decide⟩ ⟨Nat.le_of_ble_eq_true rfl, Nat.le_of_ble_eq_true rfl⟩ rfl rfl (fun v9 σ2 hp9 => ?_)
      obtain ⟨rfl, hs, hme9⟩ := hp9
      have hme := hme.tr hme9
      show J X 0 0 σ2 [(0, .ref (x9 0)), (1, .int x), (2, .int y)] [.int (bI (decide (nI 1 = 0)))] 27
      refine j_topi (bI false) (by decide) ?_
      refine j_if_ne (pc := 27) C 32 dX10_shared_27 (by decide) (fun q => absurd q (by decide)) (fun _ => ?_)
      refine j_iconst (pc := 30) C (nI 0) dX10_shared_30 (by decide) ?_
      exact j_ireturn (pc := 31) C Q dX10_shared_31 (Nat.le_of_ble_eq_true rfl) (Nat.le_of_ble_eq_true rfl) (by unfold s_shared; rw [if_pos (by rw [c1, c2]; rfl)]; exact ⟨rfl, hs, hme⟩)
    · obtain ⟨hx1, hx2⟩ := inI_t c1
      rw [hx2]
      obtain ⟨hy1, hy2⟩ := inI_t c2
      rw [hy2]
      refine j_iconst (pc := 19) C (nI 0) dX10_shared_19 (by decide) ?_
      refine j_goto (pc := 20) C 24 dX10_shared_20 (by decide) ?_
      refine j_callV (pc := 24) C [.int (nI 0)] [] (rm0 := ({ frames := 1, cells := 0, slots := 0, locals := 28 } : Room)) (k' := 0) (n' := 0) Q.1 (c_X10_holds (xl X) (xw X) hs (nI 0)) mp_X10_holds wm_1156 hs.2.1.1 rfl rfl (by decide) rfl rfl (Nat.le_of_ble_eq_true rfl) dX10_shared_24 ⟨by decide, by decide⟩ ⟨Nat.le_of_ble_eq_true rfl, Nat.le_of_ble_eq_true rfl⟩ rfl rfl (fun v9 σ3 hp9 => ?_)
      obtain ⟨rfl, hs, hme9⟩ := hp9
      have hme := hme.tr hme9
      show J X 0 0 σ3 [(0, .ref (x9 0)), (1, .int (nI (xN x))), (2, .int (nI (xN y)))] [.int (bI (decide (nI 0 = 0)))] 27
      refine j_topi (bI true) (by decide) ?_
      refine j_if_ne (pc := 27) C 32 dX10_shared_27 (by decide) (fun _ => ?_) (fun q => absurd q (by decide))
      refine j_iconst (pc := 32) C (nI 0) dX10_shared_32 (by decide) ?_
      refine j_istore_n (pc := 33) C [(3, .int (nI 0)), (0, .ref (x9 0)), (1, .int (nI (xN x))), (2, .int (nI (xN y)))] dX10_shared_33 rfl (by decide) rfl ?_
      refine j_iconst (pc := 34) C (nI 0) dX10_shared_34 (by decide) ?_
      refine j_istore (pc := 35) C [(4, .int (nI 0)), (3, .int (nI 0)), (0, .ref (x9 0)), (1, .int (nI (xN x))), (2, .int (nI (xN y)))] dX10_shared_35 (by decide) rfl ?_
      have loop : ∀ (f : Nat) (l : Nat), (l ≤ nL S) → (nL S < l + f) → J X 0 0 σ3 [(4, .int (nI l)), (3, .int (nI (fb_sm (fun l => fb_ct (fun c => isShared9 S l c (xN x) (xN y)) 8) l))), (0, .ref (x9 0)), (1, .int (nI (xN x))), (2, .int (nI (xN y)))] [] 37 := by
        intro f
        induction f with
        | zero => intro l h1 h2; exact absurd h2 (by omega)
        | succ f ih =>
          intro l h1 h2
          have hb : fb_sm (fun l => fb_ct (fun c => isShared9 S l c (xN x) (xN y)) 8) l ≤ l * 8 := fb_sm_bound (fun k _ => fb_ct_le _ _)
          refine j_iload (pc := 37) C dX10_shared_37 0 rfl ?_
          refine j_aload_n (pc := 39) C dX10_shared_39 rfl 2 rfl ?_
          refine j_getI (pc := 40) C fp_X10_130 hs.2.1.1 rfl (f := 650) rfl dX10_shared_40 ?_
          refine j_topi (nI (nL S)) (hs.rdI 650 0 0 (by decide) (by decide)) ?_
          refine jn_icmp_ge (pc := 43) C 89 (a := l) (b := nL S) (by omega) (by omega) dX10_shared_43 (by decide) (fun d1 => ?_) (fun d1 => ?_)
          · have e : l = nL S := Nat.le_antisymm h1 d1
            rw [e]
            refine j_iload_n (pc := 89) C dX10_shared_89 rfl 1 rfl ?_
            exact j_ireturn (pc := 90) C Q dX10_shared_90 (Nat.le_of_ble_eq_true rfl) (Nat.le_of_ble_eq_true rfl) (by unfold s_shared; rw [if_neg (by rw [c1, c2]; decide)]; exact ⟨rfl, hs, hme⟩)
          · refine j_iconst (pc := 46) C (nI 0) dX10_shared_46 (by decide) ?_
            refine j_istore (pc := 47) C [(5, .int (nI 0)), (4, .int (nI l)), (3, .int (nI (fb_sm (fun l => fb_ct (fun c => isShared9 S l c (xN x) (xN y)) 8) l))), (0, .ref (x9 0)), (1, .int (nI (xN x))), (2, .int (nI (xN y)))] dX10_shared_47 (by decide) rfl ?_
            have loop2 : ∀ (g : Nat) (c : Nat), (c ≤ 8) → (8 < c + g) → J X 0 0 σ3 [(5, .int (nI c)), (4, .int (nI l)), (3, .int (nI (fb_sm (fun l => fb_ct (fun c => isShared9 S l c (xN x) (xN y)) 8) l + fb_ct (fun c => isShared9 S l c (xN x) (xN y)) c))), (0, .ref (x9 0)), (1, .int (nI (xN x))), (2, .int (nI (xN y)))] [] 49 := by
              intro g
              induction g with
              | zero => intro c g1 g2; exact absurd g2 (by omega)
              | succ g ih2 =>
                intro c g1 g2
                have hu := fb_ct_le (fun c => isShared9 S l c (xN x) (xN y)) c
                refine j_iload (pc := 49) C dX10_shared_49 0 rfl ?_
                refine j_bipush (pc := 51) C (nI 8) dX10_shared_51 (by decide) ?_
                refine jn_icmp_ge (pc := 53) C 83 (a := c) (b := 8) (by omega) (by omega) dX10_shared_53 (by decide) (fun e1 => ?_) (fun e1 => ?_)
                · have e : c = 8 := Nat.le_antisymm g1 e1
                  rw [e]
                  refine j_iinc (pc := 83) C (nI (l + 1)) [(4, .int (nI (l + 1))), (5, .int (nI 8)), (3, .int (nI (fb_sm (fun l => fb_ct (fun c => isShared9 S l c (xN x) (xN y)) 8) l + fb_ct (fun c => isShared9 S l c (xN x) (xN y)) 8))), (0, .ref (x9 0)), (1, .int (nI (xN x))), (2, .int (nI (xN y)))] dX10_shared_83 1 rfl (nI_add l 1) (by decide) rfl ?_
                  refine j_goto (pc := 86) C 37 dX10_shared_86 (by decide) ?_
                  exact J.to [0, 2, 3, 4, 5] rfl (ih (l + 1) (by omega) (by omega))
                · refine j_iload_n (pc := 56) C dX10_shared_56 rfl 2 rfl ?_
                  refine j_aload_n (pc := 57) C dX10_shared_57 rfl 3 rfl ?_
                  refine j_iload (pc := 58) C dX10_shared_58 1 rfl ?_
                  refine j_iload (pc := 60) C dX10_shared_60 0 rfl ?_
                  refine j_iload_n (pc := 62) C dX10_shared_62 rfl 4 rfl ?_
                  refine j_iload_n (pc := 63) C dX10_shared_63 rfl 5 rfl ?_
                  refine j_callV (pc := 64) C [.int (nI l), .int (nI c), .int (nI (xN x)), .int (nI (xN y))] [.int (nI (fb_sm (fun l => fb_ct (fun c => isShared9 S l c (xN x) (xN y)) 8) l + fb_ct (fun c => isShared9 S l c (xN x) (xN y)) c))] (rm0 := ({ frames := 1, cells := 0, slots := 0, locals := 28 } : Room)) (k' := 0) (n' := 0) Q.1 (c_X10_isShared (xl X) (xw X) hs hw (l := l) (c := c) (by omega) (by omega) (by omega) (by omega)) mp_X10_isShared wm_1392 hs.2.1.1 rfl rfl (by decide) rfl rfl (Nat.le_of_ble_eq_true rfl) dX10_shared_64 ⟨by decide, by decide⟩ ⟨Nat.le_of_ble_eq_true rfl, Nat.le_of_ble_eq_true rfl⟩ rfl rfl (det1 ?_)
                  refine jb_if_eq (pc := 67) C 74 (b := isShared9 S l c (xN x) (xN y)) dX10_shared_67 (by decide) (fun e2 => ?_) (fun e2 => ?_)
                  · have e9 : fb_sm (fun l => fb_ct (fun c => isShared9 S l c (xN x) (xN y)) 8) l + fb_ct (fun c => isShared9 S l c (xN x) (xN y)) (c + 1) = fb_sm (fun l => fb_ct (fun c => isShared9 S l c (xN x) (xN y)) 8) l + fb_ct (fun c => isShared9 S l c (xN x) (xN y)) c + 0 := by
                      rw [fb_ct_succ, e2]; rfl
                    refine j_iconst (pc := 74) C (nI 0) dX10_shared_74 (by decide) ?_
                    refine j_iadd (pc := 75) C dX10_shared_75 ?_
                    refine j_topi (nI (fb_sm (fun l => fb_ct (fun c => isShared9 S l c (xN x) (xN y)) 8) l + fb_ct (fun c => isShared9 S l c (xN x) (xN y)) c + 0)) (nI_add (fb_sm (fun l => fb_ct (fun c => isShared9 S l c (xN x) (xN y)) 8) l + fb_ct (fun c => isShared9 S l c (xN x) (xN y)) c) 0) ?_
                    refine j_topi (nI (fb_sm (fun l => fb_ct (fun c => isShared9 S l c (xN x) (xN y)) 8) l + fb_ct (fun c => isShared9 S l c (xN x) (xN y)) (c + 1))) (congrArg nI e9.symm) ?_
                    refine j_istore_n (pc := 76) C [(3, .int (nI (fb_sm (fun l => fb_ct (fun c => isShared9 S l c (xN x) (xN y)) 8) l + fb_ct (fun c => isShared9 S l c (xN x) (xN y)) (c + 1)))), (5, .int (nI c)), (4, .int (nI l)), (0, .ref (x9 0)), (1, .int (nI (xN x))), (2, .int (nI (xN y)))] dX10_shared_76 rfl (by decide) rfl ?_
                    refine j_iinc (pc := 77) C (nI (c + 1)) [(5, .int (nI (c + 1))), (3, .int (nI (fb_sm (fun l => fb_ct (fun c => isShared9 S l c (xN x) (xN y)) 8) l + fb_ct (fun c => isShared9 S l c (xN x) (xN y)) (c + 1)))), (4, .int (nI l)), (0, .ref (x9 0)), (1, .int (nI (xN x))), (2, .int (nI (xN y)))] dX10_shared_77 1 rfl (nI_add c 1) (by decide) rfl ?_
                    refine j_goto (pc := 80) C 49 dX10_shared_80 (by decide) ?_
                    exact J.to [0, 2, 1, 3, 4, 5] rfl (ih2 (c + 1) (by omega) (by omega))
                  · have e9 : fb_sm (fun l => fb_ct (fun c => isShared9 S l c (xN x) (xN y)) 8) l + fb_ct (fun c => isShared9 S l c (xN x) (xN y)) (c + 1) = fb_sm (fun l => fb_ct (fun c => isShared9 S l c (xN x) (xN y)) 8) l + fb_ct (fun c => isShared9 S l c (xN x) (xN y)) c + 1 := by
                      rw [fb_ct_succ, e2]; rfl
                    refine j_iconst (pc := 70) C (nI 1) dX10_shared_70 (by decide) ?_
                    refine j_goto (pc := 71) C 75 dX10_shared_71 (by decide) ?_
                    refine j_iadd (pc := 75) C dX10_shared_75 ?_
                    refine j_topi (nI (fb_sm (fun l => fb_ct (fun c => isShared9 S l c (xN x) (xN y)) 8) l + fb_ct (fun c => isShared9 S l c (xN x) (xN y)) c + 1)) (nI_add (fb_sm (fun l => fb_ct (fun c => isShared9 S l c (xN x) (xN y)) 8) l + fb_ct (fun c => isShared9 S l c (xN x) (xN y)) c) 1) ?_
                    refine j_topi (nI (fb_sm (fun l => fb_ct (fun c => isShared9 S l c (xN x) (xN y)) 8) l + fb_ct (fun c => isShared9 S l c (xN x) (xN y)) (c + 1))) (congrArg nI e9.symm) ?_
                    refine j_istore_n (pc := 76) C [(3, .int (nI (fb_sm (fun l => fb_ct (fun c => isShared9 S l c (xN x) (xN y)) 8) l + fb_ct (fun c => isShared9 S l c (xN x) (xN y)) (c + 1)))), (5, .int (nI c)), (4, .int (nI l)), (0, .ref (x9 0)), (1, .int (nI (xN x))), (2, .int (nI (xN y)))] dX10_shared_76 rfl (by decide) rfl ?_
                    refine j_iinc (pc := 77) C (nI (c + 1)) [(5, .int (nI (c + 1))), (3, .int (nI (fb_sm (fun l => fb_ct (fun c => isShared9 S l c (xN x) (xN y)) 8) l + fb_ct (fun c => isShared9 S l c (xN x) (xN y)) (c + 1)))), (4, .int (nI l)), (0, .ref (x9 0)), (1, .int (nI (xN x))), (2, .int (nI (xN y)))] dX10_shared_77 1 rfl (nI_add c 1) (by decide) rfl ?_
                    refine j_goto (pc := 80) C 49 dX10_shared_80 (by decide) ?_
                    exact J.to [0, 2, 1, 3, 4, 5] rfl (ih2 (c + 1) (by omega) (by omega))
            exact J.to [0, 1, 2, 3, 4, 5] rfl (loop2 9 0 (Nat.zero_le _) (by omega))
      exact J.to [0, 1, 2, 3, 4] rfl (loop (nL S + 1) 0 (Nat.zero_le _) (by omega))
set_option maxHeartbeats 4000000 in
set_option maxRecDepth 100000 in
theorem c_X10_misfit (L9 : Launch) (w9 : Wd) {σ : HS} {S : SP} {x9 : Nat → Nat} {k9 : Int32} (hs : RS S x9 k9 σ) (hw : WF S) (x : Int32) : MJ L9 w9 yX10_misfit cX10_misfit 4 (some .int) ({ frames := 6, cells := 0, slots := 0, locals := 155 } : Room) [.ref (x9 0), .int x] σ (fun a9 σ' => a9 = some (.int (s_misfit S x).2.1) ∧ RS (s_misfit S x).2.2 x9 (nI (s_misfit S x).1) σ' ∧ ME σ σ') := by
  refine MJ.of (by decide +kernel) (Nat.le_of_ble_eq_true rfl) (fun X hX1 hX2 C Q hinit => ?_)
  subst hX1; subst hX2
  show J X 0 0 σ [(0, .ref (x9 0)), (1, .int x)] [] 0
  have hme : ME σ σ := ME.rf
  have gW := hw.2.2.2.1.1
  refine j_aload_n (pc := 0) C dX10_misfit_0 rfl 0 rfl ?_
  refine j_iload_n (pc := 1) C dX10_misfit_1 rfl 1 rfl ?_
  refine j_if_lt (pc := 2) C 9 dX10_misfit_2 (by decide) (fun c1 => ?_) (fun c1 => ?_)
  · refine j_iconst (pc := 9) C (nI 1) dX10_misfit_9 (by decide) ?_
    refine j_callV (pc := 10) C [.int (nI 1)] [] (rm0 := ({ frames := 6, cells := 0, slots := 0, locals := 155 } : Room)) (k' := 0) (n' := 0) Q.1 (c_X10_holds (xl X) (xw X) hs (nI 1)) mp_X10_holds wm_1156 hs.2.1.1 rfl rfl (by decide) rfl rfl (Nat.le_of_ble_eq_true rfl) dX10_misfit_10 ⟨by decide, by decide⟩ ⟨Nat.le_of_ble_eq_true rfl, Nat.le_of_ble_eq_true rfl⟩ rfl rfl (fun v9 σ1 hp9 => ?_)
    obtain ⟨rfl, hs, hme9⟩ := hp9
    have hme := hme.tr hme9
    show J X 0 0 σ1 [(0, .ref (x9 0)), (1, .int x)] [.int (bI (decide (nI 1 = 0)))] 13
    refine j_topi (bI false) (by decide) ?_
    refine j_if_ne (pc := 13) C 18 dX10_misfit_13 (by decide) (fun q => absurd q (by decide)) (fun _ => ?_)
    refine j_iconst (pc := 16) C (nI 0) dX10_misfit_16 (by decide) ?_
    exact j_ireturn (pc := 17) C Q dX10_misfit_17 (Nat.le_of_ble_eq_true rfl) (Nat.le_of_ble_eq_true rfl) (by unfold s_misfit; rw [if_pos (decide_eq_false (lt0_iff.mp c1))]; exact ⟨rfl, hs, hme⟩)
  · have c4 : 0 ≤ x.toInt := by
      rcases Int.lt_or_le x.toInt 0 with q | q
      · exact absurd (lt0_iff.mpr (by omega)) c1
      · exact q
    obtain ⟨hx1, hx2⟩ := nn_t c4
    rw [hx2]
    refine j_iconst (pc := 5) C (nI 0) dX10_misfit_5 (by decide) ?_
    refine j_goto (pc := 6) C 10 dX10_misfit_6 (by decide) ?_
    refine j_callV (pc := 10) C [.int (nI 0)] [] (rm0 := ({ frames := 6, cells := 0, slots := 0, locals := 155 } : Room)) (k' := 0) (n' := 0) Q.1 (c_X10_holds (xl X) (xw X) hs (nI 0)) mp_X10_holds wm_1156 hs.2.1.1 rfl rfl (by decide) rfl rfl (Nat.le_of_ble_eq_true rfl) dX10_misfit_10 ⟨by decide, by decide⟩ ⟨Nat.le_of_ble_eq_true rfl, Nat.le_of_ble_eq_true rfl⟩ rfl rfl (fun v9 σ2 hp9 => ?_)
    obtain ⟨rfl, hs, hme9⟩ := hp9
    have hme := hme.tr hme9
    show J X 0 0 σ2 [(0, .ref (x9 0)), (1, .int (nI (xN x)))] [.int (bI (decide (nI 0 = 0)))] 13
    refine j_topi (bI true) (by decide) ?_
    refine j_if_ne (pc := 13) C 18 dX10_misfit_13 (by decide) (fun _ => ?_) (fun q => absurd q (by decide))
    refine j_iload_n (pc := 18) C dX10_misfit_18 rfl 1 rfl ?_
    refine j_istore_n (pc := 19) C [(2, .int (nI (xN x))), (0, .ref (x9 0)), (1, .int (nI (xN x)))] dX10_misfit_19 rfl (by decide) rfl ?_
    refine j_iconst (pc := 20) C (nI 0) dX10_misfit_20 (by decide) ?_
    refine j_istore_n (pc := 21) C [(3, .int (nI 0)), (2, .int (nI (xN x))), (0, .ref (x9 0)), (1, .int (nI (xN x)))] dX10_misfit_21 rfl (by decide) rfl ?_
    have loop : ∀ (f : Nat) (w : Nat) (n : Nat) (k : Nat) (σ9 : HS), (w + n = nW S) → (n < f) → (k ≤ xN x) → (misF S n w k = misF S (nW S) 0 (xN x)) → RS S x9 (nI 0) σ9 → ME σ σ9 → J X 0 0 σ9 [(3, .int (nI w)), (2, .int (nI k)), (0, .ref (x9 0)), (1, .int (nI (xN x)))] [] 22 := by
      clear hs hme
      intro f
      induction f with
      | zero => intro w n k σ9 h1 h2 h3 h4; exact absurd h2 (by omega)
      | succ f ih =>
        intro w n k σ9 h1 h2 h3 h4 hs hme
        refine j_iload_n (pc := 22) C dX10_misfit_22 rfl 0 rfl ?_
        refine j_aload_n (pc := 23) C dX10_misfit_23 rfl 2 rfl ?_
        refine j_getI (pc := 24) C fp_X10_187 hs.2.1.1 rfl (f := 666) rfl dX10_misfit_24 ?_
        refine j_topi (nI (nW S)) (hs.rdI 666 0 0 (by decide) (by decide)) ?_
        refine jn_icmp_ge (pc := 27) C 62 (a := w) (b := nW S) (by omega) (by omega) dX10_misfit_27 (by decide) (fun d1 => ?_) (fun d1 => ?_)
        · have e : n = 0 := by omega
          subst e
          refine j_iconst (pc := 62) C (-1) dX10_misfit_62 (by decide) ?_
          refine j_topi (noneI (misF S (nW S) 0 (xN x))) (by rw [← h4]; rfl) ?_
          exact j_ireturn (pc := 63) C Q dX10_misfit_63 (Nat.le_of_ble_eq_true rfl) (Nat.le_of_ble_eq_true rfl) (by unfold s_misfit; rw [if_neg (by rw [decide_eq_true c4]; decide)]; exact ⟨rfl, hs, hme⟩)
        · obtain ⟨m, rfl⟩ : ∃ m, n = m + 1 := ⟨n - 1, by omega⟩
          obtain ⟨q1, q2, q3, q4, -⟩ := hw.2.2.2.1.2.2 w d1
          rw [misF_succ] at h4
          refine j_aload_n (pc := 30) C dX10_misfit_30 rfl 2 rfl ?_
          refine j_getA (pc := 31) C fp_X10_63 hs.2.1.1 rfl (f := 665) rfl (13, 25) (x9 25) ((hs.2.1.2 25 (by decide) (by decide)).1) ((hs.2.1.2 25 (by decide) (by decide)).2.1) dX10_misfit_31 ?_
          refine j_iload_n (pc := 34) C dX10_misfit_34 rfl 0 rfl ?_
          refine j_zald (pc := 35) C (p := w) (M := 40) ((hs.2.1.2 25 (by decide) (by decide)).2.1) rfl ((hs.2.1.2 25 (by decide) (by decide)).2.2) (by omega) (by decide) dX10_misfit_35 ?_
          refine j_topi (nI (hd9 S w)) (hs.rdI 832 25 w (by decide) (by decide)) ?_
          refine jn_if_eq (pc := 36) C 56 (a := hd9 S w) (by omega) dX10_misfit_36 (by decide) (fun d2 => ?_) (fun d2 => ?_)
          · refine j_iinc (pc := 56) C (nI (w + 1)) [(3, .int (nI (w + 1))), (2, .int (nI k)), (0, .ref (x9 0)), (1, .int (nI (xN x)))] dX10_misfit_56 0 rfl (nI_add w 1) (by decide) rfl ?_
            refine j_goto (pc := 59) C 22 dX10_misfit_59 (by decide) ?_
            exact J.to [0, 1, 2, 3] rfl (ih (w + 1) m k σ9 (by omega) (by omega) (by omega) (by rw [← h4, if_neg (fun z => by omega)]) hs hme)
          · refine j_aload_n (pc := 39) C dX10_misfit_39 rfl 2 rfl ?_
            refine j_iload_n (pc := 40) C dX10_misfit_40 rfl 0 rfl ?_
            refine j_callV (pc := 41) C [.int (nI w)] [] (rm0 := ({ frames := 6, cells := 0, slots := 0, locals := 155 } : Room)) (k' := 0) (n' := 0) Q.1 (c_X10_fits (xl X) (xw X) hs hw d1) mp_X10_fits wm_1329 hs.2.1.1 rfl rfl (by decide) rfl rfl (Nat.le_of_ble_eq_true rfl) dX10_misfit_41 ⟨by decide, by decide⟩ ⟨Nat.le_of_ble_eq_true rfl, Nat.le_of_ble_eq_true rfl⟩ rfl rfl (fun v9 σ3 hp9 => ?_)
            obtain ⟨rfl, hs, hme9⟩ := hp9
            have hme := hme.tr hme9.1
            show J X 0 0 σ3 [(3, .int (nI w)), (2, .int (nI k)), (0, .ref (x9 0)), (1, .int (nI (xN x)))] [.int (bI (fits9 S w))] 44
            refine jb_if_ne (pc := 44) C 56 (b := fits9 S w) dX10_misfit_44 (by decide) (fun d3 => ?_) (fun d3 => ?_)
            · refine j_iinc (pc := 56) C (nI (w + 1)) [(3, .int (nI (w + 1))), (2, .int (nI k)), (0, .ref (x9 0)), (1, .int (nI (xN x)))] dX10_misfit_56 0 rfl (nI_add w 1) (by decide) rfl ?_
              refine j_goto (pc := 59) C 22 dX10_misfit_59 (by decide) ?_
              exact J.to [0, 1, 2, 3] rfl (ih (w + 1) m k σ3 (by omega) (by omega) (by omega) (by rw [← h4, if_neg (fun z => by rw [d3] at z; cases z.2)]) hs hme)
            · rw [if_pos ⟨by omega, d3⟩] at h4
              refine j_iload_n (pc := 47) C dX10_misfit_47 rfl 1 rfl ?_
              refine jn_if_ne (pc := 48) C 53 (a := k) (by omega) dX10_misfit_48 (by decide) (fun d4 => ?_) (fun d4 => ?_)
              · refine j_iinc (pc := 53) C (nI (k - 1)) [(2, .int (nI (k - 1))), (3, .int (nI w)), (0, .ref (x9 0)), (1, .int (nI (xN x)))] dX10_misfit_53 1 rfl (nI_dec (by omega)) (by decide) rfl ?_
                refine j_iinc (pc := 56) C (nI (w + 1)) [(3, .int (nI (w + 1))), (2, .int (nI (k - 1))), (0, .ref (x9 0)), (1, .int (nI (xN x)))] dX10_misfit_56 1 rfl (nI_add w 1) (by decide) rfl ?_
                refine j_goto (pc := 59) C 22 dX10_misfit_59 (by decide) ?_
                exact J.to [0, 1, 2, 3] rfl (ih (w + 1) m (k - 1) σ3 (by omega) (by omega) (by omega) (by rw [← h4, if_neg (by omega)]) hs hme)
              · rw [if_pos (by omega)] at h4
                refine j_iload_n (pc := 51) C dX10_misfit_51 rfl 0 rfl ?_
                refine j_topi (noneI (misF S (nW S) 0 (xN x))) (by rw [← h4]; rfl) ?_
                exact j_ireturn (pc := 52) C Q dX10_misfit_52 (Nat.le_of_ble_eq_true rfl) (Nat.le_of_ble_eq_true rfl) (by unfold s_misfit; rw [if_neg (by rw [decide_eq_true c4]; decide)]; exact ⟨rfl, hs, hme⟩)
    exact J.to [0, 1, 2, 3] rfl (loop (nW S + 1) 0 (nW S) (xN x) _ (by omega) (by omega) (Nat.le_refl _) rfl hs hme)
