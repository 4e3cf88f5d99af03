set_option maxHeartbeats 4000000 in
set_option maxRecDepth 100000 in
theorem c_X10_init (L9 : Launch) (w9 : Wd) {σ : HS} {a : Nat} (is : IB (fun _ => false) a σ σ) : MJ L9 w9 yX10_init cX10_init 2 none ({ frames := 1, cells := 24, slots := 1206, locals := 12 } : Room) [.ref a] σ (fun a9 σ' => a9 = none ∧ ∃ x9 : Nat → Nat, x9 0 = a ∧ RS (S9 64 128) x9 (nI 0) σ' ∧ ∀ t, mtB t = false → Sm σ σ' t) := by
  refine MJ.of (by decide +kernel) (Nat.le_of_ble_eq_true rfl) (fun X hX1 hX2 C Q hinit => ?_)
  subst hX1; subst hX2
  show J X 0 0 σ [(0, .ref a)] [] 0
  refine j_aload_n (pc := 0) C dX10_init_0 rfl 0 rfl ?_
  refine j_objInit (pc := 1) C (rm0 := ({ frames := 1, cells := 24, slots := 1206, locals := 12 } : Room)) Q.1 wm_1039 wm_87 wm_88 rfl dX10_init_1 ⟨by decide, by decide⟩ ?_
  refine j_aload_n (pc := 4) C dX10_init_4 rfl 0 rfl ?_
  refine j_bipush (pc := 5) C (nI 16) dX10_init_5 (by decide) ?_
  have hv9 : hV σ (11, 11) = false := (is.2.1 1 (by decide) (by decide)).2 rfl
  refine j_newa (pc := 7) C (k' := 1) (n' := 16) (rm0 := ({ frames := 1, cells := 24, slots := 1206, locals := 12 } : Room)) (11, 11) Q.1 wm_121 rfl (Or.inl ⟨rfl, rfl⟩) hv9 (M := 16) rfl (by decide) dX10_init_7 ⟨by decide, by decide⟩ rfl rfl (fun q1 => ?_)
  show J X 1 16 (sNew σ (11, 11) q1 16) [(0, .ref a)] [.ref q1, .ref a] 9
  refine j_putR (pc := 9) C (11, 11) (At.new (σ := σ) (t := (11, 11)) (q := q1) (n := 16)).2 (Or.inl (At.new (σ := σ) (t := (11, 11)) (q := q1) (n := 16)).1) fp_X10_7 (is.1.ext (Ext.new hv9)) rfl rfl (Or.inr ⟨rfl, hinit rfl⟩) rfl (by decide) (f := 641) rfl dX10_init_9 ?_
  have is : IB _ a σ (sR (sNew σ (11, 11) q1 16) 641 0 0 (some (11, 11))) := is.step (s := 1) (by decide) (by decide) rfl q1
  generalize sR (sNew σ (11, 11) q1 16) 641 0 0 (some (11, 11)) = τ1 at is ⊢
  show J X 1 16 τ1 [(0, .ref a)] [] 12
  refine j_aload_n (pc := 12) C dX10_init_12 rfl 0 rfl ?_
  refine j_bipush (pc := 13) C (nI 64) dX10_init_13 (by decide) ?_
  have hv9 : hV τ1 (11, 12) = false := (is.2.1 2 (by decide) (by decide)).2 rfl
  refine j_newa (pc := 15) C (k' := 2) (n' := 80) (rm0 := ({ frames := 1, cells := 24, slots := 1206, locals := 12 } : Room)) (11, 12) Q.1 wm_121 rfl (Or.inl ⟨rfl, rfl⟩) hv9 (M := 64) rfl (by decide) dX10_init_15 ⟨by decide, by decide⟩ rfl rfl (fun q2 => ?_)
  show J X 2 80 (sNew τ1 (11, 12) q2 64) [(0, .ref a)] [.ref q2, .ref a] 17
  refine j_putR (pc := 17) C (11, 12) (At.new (σ := τ1) (t := (11, 12)) (q := q2) (n := 64)).2 (Or.inl (At.new (σ := τ1) (t := (11, 12)) (q := q2) (n := 64)).1) fp_X10_13 (is.1.ext (Ext.new hv9)) rfl rfl (Or.inr ⟨rfl, hinit rfl⟩) rfl (by decide) (f := 642) rfl dX10_init_17 ?_
  have is : IB _ a σ (sR (sNew τ1 (11, 12) q2 64) 642 0 0 (some (11, 12))) := is.step (s := 2) (by decide) (by decide) rfl q2
  generalize sR (sNew τ1 (11, 12) q2 64) 642 0 0 (some (11, 12)) = τ2 at is ⊢
  show J X 2 80 τ2 [(0, .ref a)] [] 20
  refine j_aload_n (pc := 20) C dX10_init_20 rfl 0 rfl ?_
  refine j_bipush (pc := 21) C (nI 12) dX10_init_21 (by decide) ?_
  have hv9 : hV τ2 (11, 14) = false := (is.2.1 4 (by decide) (by decide)).2 rfl
  refine j_newa (pc := 23) C (k' := 3) (n' := 92) (rm0 := ({ frames := 1, cells := 24, slots := 1206, locals := 12 } : Room)) (11, 14) Q.1 wm_121 rfl (Or.inl ⟨rfl, rfl⟩) hv9 (M := 12) rfl (by decide) dX10_init_23 ⟨by decide, by decide⟩ rfl rfl (fun q3 => ?_)
  show J X 3 92 (sNew τ2 (11, 14) q3 12) [(0, .ref a)] [.ref q3, .ref a] 25
  refine j_putR (pc := 25) C (11, 14) (At.new (σ := τ2) (t := (11, 14)) (q := q3) (n := 12)).2 (Or.inl (At.new (σ := τ2) (t := (11, 14)) (q := q3) (n := 12)).1) fp_X10_16 (is.1.ext (Ext.new hv9)) rfl rfl (Or.inr ⟨rfl, hinit rfl⟩) rfl (by decide) (f := 644) rfl dX10_init_25 ?_
  have is : IB _ a σ (sR (sNew τ2 (11, 14) q3 12) 644 0 0 (some (11, 14))) := is.step (s := 4) (by decide) (by decide) rfl q3
  generalize sR (sNew τ2 (11, 14) q3 12) 644 0 0 (some (11, 14)) = τ3 at is ⊢
  show J X 3 92 τ3 [(0, .ref a)] [] 28
  refine j_aload_n (pc := 28) C dX10_init_28 rfl 0 rfl ?_
  refine j_bipush (pc := 29) C (nI 12) dX10_init_29 (by decide) ?_
  have hv9 : hV τ3 (11, 15) = false := (is.2.1 5 (by decide) (by decide)).2 rfl
  refine j_newa (pc := 31) C (k' := 4) (n' := 104) (rm0 := ({ frames := 1, cells := 24, slots := 1206, locals := 12 } : Room)) (11, 15) Q.1 wm_121 rfl (Or.inl ⟨rfl, rfl⟩) hv9 (M := 12) rfl (by decide) dX10_init_31 ⟨by decide, by decide⟩ rfl rfl (fun q4 => ?_)
  show J X 4 104 (sNew τ3 (11, 15) q4 12) [(0, .ref a)] [.ref q4, .ref a] 33
  refine j_putR (pc := 33) C (11, 15) (At.new (σ := τ3) (t := (11, 15)) (q := q4) (n := 12)).2 (Or.inl (At.new (σ := τ3) (t := (11, 15)) (q := q4) (n := 12)).1) fp_X10_19 (is.1.ext (Ext.new hv9)) rfl rfl (Or.inr ⟨rfl, hinit rfl⟩) rfl (by decide) (f := 645) rfl dX10_init_33 ?_
  have is : IB _ a σ (sR (sNew τ3 (11, 15) q4 12) 645 0 0 (some (11, 15))) := is.step (s := 5) (by decide) (by decide) rfl q4
  generalize sR (sNew τ3 (11, 15) q4 12) 645 0 0 (some (11, 15)) = τ4 at is ⊢
  show J X 4 104 τ4 [(0, .ref a)] [] 36
  refine j_aload_n (pc := 36) C dX10_init_36 rfl 0 rfl ?_
  refine j_bipush (pc := 37) C (nI 16) dX10_init_37 (by decide) ?_
  have hv9 : hV τ4 (12, 408) = false := (is.2.1 8 (by decide) (by decide)).2 rfl
  refine j_newa (pc := 39) C (k' := 5) (n' := 120) (rm0 := ({ frames := 1, cells := 24, slots := 1206, locals := 12 } : Room)) (12, 408) Q.1 wm_170 rfl (Or.inr (Or.inl ⟨rfl, rfl⟩)) hv9 (M := 16) rfl (by decide) dX10_init_39 ⟨by decide, by decide⟩ rfl rfl (fun q5 => ?_)
  show J X 5 120 (sNew τ4 (12, 408) q5 16) [(0, .ref a)] [.ref q5, .ref a] 41
  refine j_putR (pc := 41) C (12, 408) (At.new (σ := τ4) (t := (12, 408)) (q := q5) (n := 16)).2 (Or.inl (At.new (σ := τ4) (t := (12, 408)) (q := q5) (n := 16)).1) fp_X10_22 (is.1.ext (Ext.new hv9)) rfl rfl (Or.inr ⟨rfl, hinit rfl⟩) rfl (by decide) (f := 648) rfl dX10_init_41 ?_
  have is : IB _ a σ (sR (sNew τ4 (12, 408) q5 16) 648 0 0 (some (12, 408))) := is.step (s := 8) (by decide) (by decide) rfl q5
  generalize sR (sNew τ4 (12, 408) q5 16) 648 0 0 (some (12, 408)) = τ5 at is ⊢
  show J X 5 120 τ5 [(0, .ref a)] [] 44
  refine j_aload_n (pc := 44) C dX10_init_44 rfl 0 rfl ?_
  refine j_bipush (pc := 45) C (nI 16) dX10_init_45 (by decide) ?_
  have hv9 : hV τ5 (13, 9) = false := (is.2.1 9 (by decide) (by decide)).2 rfl
  refine j_newa (pc := 47) C (k' := 6) (n' := 136) (rm0 := ({ frames := 1, cells := 24, slots := 1206, locals := 12 } : Room)) (13, 9) Q.1 wm_1144 rfl (Or.inr (Or.inr ⟨rfl, rfl⟩)) hv9 (M := 16) rfl (by decide) dX10_init_47 ⟨by decide, by decide⟩ rfl rfl (fun q6 => ?_)
  show J X 6 136 (sNew τ5 (13, 9) q6 16) [(0, .ref a)] [.ref q6, .ref a] 49
  refine j_putR (pc := 49) C (13, 9) (At.new (σ := τ5) (t := (13, 9)) (q := q6) (n := 16)).2 (Or.inl (At.new (σ := τ5) (t := (13, 9)) (q := q6) (n := 16)).1) fp_X10_26 (is.1.ext (Ext.new hv9)) rfl rfl (Or.inr ⟨rfl, hinit rfl⟩) rfl (by decide) (f := 649) rfl dX10_init_49 ?_
  have is : IB _ a σ (sR (sNew τ5 (13, 9) q6 16) 649 0 0 (some (13, 9))) := is.step (s := 9) (by decide) (by decide) rfl q6
  generalize sR (sNew τ5 (13, 9) q6 16) 649 0 0 (some (13, 9)) = τ6 at is ⊢
  show J X 6 136 τ6 [(0, .ref a)] [] 52
  refine j_aload_n (pc := 52) C dX10_init_52 rfl 0 rfl ?_
  refine j_bipush (pc := 53) C (nI 8) dX10_init_53 (by decide) ?_
  have hv9 : hV τ6 (12, 411) = false := (is.2.1 11 (by decide) (by decide)).2 rfl
  refine j_newa (pc := 55) C (k' := 7) (n' := 144) (rm0 := ({ frames := 1, cells := 24, slots := 1206, locals := 12 } : Room)) (12, 411) Q.1 wm_170 rfl (Or.inr (Or.inl ⟨rfl, rfl⟩)) hv9 (M := 8) rfl (by decide) dX10_init_55 ⟨by decide, by decide⟩ rfl rfl (fun q7 => ?_)
  show J X 7 144 (sNew τ6 (12, 411) q7 8) [(0, .ref a)] [.ref q7, .ref a] 57
  refine j_putR (pc := 57) C (12, 411) (At.new (σ := τ6) (t := (12, 411)) (q := q7) (n := 8)).2 (Or.inl (At.new (σ := τ6) (t := (12, 411)) (q := q7) (n := 8)).1) fp_X10_30 (is.1.ext (Ext.new hv9)) rfl rfl (Or.inr ⟨rfl, hinit rfl⟩) rfl (by decide) (f := 651) rfl dX10_init_57 ?_
  have is : IB _ a σ (sR (sNew τ6 (12, 411) q7 8) 651 0 0 (some (12, 411))) := is.step (s := 11) (by decide) (by decide) rfl q7
  generalize sR (sNew τ6 (12, 411) q7 8) 651 0 0 (some (12, 411)) = τ7 at is ⊢
  show J X 7 144 τ7 [(0, .ref a)] [] 60
  refine j_aload_n (pc := 60) C dX10_init_60 rfl 0 rfl ?_
  refine j_sipush (pc := 61) C (nI 128) dX10_init_61 (by decide) ?_
  have hv9 : hV τ7 (12, 412) = false := (is.2.1 12 (by decide) (by decide)).2 rfl
  refine j_newa (pc := 64) C (k' := 8) (n' := 272) (rm0 := ({ frames := 1, cells := 24, slots := 1206, locals := 12 } : Room)) (12, 412) Q.1 wm_170 rfl (Or.inr (Or.inl ⟨rfl, rfl⟩)) hv9 (M := 128) rfl (by decide) dX10_init_64 ⟨by decide, by decide⟩ rfl rfl (fun q8 => ?_)
  show J X 8 272 (sNew τ7 (12, 412) q8 128) [(0, .ref a)] [.ref q8, .ref a] 66
  refine j_putR (pc := 66) C (12, 412) (At.new (σ := τ7) (t := (12, 412)) (q := q8) (n := 128)).2 (Or.inl (At.new (σ := τ7) (t := (12, 412)) (q := q8) (n := 128)).1) fp_X10_33 (is.1.ext (Ext.new hv9)) rfl rfl (Or.inr ⟨rfl, hinit rfl⟩) rfl (by decide) (f := 652) rfl dX10_init_66 ?_
  have is : IB _ a σ (sR (sNew τ7 (12, 412) q8 128) 652 0 0 (some (12, 412))) := is.step (s := 12) (by decide) (by decide) rfl q8
  generalize sR (sNew τ7 (12, 412) q8 128) 652 0 0 (some (12, 412)) = τ8 at is ⊢
  show J X 8 272 τ8 [(0, .ref a)] [] 69
  refine j_aload_n (pc := 69) C dX10_init_69 rfl 0 rfl ?_
  refine j_bipush (pc := 70) C (nI 6) dX10_init_70 (by decide) ?_
  have hv9 : hV τ8 (11, 23) = false := (is.2.1 13 (by decide) (by decide)).2 rfl
  refine j_newa (pc := 72) C (k' := 9) (n' := 278) (rm0 := ({ frames := 1, cells := 24, slots := 1206, locals := 12 } : Room)) (11, 23) Q.1 wm_121 rfl (Or.inl ⟨rfl, rfl⟩) hv9 (M := 6) rfl (by decide) dX10_init_72 ⟨by decide, by decide⟩ rfl rfl (fun q9 => ?_)
  show J X 9 278 (sNew τ8 (11, 23) q9 6) [(0, .ref a)] [.ref q9, .ref a] 74
  refine j_putR (pc := 74) C (11, 23) (At.new (σ := τ8) (t := (11, 23)) (q := q9) (n := 6)).2 (Or.inl (At.new (σ := τ8) (t := (11, 23)) (q := q9) (n := 6)).1) fp_X10_36 (is.1.ext (Ext.new hv9)) rfl rfl (Or.inr ⟨rfl, hinit rfl⟩) rfl (by decide) (f := 653) rfl dX10_init_74 ?_
  have is : IB _ a σ (sR (sNew τ8 (11, 23) q9 6) 653 0 0 (some (11, 23))) := is.step (s := 13) (by decide) (by decide) rfl q9
  generalize sR (sNew τ8 (11, 23) q9 6) 653 0 0 (some (11, 23)) = τ9 at is ⊢
  show J X 9 278 τ9 [(0, .ref a)] [] 77
  refine j_aload_n (pc := 77) C dX10_init_77 rfl 0 rfl ?_
  refine j_bipush (pc := 78) C (nI 6) dX10_init_78 (by decide) ?_
  have hv9 : hV τ9 (11, 24) = false := (is.2.1 14 (by decide) (by decide)).2 rfl
  refine j_newa (pc := 80) C (k' := 10) (n' := 284) (rm0 := ({ frames := 1, cells := 24, slots := 1206, locals := 12 } : Room)) (11, 24) Q.1 wm_121 rfl (Or.inl ⟨rfl, rfl⟩) hv9 (M := 6) rfl (by decide) dX10_init_80 ⟨by decide, by decide⟩ rfl rfl (fun q10 => ?_)
  show J X 10 284 (sNew τ9 (11, 24) q10 6) [(0, .ref a)] [.ref q10, .ref a] 82
  refine j_putR (pc := 82) C (11, 24) (At.new (σ := τ9) (t := (11, 24)) (q := q10) (n := 6)).2 (Or.inl (At.new (σ := τ9) (t := (11, 24)) (q := q10) (n := 6)).1) fp_X10_39 (is.1.ext (Ext.new hv9)) rfl rfl (Or.inr ⟨rfl, hinit rfl⟩) rfl (by decide) (f := 654) rfl dX10_init_82 ?_
  have is : IB _ a σ (sR (sNew τ9 (11, 24) q10 6) 654 0 0 (some (11, 24))) := is.step (s := 14) (by decide) (by decide) rfl q10
  generalize sR (sNew τ9 (11, 24) q10 6) 654 0 0 (some (11, 24)) = τ10 at is ⊢
  show J X 10 284 τ10 [(0, .ref a)] [] 85
  refine j_aload_n (pc := 85) C dX10_init_85 rfl 0 rfl ?_
  refine j_bipush (pc := 86) C (nI 6) dX10_init_86 (by decide) ?_
  have hv9 : hV τ10 (11, 25) = false := (is.2.1 15 (by decide) (by decide)).2 rfl
  refine j_newa (pc := 88) C (k' := 11) (n' := 290) (rm0 := ({ frames := 1, cells := 24, slots := 1206, locals := 12 } : Room)) (11, 25) Q.1 wm_121 rfl (Or.inl ⟨rfl, rfl⟩) hv9 (M := 6) rfl (by decide) dX10_init_88 ⟨by decide, by decide⟩ rfl rfl (fun q11 => ?_)
  show J X 11 290 (sNew τ10 (11, 25) q11 6) [(0, .ref a)] [.ref q11, .ref a] 90
  refine j_putR (pc := 90) C (11, 25) (At.new (σ := τ10) (t := (11, 25)) (q := q11) (n := 6)).2 (Or.inl (At.new (σ := τ10) (t := (11, 25)) (q := q11) (n := 6)).1) fp_X10_42 (is.1.ext (Ext.new hv9)) rfl rfl (Or.inr ⟨rfl, hinit rfl⟩) rfl (by decide) (f := 655) rfl dX10_init_90 ?_
  have is : IB _ a σ (sR (sNew τ10 (11, 25) q11 6) 655 0 0 (some (11, 25))) := is.step (s := 15) (by decide) (by decide) rfl q11
  generalize sR (sNew τ10 (11, 25) q11 6) 655 0 0 (some (11, 25)) = τ11 at is ⊢
  show J X 11 290 τ11 [(0, .ref a)] [] 93
  refine j_aload_n (pc := 93) C dX10_init_93 rfl 0 rfl ?_
  refine j_bipush (pc := 94) C (nI 6) dX10_init_94 (by decide) ?_
  have hv9 : hV τ11 (11, 26) = false := (is.2.1 16 (by decide) (by decide)).2 rfl
  refine j_newa (pc := 96) C (k' := 12) (n' := 296) (rm0 := ({ frames := 1, cells := 24, slots := 1206, locals := 12 } : Room)) (11, 26) Q.1 wm_121 rfl (Or.inl ⟨rfl, rfl⟩) hv9 (M := 6) rfl (by decide) dX10_init_96 ⟨by decide, by decide⟩ rfl rfl (fun q12 => ?_)
  show J X 12 296 (sNew τ11 (11, 26) q12 6) [(0, .ref a)] [.ref q12, .ref a] 98
  refine j_putR (pc := 98) C (11, 26) (At.new (σ := τ11) (t := (11, 26)) (q := q12) (n := 6)).2 (Or.inl (At.new (σ := τ11) (t := (11, 26)) (q := q12) (n := 6)).1) fp_X10_45 (is.1.ext (Ext.new hv9)) rfl rfl (Or.inr ⟨rfl, hinit rfl⟩) rfl (by decide) (f := 656) rfl dX10_init_98 ?_
  have is : IB _ a σ (sR (sNew τ11 (11, 26) q12 6) 656 0 0 (some (11, 26))) := is.step (s := 16) (by decide) (by decide) rfl q12
  generalize sR (sNew τ11 (11, 26) q12 6) 656 0 0 (some (11, 26)) = τ12 at is ⊢
  show J X 12 296 τ12 [(0, .ref a)] [] 101
  refine j_aload_n (pc := 101) C dX10_init_101 rfl 0 rfl ?_
  refine j_bipush (pc := 102) C (nI 6) dX10_init_102 (by decide) ?_
  have hv9 : hV τ12 (11, 27) = false := (is.2.1 17 (by decide) (by decide)).2 rfl
  refine j_newa (pc := 104) C (k' := 13) (n' := 302) (rm0 := ({ frames := 1, cells := 24, slots := 1206, locals := 12 } : Room)) (11, 27) Q.1 wm_121 rfl (Or.inl ⟨rfl, rfl⟩) hv9 (M := 6) rfl (by decide) dX10_init_104 ⟨by decide, by decide⟩ rfl rfl (fun q13 => ?_)
  show J X 13 302 (sNew τ12 (11, 27) q13 6) [(0, .ref a)] [.ref q13, .ref a] 106
  refine j_putR (pc := 106) C (11, 27) (At.new (σ := τ12) (t := (11, 27)) (q := q13) (n := 6)).2 (Or.inl (At.new (σ := τ12) (t := (11, 27)) (q := q13) (n := 6)).1) fp_X10_48 (is.1.ext (Ext.new hv9)) rfl rfl (Or.inr ⟨rfl, hinit rfl⟩) rfl (by decide) (f := 657) rfl dX10_init_106 ?_
  have is : IB _ a σ (sR (sNew τ12 (11, 27) q13 6) 657 0 0 (some (11, 27))) := is.step (s := 17) (by decide) (by decide) rfl q13
  generalize sR (sNew τ12 (11, 27) q13 6) 657 0 0 (some (11, 27)) = τ13 at is ⊢
  show J X 13 302 τ13 [(0, .ref a)] [] 109
  refine j_aload_n (pc := 109) C dX10_init_109 rfl 0 rfl ?_
  refine j_bipush (pc := 110) C (nI 40) dX10_init_110 (by decide) ?_
  have hv9 : hV τ13 (11, 31) = false := (is.2.1 21 (by decide) (by decide)).2 rfl
  refine j_newa (pc := 112) C (k' := 14) (n' := 342) (rm0 := ({ frames := 1, cells := 24, slots := 1206, locals := 12 } : Room)) (11, 31) Q.1 wm_121 rfl (Or.inl ⟨rfl, rfl⟩) hv9 (M := 40) rfl (by decide) dX10_init_112 ⟨by decide, by decide⟩ rfl rfl (fun q14 => ?_)
  show J X 14 342 (sNew τ13 (11, 31) q14 40) [(0, .ref a)] [.ref q14, .ref a] 114
  refine j_putR (pc := 114) C (11, 31) (At.new (σ := τ13) (t := (11, 31)) (q := q14) (n := 40)).2 (Or.inl (At.new (σ := τ13) (t := (11, 31)) (q := q14) (n := 40)).1) fp_X10_51 (is.1.ext (Ext.new hv9)) rfl rfl (Or.inr ⟨rfl, hinit rfl⟩) rfl (by decide) (f := 661) rfl dX10_init_114 ?_
  have is : IB _ a σ (sR (sNew τ13 (11, 31) q14 40) 661 0 0 (some (11, 31))) := is.step (s := 21) (by decide) (by decide) rfl q14
  generalize sR (sNew τ13 (11, 31) q14 40) 661 0 0 (some (11, 31)) = τ14 at is ⊢
  show J X 14 342 τ14 [(0, .ref a)] [] 117
  refine j_aload_n (pc := 117) C dX10_init_117 rfl 0 rfl ?_
  refine j_bipush (pc := 118) C (nI 40) dX10_init_118 (by decide) ?_
  have hv9 : hV τ14 (11, 32) = false := (is.2.1 22 (by decide) (by decide)).2 rfl
  refine j_newa (pc := 120) C (k' := 15) (n' := 382) (rm0 := ({ frames := 1, cells := 24, slots := 1206, locals := 12 } : Room)) (11, 32) Q.1 wm_121 rfl (Or.inl ⟨rfl, rfl⟩) hv9 (M := 40) rfl (by decide) dX10_init_120 ⟨by decide, by decide⟩ rfl rfl (fun q15 => ?_)
  show J X 15 382 (sNew τ14 (11, 32) q15 40) [(0, .ref a)] [.ref q15, .ref a] 122
  refine j_putR (pc := 122) C (11, 32) (At.new (σ := τ14) (t := (11, 32)) (q := q15) (n := 40)).2 (Or.inl (At.new (σ := τ14) (t := (11, 32)) (q := q15) (n := 40)).1) fp_X10_54 (is.1.ext (Ext.new hv9)) rfl rfl (Or.inr ⟨rfl, hinit rfl⟩) rfl (by decide) (f := 662) rfl dX10_init_122 ?_
  have is : IB _ a σ (sR (sNew τ14 (11, 32) q15 40) 662 0 0 (some (11, 32))) := is.step (s := 22) (by decide) (by decide) rfl q15
  generalize sR (sNew τ14 (11, 32) q15 40) 662 0 0 (some (11, 32)) = τ15 at is ⊢
  show J X 15 382 τ15 [(0, .ref a)] [] 125
  refine j_aload_n (pc := 125) C dX10_init_125 rfl 0 rfl ?_
  refine j_bipush (pc := 126) C (nI 40) dX10_init_126 (by decide) ?_
  have hv9 : hV τ15 (11, 33) = false := (is.2.1 23 (by decide) (by decide)).2 rfl
  refine j_newa (pc := 128) C (k' := 16) (n' := 422) (rm0 := ({ frames := 1, cells := 24, slots := 1206, locals := 12 } : Room)) (11, 33) Q.1 wm_121 rfl (Or.inl ⟨rfl, rfl⟩) hv9 (M := 40) rfl (by decide) dX10_init_128 ⟨by decide, by decide⟩ rfl rfl (fun q16 => ?_)
  show J X 16 422 (sNew τ15 (11, 33) q16 40) [(0, .ref a)] [.ref q16, .ref a] 130
  refine j_putR (pc := 130) C (11, 33) (At.new (σ := τ15) (t := (11, 33)) (q := q16) (n := 40)).2 (Or.inl (At.new (σ := τ15) (t := (11, 33)) (q := q16) (n := 40)).1) fp_X10_57 (is.1.ext (Ext.new hv9)) rfl rfl (Or.inr ⟨rfl, hinit rfl⟩) rfl (by decide) (f := 663) rfl dX10_init_130 ?_
  have is : IB _ a σ (sR (sNew τ15 (11, 33) q16 40) 663 0 0 (some (11, 33))) := is.step (s := 23) (by decide) (by decide) rfl q16
  generalize sR (sNew τ15 (11, 33) q16 40) 663 0 0 (some (11, 33)) = τ16 at is ⊢
  show J X 16 422 τ16 [(0, .ref a)] [] 133
  refine j_aload_n (pc := 133) C dX10_init_133 rfl 0 rfl ?_
  refine j_bipush (pc := 134) C (nI 40) dX10_init_134 (by decide) ?_
  have hv9 : hV τ16 (12, 424) = false := (is.2.1 24 (by decide) (by decide)).2 rfl
  refine j_newa (pc := 136) C (k' := 17) (n' := 462) (rm0 := ({ frames := 1, cells := 24, slots := 1206, locals := 12 } : Room)) (12, 424) Q.1 wm_170 rfl (Or.inr (Or.inl ⟨rfl, rfl⟩)) hv9 (M := 40) rfl (by decide) dX10_init_136 ⟨by decide, by decide⟩ rfl rfl (fun q17 => ?_)
  show J X 17 462 (sNew τ16 (12, 424) q17 40) [(0, .ref a)] [.ref q17, .ref a] 138
  refine j_putR (pc := 138) C (12, 424) (At.new (σ := τ16) (t := (12, 424)) (q := q17) (n := 40)).2 (Or.inl (At.new (σ := τ16) (t := (12, 424)) (q := q17) (n := 40)).1) fp_X10_60 (is.1.ext (Ext.new hv9)) rfl rfl (Or.inr ⟨rfl, hinit rfl⟩) rfl (by decide) (f := 664) rfl dX10_init_138 ?_
  have is : IB _ a σ (sR (sNew τ16 (12, 424) q17 40) 664 0 0 (some (12, 424))) := is.step (s := 24) (by decide) (by decide) rfl q17
  generalize sR (sNew τ16 (12, 424) q17 40) 664 0 0 (some (12, 424)) = τ17 at is ⊢
  show J X 17 462 τ17 [(0, .ref a)] [] 141
  refine j_aload_n (pc := 141) C dX10_init_141 rfl 0 rfl ?_
  refine j_bipush (pc := 142) C (nI 40) dX10_init_142 (by decide) ?_
  have hv9 : hV τ17 (13, 25) = false := (is.2.1 25 (by decide) (by decide)).2 rfl
  refine j_newa (pc := 144) C (k' := 18) (n' := 502) (rm0 := ({ frames := 1, cells := 24, slots := 1206, locals := 12 } : Room)) (13, 25) Q.1 wm_1144 rfl (Or.inr (Or.inr ⟨rfl, rfl⟩)) hv9 (M := 40) rfl (by decide) dX10_init_144 ⟨by decide, by decide⟩ rfl rfl (fun q18 => ?_)
  show J X 18 502 (sNew τ17 (13, 25) q18 40) [(0, .ref a)] [.ref q18, .ref a] 146
  refine j_putR (pc := 146) C (13, 25) (At.new (σ := τ17) (t := (13, 25)) (q := q18) (n := 40)).2 (Or.inl (At.new (σ := τ17) (t := (13, 25)) (q := q18) (n := 40)).1) fp_X10_63 (is.1.ext (Ext.new hv9)) rfl rfl (Or.inr ⟨rfl, hinit rfl⟩) rfl (by decide) (f := 665) rfl dX10_init_146 ?_
  have is : IB _ a σ (sR (sNew τ17 (13, 25) q18 40) 665 0 0 (some (13, 25))) := is.step (s := 25) (by decide) (by decide) rfl q18
  generalize sR (sNew τ17 (13, 25) q18 40) 665 0 0 (some (13, 25)) = τ18 at is ⊢
  show J X 18 502 τ18 [(0, .ref a)] [] 149
  refine j_aload_n (pc := 149) C dX10_init_149 rfl 0 rfl ?_
  refine j_bipush (pc := 150) C (nI 32) dX10_init_150 (by decide) ?_
  have hv9 : hV τ18 (13, 27) = false := (is.2.1 27 (by decide) (by decide)).2 rfl
  refine j_newa (pc := 152) C (k' := 19) (n' := 534) (rm0 := ({ frames := 1, cells := 24, slots := 1206, locals := 12 } : Room)) (13, 27) Q.1 wm_1144 rfl (Or.inr (Or.inr ⟨rfl, rfl⟩)) hv9 (M := 32) rfl (by decide) dX10_init_152 ⟨by decide, by decide⟩ rfl rfl (fun q19 => ?_)
  show J X 19 534 (sNew τ18 (13, 27) q19 32) [(0, .ref a)] [.ref q19, .ref a] 154
  refine j_putR (pc := 154) C (13, 27) (At.new (σ := τ18) (t := (13, 27)) (q := q19) (n := 32)).2 (Or.inl (At.new (σ := τ18) (t := (13, 27)) (q := q19) (n := 32)).1) fp_X10_66 (is.1.ext (Ext.new hv9)) rfl rfl (Or.inr ⟨rfl, hinit rfl⟩) rfl (by decide) (f := 667) rfl dX10_init_154 ?_
  have is : IB _ a σ (sR (sNew τ18 (13, 27) q19 32) 667 0 0 (some (13, 27))) := is.step (s := 27) (by decide) (by decide) rfl q19
  generalize sR (sNew τ18 (13, 27) q19 32) 667 0 0 (some (13, 27)) = τ19 at is ⊢
  show J X 19 534 τ19 [(0, .ref a)] [] 157
  refine j_aload_n (pc := 157) C dX10_init_157 rfl 0 rfl ?_
  refine j_bipush (pc := 158) C (nI 32) dX10_init_158 (by decide) ?_
  have hv9 : hV τ19 (11, 38) = false := (is.2.1 28 (by decide) (by decide)).2 rfl
  refine j_newa (pc := 160) C (k' := 20) (n' := 566) (rm0 := ({ frames := 1, cells := 24, slots := 1206, locals := 12 } : Room)) (11, 38) Q.1 wm_121 rfl (Or.inl ⟨rfl, rfl⟩) hv9 (M := 32) rfl (by decide) dX10_init_160 ⟨by decide, by decide⟩ rfl rfl (fun q20 => ?_)
  show J X 20 566 (sNew τ19 (11, 38) q20 32) [(0, .ref a)] [.ref q20, .ref a] 162
  refine j_putR (pc := 162) C (11, 38) (At.new (σ := τ19) (t := (11, 38)) (q := q20) (n := 32)).2 (Or.inl (At.new (σ := τ19) (t := (11, 38)) (q := q20) (n := 32)).1) fp_X10_69 (is.1.ext (Ext.new hv9)) rfl rfl (Or.inr ⟨rfl, hinit rfl⟩) rfl (by decide) (f := 668) rfl dX10_init_162 ?_
  have is : IB _ a σ (sR (sNew τ19 (11, 38) q20 32) 668 0 0 (some (11, 38))) := is.step (s := 28) (by decide) (by decide) rfl q20
  generalize sR (sNew τ19 (11, 38) q20 32) 668 0 0 (some (11, 38)) = τ20 at is ⊢
  show J X 20 566 τ20 [(0, .ref a)] [] 165
  refine j_aload_n (pc := 165) C dX10_init_165 rfl 0 rfl ?_
  refine j_bipush (pc := 166) C (nI 32) dX10_init_166 (by decide) ?_
  have hv9 : hV τ20 (11, 39) = false := (is.2.1 29 (by decide) (by decide)).2 rfl
  refine j_newa (pc := 168) C (k' := 21) (n' := 598) (rm0 := ({ frames := 1, cells := 24, slots := 1206, locals := 12 } : Room)) (11, 39) Q.1 wm_121 rfl (Or.inl ⟨rfl, rfl⟩) hv9 (M := 32) rfl (by decide) dX10_init_168 ⟨by decide, by decide⟩ rfl rfl (fun q21 => ?_)
  show J X 21 598 (sNew τ20 (11, 39) q21 32) [(0, .ref a)] [.ref q21, .ref a] 170
  refine j_putR (pc := 170) C (11, 39) (At.new (σ := τ20) (t := (11, 39)) (q := q21) (n := 32)).2 (Or.inl (At.new (σ := τ20) (t := (11, 39)) (q := q21) (n := 32)).1) fp_X10_72 (is.1.ext (Ext.new hv9)) rfl rfl (Or.inr ⟨rfl, hinit rfl⟩) rfl (by decide) (f := 669) rfl dX10_init_170 ?_
  have is : IB _ a σ (sR (sNew τ20 (11, 39) q21 32) 669 0 0 (some (11, 39))) := is.step (s := 29) (by decide) (by decide) rfl q21
  generalize sR (sNew τ20 (11, 39) q21 32) 669 0 0 (some (11, 39)) = τ21 at is ⊢
  show J X 21 598 τ21 [(0, .ref a)] [] 173
  refine j_aload_n (pc := 173) C dX10_init_173 rfl 0 rfl ?_
  refine j_bipush (pc := 174) C (nI 32) dX10_init_174 (by decide) ?_
  have hv9 : hV τ21 (12, 430) = false := (is.2.1 30 (by decide) (by decide)).2 rfl
  refine j_newa (pc := 176) C (k' := 22) (n' := 630) (rm0 := ({ frames := 1, cells := 24, slots := 1206, locals := 12 } : Room)) (12, 430) Q.1 wm_170 rfl (Or.inr (Or.inl ⟨rfl, rfl⟩)) hv9 (M := 32) rfl (by decide) dX10_init_176 ⟨by decide, by decide⟩ rfl rfl (fun q22 => ?_)
  show J X 22 630 (sNew τ21 (12, 430) q22 32) [(0, .ref a)] [.ref q22, .ref a] 178
  refine j_putR (pc := 178) C (12, 430) (At.new (σ := τ21) (t := (12, 430)) (q := q22) (n := 32)).2 (Or.inl (At.new (σ := τ21) (t := (12, 430)) (q := q22) (n := 32)).1) fp_X10_75 (is.1.ext (Ext.new hv9)) rfl rfl (Or.inr ⟨rfl, hinit rfl⟩) rfl (by decide) (f := 670) rfl dX10_init_178 ?_
  have is : IB _ a σ (sR (sNew τ21 (12, 430) q22 32) 670 0 0 (some (12, 430))) := is.step (s := 30) (by decide) (by decide) rfl q22
  generalize sR (sNew τ21 (12, 430) q22 32) 670 0 0 (some (12, 430)) = τ22 at is ⊢
  show J X 22 630 τ22 [(0, .ref a)] [] 181
  refine j_aload_n (pc := 181) C dX10_init_181 rfl 0 rfl ?_
  refine j_sipush (pc := 182) C (nI 512) dX10_init_182 (by decide) ?_
  have hv9 : hV τ22 (12, 431) = false := (is.2.1 31 (by decide) (by decide)).2 rfl
  refine j_newa (pc := 185) C (k' := 23) (n' := 1142) (rm0 := ({ frames := 1, cells := 24, slots := 1206, locals := 12 } : Room)) (12, 431) Q.1 wm_170 rfl (Or.inr (Or.inl ⟨rfl, rfl⟩)) hv9 (M := 512) rfl (by decide) dX10_init_185 ⟨by decide, by decide⟩ rfl rfl (fun q23 => ?_)
  show J X 23 1142 (sNew τ22 (12, 431) q23 512) [(0, .ref a)] [.ref q23, .ref a] 187
  refine j_putR (pc := 187) C (12, 431) (At.new (σ := τ22) (t := (12, 431)) (q := q23) (n := 512)).2 (Or.inl (At.new (σ := τ22) (t := (12, 431)) (q := q23) (n := 512)).1) fp_X10_78 (is.1.ext (Ext.new hv9)) rfl rfl (Or.inr ⟨rfl, hinit rfl⟩) rfl (by decide) (f := 671) rfl dX10_init_187 ?_
  have is : IB _ a σ (sR (sNew τ22 (12, 431) q23 512) 671 0 0 (some (12, 431))) := is.step (s := 31) (by decide) (by decide) rfl q23
  generalize sR (sNew τ22 (12, 431) q23 512) 671 0 0 (some (12, 431)) = τ23 at is ⊢
  show J X 23 1142 τ23 [(0, .ref a)] [] 190
  refine j_aload_n (pc := 190) C dX10_init_190 rfl 0 rfl ?_
  refine j_bipush (pc := 191) C (nI 64) dX10_init_191 (by decide) ?_
  have hv9 : hV τ23 (12, 433) = false := (is.2.1 33 (by decide) (by decide)).2 rfl
  refine j_newa (pc := 193) C (k' := 24) (n' := 1206) (rm0 := ({ frames := 1, cells := 24, slots := 1206, locals := 12 } : Room)) (12, 433) Q.1 wm_170 rfl (Or.inr (Or.inl ⟨rfl, rfl⟩)) hv9 (M := 64) rfl (by decide) dX10_init_193 ⟨by decide, by decide⟩ rfl rfl (fun q24 => ?_)
  show J X 24 1206 (sNew τ23 (12, 433) q24 64) [(0, .ref a)] [.ref q24, .ref a] 195
  refine j_putR (pc := 195) C (12, 433) (At.new (σ := τ23) (t := (12, 433)) (q := q24) (n := 64)).2 (Or.inl (At.new (σ := τ23) (t := (12, 433)) (q := q24) (n := 64)).1) fp_X10_81 (is.1.ext (Ext.new hv9)) rfl rfl (Or.inr ⟨rfl, hinit rfl⟩) rfl (by decide) (f := 673) rfl dX10_init_195 ?_
  have is : IB _ a σ (sR (sNew τ23 (12, 433) q24 64) 673 0 0 (some (12, 433))) := is.step (s := 33) (by decide) (by decide) rfl q24
  generalize sR (sNew τ23 (12, 433) q24 64) 673 0 0 (some (12, 433)) = τ24 at is ⊢
  show J X 24 1206 τ24 [(0, .ref a)] [] 198
  have hs := is.done (by decide +kernel)
  have hsm := is.2.2.2
  have hx0 : xof a τ24 0 = a := rfl
  clear is
  generalize xof a τ24 = x9 at hs hx0
  subst hx0
  have hme : ME τ24 τ24 := ME.rf
  have hs : RS (S9 0 0) x9 (nI 0) τ24 := hs
  refine j_iconst (pc := 198) C (nI 0) dX10_init_198 (by decide) ?_
  refine j_istore_n (pc := 199) C [(1, .int (nI 0)), (0, .ref (x9 0))] dX10_init_199 rfl (by decide) rfl ?_
  have loop : ∀ (f : Nat) (k : Nat) (σ9 : HS), (k ≤ 64) → (64 < k + f) → RS (S9 k 0) x9 (nI 0) σ9 → ME τ24 σ9 → J X 24 1206 σ9 [(1, .int (nI k)), (0, .ref (x9 0))] [] 200 := by
    clear hs hme
    intro f
    induction f with
    | zero => intro k σ9 h1 h2; exact absurd h2 (by omega)
    | succ f ih =>
      intro k σ9 h1 h2 hs hme
      refine j_iload_n (pc := 200) C dX10_init_200 rfl 0 rfl ?_
      refine j_bipush (pc := 201) C (nI 64) dX10_init_201 (by decide) ?_
      refine jn_icmp_ge (pc := 203) C 219 (a := k) (b := 64) (by omega) (by omega) dX10_init_203 (by decide) (fun c1 => ?_) (fun c1 => ?_)
      · have e : k = 64 := Nat.le_antisymm h1 c1
        rw [e] at hs
        refine j_iconst (pc := 219) C (nI 0) dX10_init_219 (by decide) ?_
        refine j_istore_n (pc := 220) C [(1, .int (nI 0)), (0, .ref (x9 0))] dX10_init_220 rfl (by decide) rfl ?_
        have loop2 : ∀ (g : Nat) (m : Nat) (σ9 : HS), (m ≤ 128) → (128 < m + g) → RS (S9 64 m) x9 (nI 0) σ9 → ME τ24 σ9 → J X 24 1206 σ9 [(1, .int (nI m)), (0, .ref (x9 0))] [] 221 := by
          clear hs hme
          intro g
          induction g with
          | zero => intro m σ9 g1 g2; exact absurd g2 (by omega)
          | succ g ih2 =>
            intro m σ9 g1 g2 hs hme
            refine j_iload_n (pc := 221) C dX10_init_221 rfl 0 rfl ?_
            refine j_sipush (pc := 222) C (nI 128) dX10_init_222 (by decide) ?_
            refine jn_icmp_ge (pc := 225) C 243 (a := m) (b := 128) (by omega) (by omega) dX10_init_225 (by decide) (fun d1 => ?_) (fun d1 => ?_)
            · have e9 : m = 128 := Nat.le_antisymm g1 d1
              rw [e9] at hs
              exact j_vreturn (pc := 243) C Q dX10_init_243 (Nat.le_of_ble_eq_true rfl) (Nat.le_of_ble_eq_true rfl) (⟨rfl, x9, rfl, hs, fun t ht => (hsm t ht).tr (hme.sm ht)⟩)
            · refine j_aload_n (pc := 228) C dX10_init_228 rfl 1 rfl ?_
              refine j_getA (pc := 229) C fp_X10_33 hs.2.1.1 rfl (f := 652) rfl (12, 412) (x9 12) ((hs.2.1.2 12 (by decide) (by decide)).1) ((hs.2.1.2 12 (by decide) (by decide)).2.1) dX10_init_229 ?_
              refine j_iload_n (pc := 232) C dX10_init_232 rfl 0 rfl ?_
              refine j_ldc2 (pc := 233) C (v := -1) dX10_init_233 wm_1040 ?_
              refine j_last (pc := 236) C (p := m) (M := 128) ((hs.2.1.2 12 (by decide) (by decide)).2.1) rfl ((hs.2.1.2 12 (by decide) (by decide)).2.2) (by omega) (by decide) dX10_init_236 ?_
              have hs := hs.wL 768 412 m none (-1) (by decide) (by decide) rfl; have hme := hme.sL (f := 768) (i := 412) (j := m) (v := (-1)) rfl
              generalize sL σ9 768 412 m (-1) = σ1 at hs hme ⊢
              refine j_iinc (pc := 237) C (nI (m + 1)) [(1, .int (nI (m + 1))), (0, .ref (x9 0))] dX10_init_237 0 rfl (nI_add m 1) (by decide) rfl ?_
              refine j_goto (pc := 240) C 221 dX10_init_240 (by decide) ?_
              rw [S9_R] at hs
              exact J.to [0, 1] rfl (ih2 (m + 1) σ1 (by omega) (by omega) hs hme)
        exact J.to [0, 1] rfl (loop2 129 0 _ (Nat.zero_le _) (by omega) hs hme)
      · refine j_aload_n (pc := 206) C dX10_init_206 rfl 1 rfl ?_
        refine j_getA (pc := 207) C fp_X10_13 hs.2.1.1 rfl (f := 642) rfl (11, 12) (x9 2) ((hs.2.1.2 2 (by decide) (by decide)).1) ((hs.2.1.2 2 (by decide) (by decide)).2.1) dX10_init_207 ?_
        refine j_iload_n (pc := 210) C dX10_init_210 rfl 0 rfl ?_
        refine j_iconst (pc := 211) C (-1) dX10_init_211 (by decide) ?_
        refine j_iast (pc := 212) C (p := k) (M := 64) ((hs.2.1.2 2 (by decide) (by decide)).2.1) rfl ((hs.2.1.2 2 (by decide) (by decide)).2.2) (by omega) (by decide) dX10_init_212 ?_
        have hs := hs.wO 704 12 k 0 (-1) (by decide) rfl
        have hme := hme.sI (f := 704) (i := 12) (j := k) (v := (-1)) rfl
        generalize sI σ9 704 12 k (-1) = σ2 at hs hme ⊢
        refine j_iinc (pc := 213) C (nI (k + 1)) [(1, .int (nI (k + 1))), (0, .ref (x9 0))] dX10_init_213 0 rfl (nI_add k 1) (by decide) rfl ?_
        refine j_goto (pc := 216) C 200 dX10_init_216 (by decide) ?_
        rw [S9_N] at hs
        exact J.to [0, 1] rfl (ih (k + 1) σ2 (by omega) (by omega) hs hme)
  exact J.to [0, 1] rfl (loop 65 0 _ (Nat.zero_le _) (by omega) hs hme)
