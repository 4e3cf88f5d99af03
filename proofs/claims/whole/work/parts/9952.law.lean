set_option maxHeartbeats 4000000 in
set_option maxRecDepth 100000 in
theorem lc_10 {X : Cx} {b L : Nat} {ys : Nat → Int32} (K : LC X b L ys) (hst9 : (xl X).stackTraces = false) {i : Nat} (hi : i + 5 ≤ L) (hL : L ≤ 2560) {S : SP} {x9 : Nat → Nat} {a o : Nat} {σ : HS} (hv : LV S x9 a o σ) {k n : Nat} (hk : k + 8 ≤ 601024) (hn : n + 127 ≤ 7293034) (kk : ∀ (S' : SP) (σ' : HS), LV S' x9 a o σ' → J X (k + 8) (n + 127) σ' [(0, .ref b), (1, .ref a), (2, .ref (x9 0)), (3, .ref o), (4, .int (nI i))] [] 1865) : J X k n σ [(0, .ref b), (1, .ref a), (2, .ref (x9 0)), (3, .ref o), (4, .int (nI i))] [] 716 := by
  obtain ⟨hw, hc, ⟨k9, hs⟩, ha0, ho, hN⟩ := hv
  have C := K.1
  have hM0 := hs.2.1.1
  refine j_aload_n (pc := 716) C dL_law_716 rfl 1 rfl ?_
  refine j_aload_n (pc := 717) C dL_law_717 rfl 0 rfl ?_
  refine j_iload (pc := 718) C dL_law_718 4 rfl ?_
  refine j_iconst (pc := 720) C (nI 1) dL_law_720 (by decide) ?_
  refine j_iadd (pc := 721) C dL_law_721 ?_
  refine j_topi (nI (i + 1)) (nI_add i 1) ?_
  refine j_sld (pc := 722) K (i := i + 1) (by omega) hL dL_law_722 ?_
  refine j_aload_n (pc := 723) C dL_law_723 rfl 0 rfl ?_
  refine j_iload (pc := 724) C dL_law_724 4 rfl ?_
  refine j_iconst (pc := 726) C (nI 2) dL_law_726 (by decide) ?_
  refine j_iadd (pc := 727) C dL_law_727 ?_
  refine j_topi (nI (i + 2)) (nI_add i 2) ?_
  refine j_sld (pc := 728) K (i := i + 2) (by omega) hL dL_law_728 ?_
  refine j_aload_n (pc := 729) C dL_law_729 rfl 0 rfl ?_
  refine j_iload (pc := 730) C dL_law_730 4 rfl ?_
  refine j_iconst (pc := 732) C (nI 3) dL_law_732 (by decide) ?_
  refine j_iadd (pc := 733) C dL_law_733 ?_
  refine j_topi (nI (i + 3)) (nI_add i 3) ?_
  refine j_sld (pc := 734) K (i := i + 3) (by omega) hL dL_law_734 ?_
  refine j_aload_n (pc := 735) C dL_law_735 rfl 3 rfl ?_
  refine j_callSW (pc := 736) C [.ref a, .int (ys (i + 1)), .int (ys (i + 2)), .int (ys (i + 3)), .ref o] [] (rm0 := room_1) (k' := k + 2) (n' := n + 54) K.2.1 (w_hear (xl X) (xw X) hst9 hw hc ha0 ho hN (ys (i + 1)) (ys (i + 2)) (ys (i + 3))) mp_L_hear wm_737 rfl rfl (Nat.le_of_ble_eq_true rfl) dL_law_736 ⟨by decide, by decide⟩ ⟨show k + 2 ≤ 601024 by omega, show n + 54 ≤ 7293034 by omega⟩ rfl rfl (fun v9 σ1 hp9 => ?_)
  obtain ⟨rfl, h4, hout, hw1, hc1, hF1⟩ := hp9
  have hs1 := hs.fr hF1 (fun t z => tgV_K z)
  show J X (k + 2) (n + 54) σ1 [(0, .ref b), (1, .ref a), (2, .ref (x9 0)), (3, .ref o), (4, .int (nI i))] [.int (nI (s_hear S (ys (i + 1)) (ys (i + 2)) (ys (i + 3))).1)] 739
  refine j_istore (pc := 739) C [(5, .int (nI (s_hear S (ys (i + 1)) (ys (i + 2)) (ys (i + 3))).1)), (0, .ref b), (1, .ref a), (2, .ref (x9 0)), (3, .ref o), (4, .int (nI i))] dL_law_739 (by decide) rfl ?_
  refine j_aload_n (pc := 741) C dL_law_741 rfl 3 rfl ?_
  refine j_aload_n (pc := 742) C dL_law_742 rfl 1 rfl ?_
  refine j_iload (pc := 743) C dL_law_743 5 rfl ?_
  refine j_iconst (pc := 745) C (nI 1) dL_law_745 (by decide) ?_
  refine j_iadd (pc := 746) C dL_law_746 ?_
  refine j_topi (nI (i + 1)) (nI_add i 1) ?_
  refine j_sld (pc := 747) K (i := i + 1) (by omega) hL dL_law_747 ?_
  refine j_aload_n (pc := 748) C dL_law_748 rfl 1 rfl ?_
  refine j_iload (pc := 749) C dL_law_749 5 rfl ?_
  refine j_iconst (pc := 751) C (nI 2) dL_law_751 (by decide) ?_
  refine j_iadd (pc := 752) C dL_law_752 ?_
  refine j_topi (nI (i + 2)) (nI_add i 2) ?_
  refine j_sld (pc := 753) K (i := i + 2) (by omega) hL dL_law_753 ?_
  refine j_aload_n (pc := 754) C dL_law_754 rfl 1 rfl ?_
  refine j_iload (pc := 755) C dL_law_755 5 rfl ?_
  refine j_iconst (pc := 757) C (nI 3) dL_law_757 (by decide) ?_
  refine j_iadd (pc := 758) C dL_law_758 ?_
  refine j_topi (nI (i + 3)) (nI_add i 3) ?_
  refine j_sld (pc := 759) K (i := i + 3) (by omega) hL dL_law_759 ?_
  refine j_callV (pc := 760) C [.int (ys (i + 1)), .int (ys (i + 2)), .int (ys (i + 3))] [] (rm0 := room_1) (k' := k + 2) (n' := n + 54) K.2.1 (c_X10_hear (xl X) (xw X) hs1 hw (ys (i + 1)) (ys (i + 2)) (ys (i + 3))) mp_X10_hear wm_1238 (hF1.at hM0) rfl rfl (by decide) rfl rfl (Nat.le_of_ble_eq_true rfl) dL_law_760 ⟨by decide, by decide⟩ ⟨show k + 2 + 0 ≤ 601024 by omega, show n + 54 + 0 ≤ 7293034 by omega⟩ rfl rfl (fun v8 σ2 hp8 => ?_)
  obtain ⟨rfl, hs2, hM⟩ := hp8
  have hF2 := hM.fr
  have hv2 : LV (s_hear S (ys (i + 1)) (ys (i + 2)) (ys (i + 3))).2.2 x9 a o σ2 := ⟨hw1, hc1.fr hw1 hF2 (fun t z y => by rw [tgA_K z] at y; cases y), ⟨_, hs2⟩, hF2.at (hF1.at ha0), hF2.at (hF1.at ho), (hF2.len (hF1.live ho.1)).trans ((hF1.len ho.1).trans hN)⟩
  show J X (k + 2) (n + 54) σ2 [(5, .int (nI (s_hear S (ys (i + 1)) (ys (i + 2)) (ys (i + 3))).1)), (0, .ref b), (1, .ref a), (2, .ref (x9 0)), (3, .ref o), (4, .int (nI i))] [.int ((s_hear S (ys (i + 1)) (ys (i + 2)) (ys (i + 3))).2.1)] 763
  refine j_istore (pc := 763) C [(6, .int ((s_hear S (ys (i + 1)) (ys (i + 2)) (ys (i + 3))).2.1)), (5, .int (nI (s_hear S (ys (i + 1)) (ys (i + 2)) (ys (i + 3))).1)), (0, .ref b), (1, .ref a), (2, .ref (x9 0)), (3, .ref o), (4, .int (nI i))] dL_law_763 (by decide) rfl ?_
  refine j_aload_n (pc := 765) C dL_law_765 rfl 4 rfl ?_
  refine j_callV (pc := 766) C [] [] (rm0 := room_1) (k' := k + 2) (n' := n + 54) K.2.1 (c_X10_thrown (xl X) (xw X) hs2) mp_X10_thrown wm_1145 (hF2.at (hF1.at hM0)) rfl rfl (by decide) rfl rfl (Nat.le_of_ble_eq_true rfl) dL_law_766 ⟨by decide, by decide⟩ ⟨show k + 2 + 0 ≤ 601024 by omega, show n + 54 + 0 ≤ 7293034 by omega⟩ rfl rfl (fun v7 σ3 hp7 => ?_)
  obtain ⟨rfl, rfl⟩ := hp7
  refine j_iload (pc := 769) C dL_law_769 1 rfl ?_
  refine j_icmp_eq (pc := 771) C 776 dL_law_771 (by decide) (fun c0 => ?_) (fun c0 => (c0 rfl : False).elim)
  refine j_iload (pc := 776) C dL_law_776 1 rfl ?_
  refine jn_if_ne (pc := 778) C 793 (a := (s_hear S (ys (i + 1)) (ys (i + 2)) (ys (i + 3))).1) (by omega) dL_law_778 (by decide) (fun c5 => ?_) (fun c5 => ?_)
  · refine j_goto (pc := 793) C 1865 dL_law_793 (by decide) ?_
    exact J.wide (by omega) (by omega) (J.to [2, 3, 4, 5, 6] rfl (kk _ _ hv2))
  · refine j_aload_n (pc := 781) C dL_law_781 rfl 5 rfl ?_
    refine j_iconst (pc := 782) C (nI 0) dL_law_782 (by decide) ?_
    refine j_lald (pc := 783) C (p := 0) (M := 1) (hF2.at (hF1.at ho)) rfl hv2.2.2.2.2.2 (by decide) (by decide) dL_law_783 ?_
    refine j_topl ((s_hear S (ys (i + 1)) (ys (i + 2)) (ys (i + 3))).2.1.toInt64) ((hF2.rL (f := 768) (i := 300) (j := 0) (by decide)).trans (hout c5)) ?_
    refine j_iload (pc := 784) C dL_law_784 0 rfl ?_
    refine j_i2l (pc := 786) C dL_law_786 ?_
    refine j_lcmp (pc := 787) C dL_law_787 ?_
    refine jl_if_eq (pc := 788) C 793 dL_law_788 (by decide) (fun c0 => ?_) (fun c0 => (c0 rfl : False).elim)
    refine j_goto (pc := 793) C 1865 dL_law_793 (by decide) ?_
    exact J.wide (by omega) (by omega) (J.to [2, 3, 4, 5, 6] rfl (kk _ _ hv2))
set_option maxHeartbeats 4000000 in
set_option maxRecDepth 100000 in
theorem lc_11 {X : Cx} {b L : Nat} {ys : Nat → Int32} (K : LC X b L ys) (hst9 : (xl X).stackTraces = false) {i : Nat} (hi : i + 5 ≤ L) (hL : L ≤ 2560) {S : SP} {x9 : Nat → Nat} {a o : Nat} {σ : HS} (hv : LV S x9 a o σ) {k n : Nat} (hk : k + 8 ≤ 601024) (hn : n + 127 ≤ 7293034) (kk : ∀ (S' : SP) (σ' : HS), LV S' x9 a o σ' → J X (k + 8) (n + 127) σ' [(0, .ref b), (1, .ref a), (2, .ref (x9 0)), (3, .ref o), (4, .int (nI i))] [] 1865) : J X k n σ [(0, .ref b), (1, .ref a), (2, .ref (x9 0)), (3, .ref o), (4, .int (nI i))] [] 796 := by
  obtain ⟨hw, hc, ⟨k9, hs⟩, ha0, ho, hN⟩ := hv
  have C := K.1
  have hM0 := hs.2.1.1
  refine j_aload_n (pc := 796) C dL_law_796 rfl 1 rfl ?_
  refine j_aload_n (pc := 797) C dL_law_797 rfl 0 rfl ?_
  refine j_iload (pc := 798) C dL_law_798 4 rfl ?_
  refine j_iconst (pc := 800) C (nI 1) dL_law_800 (by decide) ?_
  refine j_iadd (pc := 801) C dL_law_801 ?_
  refine j_topi (nI (i + 1)) (nI_add i 1) ?_
  refine j_sld (pc := 802) K (i := i + 1) (by omega) hL dL_law_802 ?_
  refine j_aload_n (pc := 803) C dL_law_803 rfl 3 rfl ?_
  refine j_callSW (pc := 804) C [.ref a, .int (ys (i + 1)), .ref o] [] (rm0 := room_1) (k' := k + 1) (n' := n + 6) K.2.1 (w_correct (xl X) (xw X) hst9 hw hc ha0 ho hN (ys (i + 1))) mp_L_correct wm_781 rfl rfl (Nat.le_of_ble_eq_true rfl) dL_law_804 ⟨by decide, by decide⟩ ⟨show k + 1 ≤ 601024 by omega, show n + 6 ≤ 7293034 by omega⟩ rfl rfl (fun v9 σ1 hp9 => ?_)
  obtain ⟨rfl, h4, hout, hw1, hc1, hF1⟩ := hp9
  have hs1 := hs.fr hF1 (fun t z => tgV_K z)
  obtain ⟨d, hd9, hout⟩ := hout
  show J X (k + 1) (n + 6) σ1 [(0, .ref b), (1, .ref a), (2, .ref (x9 0)), (3, .ref o), (4, .int (nI i))] [.int (nI (s_correct S (ys (i + 1))).1)] 807
  refine j_istore (pc := 807) C [(5, .int (nI (s_correct S (ys (i + 1))).1)), (0, .ref b), (1, .ref a), (2, .ref (x9 0)), (3, .ref o), (4, .int (nI i))] dL_law_807 (by decide) rfl ?_
  refine j_aload_n (pc := 809) C dL_law_809 rfl 3 rfl ?_
  refine j_aload_n (pc := 810) C dL_law_810 rfl 1 rfl ?_
  refine j_iload (pc := 811) C dL_law_811 5 rfl ?_
  refine j_iconst (pc := 813) C (nI 1) dL_law_813 (by decide) ?_
  refine j_iadd (pc := 814) C dL_law_814 ?_
  refine j_topi (nI (i + 1)) (nI_add i 1) ?_
  refine j_sld (pc := 815) K (i := i + 1) (by omega) hL dL_law_815 ?_
  refine j_callV (pc := 816) C [.int (ys (i + 1))] [] (rm0 := room_1) (k' := k + 1) (n' := n + 6) K.2.1 (c_X10_correct (xl X) (xw X) hs1 hw (ys (i + 1))) mp_X10_correct wm_1242 (hF1.at hM0) rfl rfl (by decide) rfl rfl (Nat.le_of_ble_eq_true rfl) dL_law_816 ⟨by decide, by decide⟩ ⟨show k + 1 + 0 ≤ 601024 by omega, show n + 6 + 0 ≤ 7293034 by omega⟩ rfl rfl (fun v8 σ2 hp8 => ?_)
  obtain ⟨rfl, hs2, hM⟩ := hp8
  have hF2 := hM.fr
  have hv2 : LV (s_correct S (ys (i + 1))).2.2 x9 a o σ2 := ⟨hw1, hc1.fr hw1 hF2 (fun t z y => by rw [tgA_K z] at y; cases y), ⟨_, hs2⟩, hF2.at (hF1.at ha0), hF2.at (hF1.at ho), (hF2.len (hF1.live ho.1)).trans ((hF1.len ho.1).trans hN)⟩
  show J X (k + 1) (n + 6) σ2 [(5, .int (nI (s_correct S (ys (i + 1))).1)), (0, .ref b), (1, .ref a), (2, .ref (x9 0)), (3, .ref o), (4, .int (nI i))] [.int ((s_correct S (ys (i + 1))).2.1)] 819
  refine j_topi (bI d) hd9 ?_
  refine j_istore (pc := 819) C [(6, .int (bI d)), (5, .int (nI (s_correct S (ys (i + 1))).1)), (0, .ref b), (1, .ref a), (2, .ref (x9 0)), (3, .ref o), (4, .int (nI i))] dL_law_819 (by decide) rfl ?_
  refine j_aload_n (pc := 821) C dL_law_821 rfl 4 rfl ?_
  refine j_callV (pc := 822) C [] [] (rm0 := room_1) (k' := k + 1) (n' := n + 6) K.2.1 (c_X10_thrown (xl X) (xw X) hs2) mp_X10_thrown wm_1145 (hF2.at (hF1.at hM0)) rfl rfl (by decide) rfl rfl (Nat.le_of_ble_eq_true rfl) dL_law_822 ⟨by decide, by decide⟩ ⟨show k + 1 + 0 ≤ 601024 by omega, show n + 6 + 0 ≤ 7293034 by omega⟩ rfl rfl (fun v7 σ3 hp7 => ?_)
  obtain ⟨rfl, rfl⟩ := hp7
  refine j_iload (pc := 825) C dL_law_825 1 rfl ?_
  refine j_icmp_eq (pc := 827) C 832 dL_law_827 (by decide) (fun c0 => ?_) (fun c0 => (c0 rfl : False).elim)
  refine j_iload (pc := 832) C dL_law_832 1 rfl ?_
  refine jn_if_ne (pc := 834) C 856 (a := (s_correct S (ys (i + 1))).1) (by omega) dL_law_834 (by decide) (fun c5 => ?_) (fun c5 => ?_)
  · refine j_goto (pc := 856) C 1865 dL_law_856 (by decide) ?_
    exact J.wide (by omega) (by omega) (J.to [2, 3, 4, 5, 6] rfl (kk _ _ hv2))
  · refine j_aload_n (pc := 837) C dL_law_837 rfl 5 rfl ?_
    refine j_iconst (pc := 838) C (nI 0) dL_law_838 (by decide) ?_
    refine j_lald (pc := 839) C (p := 0) (M := 1) (hF2.at (hF1.at ho)) rfl hv2.2.2.2.2.2 (by decide) (by decide) dL_law_839 ?_
    refine j_topl (lN d.toNat) ((hF2.rL (f := 768) (i := 300) (j := 0) (by decide)).trans (hout c5)) ?_
    refine j_iload (pc := 840) C dL_law_840 0 rfl ?_
    refine jb_if_eq (pc := 842) C 849 (b := d) dL_law_842 (by decide) (fun c6 => ?_) (fun c6 => ?_)
    · refine j_lconst (pc := 849) C (lN 0) dL_law_849 (by decide) ?_
      refine j_lcmp (pc := 850) C dL_law_850 ?_
      refine jl_if_eq (pc := 851) C 856 dL_law_851 (by decide) (fun c0 => ?_) (fun c0 => (c0 (by rw [c6]; rfl) : False).elim)
      refine j_goto (pc := 856) C 1865 dL_law_856 (by decide) ?_
      exact J.wide (by omega) (by omega) (J.to [2, 3, 4, 5, 6] rfl (kk _ _ hv2))
    · refine j_lconst (pc := 845) C (lN 1) dL_law_845 (by decide) ?_
      refine j_goto (pc := 846) C 850 dL_law_846 (by decide) ?_
      refine j_lcmp (pc := 850) C dL_law_850 ?_
      refine jl_if_eq (pc := 851) C 856 dL_law_851 (by decide) (fun c0 => ?_) (fun c0 => (c0 (by rw [c6]; rfl) : False).elim)
      refine j_goto (pc := 856) C 1865 dL_law_856 (by decide) ?_
      exact J.wide (by omega) (by omega) (J.to [2, 3, 4, 5, 6] rfl (kk _ _ hv2))
set_option maxHeartbeats 4000000 in
set_option maxRecDepth 100000 in
theorem lc_12 {X : Cx} {b L : Nat} {ys : Nat → Int32} (K : LC X b L ys) (hst9 : (xl X).stackTraces = false) {i : Nat} (hi : i + 5 ≤ L) (hL : L ≤ 2560) {S : SP} {x9 : Nat → Nat} {a o : Nat} {σ : HS} (hv : LV S x9 a o σ) {k n : Nat} (hk : k + 8 ≤ 601024) (hn : n + 127 ≤ 7293034) (kk : ∀ (S' : SP) (σ' : HS), LV S' x9 a o σ' → J X (k + 8) (n + 127) σ' [(0, .ref b), (1, .ref a), (2, .ref (x9 0)), (3, .ref o), (4, .int (nI i))] [] 1865) : J X k n σ [(0, .ref b), (1, .ref a), (2, .ref (x9 0)), (3, .ref o), (4, .int (nI i))] [] 859 := by
  obtain ⟨hw, hc, ⟨k9, hs⟩, ha0, ho, hN⟩ := hv
  have C := K.1
  have hM0 := hs.2.1.1
  refine j_aload_n (pc := 859) C dL_law_859 rfl 1 rfl ?_
  refine j_aload_n (pc := 860) C dL_law_860 rfl 0 rfl ?_
  refine j_iload (pc := 861) C dL_law_861 4 rfl ?_
  refine j_iconst (pc := 863) C (nI 1) dL_law_863 (by decide) ?_
  refine j_iadd (pc := 864) C dL_law_864 ?_
  refine j_topi (nI (i + 1)) (nI_add i 1) ?_
  refine j_sld (pc := 865) K (i := i + 1) (by omega) hL dL_law_865 ?_
  refine j_aload_n (pc := 866) C dL_law_866 rfl 3 rfl ?_
  refine j_callSW (pc := 867) C [.ref a, .int (ys (i + 1)), .ref o] [] (rm0 := room_1) (k' := k + 1) (n' := n + 6) K.2.1 (w_forget (xl X) (xw X) hst9 hw hc ha0 ho hN (ys (i + 1))) mp_L_forget wm_792 rfl rfl (Nat.le_of_ble_eq_true rfl) dL_law_867 ⟨by decide, by decide⟩ ⟨show k + 1 ≤ 601024 by omega, show n + 6 ≤ 7293034 by omega⟩ rfl rfl (fun v9 σ1 hp9 => ?_)
  obtain ⟨rfl, h4, hout, hw1, hc1, hF1⟩ := hp9
  have hs1 := hs.fr hF1 (fun t z => tgV_K z)
  show J X (k + 1) (n + 6) σ1 [(0, .ref b), (1, .ref a), (2, .ref (x9 0)), (3, .ref o), (4, .int (nI i))] [.int (nI (s_forget S (ys (i + 1))).1)] 870
  refine j_istore (pc := 870) C [(5, .int (nI (s_forget S (ys (i + 1))).1)), (0, .ref b), (1, .ref a), (2, .ref (x9 0)), (3, .ref o), (4, .int (nI i))] dL_law_870 (by decide) rfl ?_
  refine j_aload_n (pc := 872) C dL_law_872 rfl 3 rfl ?_
  refine j_aload_n (pc := 873) C dL_law_873 rfl 1 rfl ?_
  refine j_iload (pc := 874) C dL_law_874 5 rfl ?_
  refine j_iconst (pc := 876) C (nI 1) dL_law_876 (by decide) ?_
  refine j_iadd (pc := 877) C dL_law_877 ?_
  refine j_topi (nI (i + 1)) (nI_add i 1) ?_
  refine j_sld (pc := 878) K (i := i + 1) (by omega) hL dL_law_878 ?_
  refine j_callV (pc := 879) C [.int (ys (i + 1))] [] (rm0 := room_1) (k' := k + 1) (n' := n + 6) K.2.1 (c_X10_forget (xl X) (xw X) hs1 hw (ys (i + 1))) mp_X10_forget wm_1250 (hF1.at hM0) rfl rfl (by decide) rfl rfl (Nat.le_of_ble_eq_true rfl) dL_law_879 ⟨by decide, by decide⟩ ⟨show k + 1 + 0 ≤ 601024 by omega, show n + 6 + 0 ≤ 7293034 by omega⟩ rfl rfl (fun v8 σ2 hp8 => ?_)
  obtain ⟨rfl, hs2, hM⟩ := hp8
  have hF2 := hM.fr
  have hv2 : LV (s_forget S (ys (i + 1))).2.2 x9 a o σ2 := ⟨hw1, hc1.fr hw1 hF2 (fun t z y => by rw [tgA_K z] at y; cases y), ⟨_, hs2⟩, hF2.at (hF1.at ha0), hF2.at (hF1.at ho), (hF2.len (hF1.live ho.1)).trans ((hF1.len ho.1).trans hN)⟩
  show J X (k + 1) (n + 6) σ2 [(5, .int (nI (s_forget S (ys (i + 1))).1)), (0, .ref b), (1, .ref a), (2, .ref (x9 0)), (3, .ref o), (4, .int (nI i))] [.int ((s_forget S (ys (i + 1))).2.1)] 882
  refine j_istore (pc := 882) C [(6, .int ((s_forget S (ys (i + 1))).2.1)), (5, .int (nI (s_forget S (ys (i + 1))).1)), (0, .ref b), (1, .ref a), (2, .ref (x9 0)), (3, .ref o), (4, .int (nI i))] dL_law_882 (by decide) rfl ?_
  refine j_aload_n (pc := 884) C dL_law_884 rfl 4 rfl ?_
  refine j_callV (pc := 885) C [] [] (rm0 := room_1) (k' := k + 1) (n' := n + 6) K.2.1 (c_X10_thrown (xl X) (xw X) hs2) mp_X10_thrown wm_1145 (hF2.at (hF1.at hM0)) rfl rfl (by decide) rfl rfl (Nat.le_of_ble_eq_true rfl) dL_law_885 ⟨by decide, by decide⟩ ⟨show k + 1 + 0 ≤ 601024 by omega, show n + 6 + 0 ≤ 7293034 by omega⟩ rfl rfl (fun v7 σ3 hp7 => ?_)
  obtain ⟨rfl, rfl⟩ := hp7
  refine j_iload (pc := 888) C dL_law_888 1 rfl ?_
  refine j_icmp_eq (pc := 890) C 895 dL_law_890 (by decide) (fun c0 => ?_) (fun c0 => (c0 rfl : False).elim)
  refine j_iload (pc := 895) C dL_law_895 1 rfl ?_
  refine jn_if_ne (pc := 897) C 912 (a := (s_forget S (ys (i + 1))).1) (by omega) dL_law_897 (by decide) (fun c5 => ?_) (fun c5 => ?_)
  · refine j_goto (pc := 912) C 1865 dL_law_912 (by decide) ?_
    exact J.wide (by omega) (by omega) (J.to [2, 3, 4, 5, 6] rfl (kk _ _ hv2))
  · refine j_aload_n (pc := 900) C dL_law_900 rfl 5 rfl ?_
    refine j_iconst (pc := 901) C (nI 0) dL_law_901 (by decide) ?_
    refine j_lald (pc := 902) C (p := 0) (M := 1) (hF2.at (hF1.at ho)) rfl hv2.2.2.2.2.2 (by decide) (by decide) dL_law_902 ?_
    refine j_topl ((s_forget S (ys (i + 1))).2.1.toInt64) ((hF2.rL (f := 768) (i := 300) (j := 0) (by decide)).trans (hout c5)) ?_
    refine j_iload (pc := 903) C dL_law_903 0 rfl ?_
    refine j_i2l (pc := 905) C dL_law_905 ?_
    refine j_lcmp (pc := 906) C dL_law_906 ?_
    refine jl_if_eq (pc := 907) C 912 dL_law_907 (by decide) (fun c0 => ?_) (fun c0 => (c0 rfl : False).elim)
    refine j_goto (pc := 912) C 1865 dL_law_912 (by decide) ?_
    exact J.wide (by omega) (by omega) (J.to [2, 3, 4, 5, 6] rfl (kk _ _ hv2))
set_option maxHeartbeats 4000000 in
set_option maxRecDepth 100000 in
theorem lc_13 {X : Cx} {b L : Nat} {ys : Nat → Int32} (K : LC X b L ys) (hst9 : (xl X).stackTraces = false) {i : Nat} (hi : i + 5 ≤ L) (hL : L ≤ 2560) {S : SP} {x9 : Nat → Nat} {a o : Nat} {σ : HS} (hv : LV S x9 a o σ) {k n : Nat} (hk : k + 8 ≤ 601024) (hn : n + 127 ≤ 7293034) (kk : ∀ (S' : SP) (σ' : HS), LV S' x9 a o σ' → J X (k + 8) (n + 127) σ' [(0, .ref b), (1, .ref a), (2, .ref (x9 0)), (3, .ref o), (4, .int (nI i))] [] 1865) : J X k n σ [(0, .ref b), (1, .ref a), (2, .ref (x9 0)), (3, .ref o), (4, .int (nI i))] [] 915 := by
  obtain ⟨hw, hc, ⟨k9, hs⟩, ha0, ho, hN⟩ := hv
  have C := K.1
  have hM0 := hs.2.1.1
  by_cases e0 : ys (i + 3) = 0
  · refine j_aload_n (pc := 915) C dL_law_915 rfl 1 rfl ?_
    refine j_aload_n (pc := 916) C dL_law_916 rfl 0 rfl ?_
    refine j_iload (pc := 917) C dL_law_917 4 rfl ?_
    refine j_iconst (pc := 919) C (nI 1) dL_law_919 (by decide) ?_
    refine j_iadd (pc := 920) C dL_law_920 ?_
    refine j_topi (nI (i + 1)) (nI_add i 1) ?_
    refine j_sld (pc := 921) K (i := i + 1) (by omega) hL dL_law_921 ?_
    refine j_aload_n (pc := 922) C dL_law_922 rfl 0 rfl ?_
    refine j_iload (pc := 923) C dL_law_923 4 rfl ?_
    refine j_iconst (pc := 925) C (nI 2) dL_law_925 (by decide) ?_
    refine j_iadd (pc := 926) C dL_law_926 ?_
    refine j_topi (nI (i + 2)) (nI_add i 2) ?_
    refine j_sld (pc := 927) K (i := i + 2) (by omega) hL dL_law_927 ?_
    refine j_aload_n (pc := 928) C dL_law_928 rfl 0 rfl ?_
    refine j_iload (pc := 929) C dL_law_929 4 rfl ?_
    refine j_iconst (pc := 931) C (nI 3) dL_law_931 (by decide) ?_
    refine j_iadd (pc := 932) C dL_law_932 ?_
    refine j_topi (nI (i + 3)) (nI_add i 3) ?_
    refine j_sld (pc := 933) K (i := i + 3) (by omega) hL dL_law_933 ?_
    refine j_topi (nI 0) e0 ?_
    refine j_if_eq (pc := 934) C 941 dL_law_934 (by decide) (fun _ => ?_) (fun q => absurd q (by decide))
    refine j_iconst (pc := 941) C (nI 0) dL_law_941 (by decide) ?_
    refine j_topi (bI false) rfl ?_
    refine j_aload_n (pc := 942) C dL_law_942 rfl 3 rfl ?_
    refine j_callSW (pc := 943) C [.ref a, .int (ys (i + 1)), .int (ys (i + 2)), .int (bI false), .ref o] [] (rm0 := room_1) (k' := k + 1) (n' := n + 6) K.2.1 (w_except (xl X) (xw X) hst9 hw hc ha0 ho hN (ys (i + 1)) (ys (i + 2)) false) mp_L_except wm_803 rfl rfl (Nat.le_of_ble_eq_true rfl) dL_law_943 ⟨by decide, by decide⟩ ⟨show k + 1 ≤ 601024 by omega, show n + 6 ≤ 7293034 by omega⟩ rfl rfl (fun v9 σ1 hp9 => ?_)
    obtain ⟨rfl, h4, hout, hw1, hc1, hF1⟩ := hp9
    have hs1 := hs.fr hF1 (fun t z => tgV_K z)
    obtain ⟨d, hd9, hout⟩ := hout
    show J X (k + 1) (n + 6) σ1 [(0, .ref b), (1, .ref a), (2, .ref (x9 0)), (3, .ref o), (4, .int (nI i))] [.int (nI (s_except S (ys (i + 1)) (ys (i + 2)) false).1)] 946
    refine j_istore (pc := 946) C [(5, .int (nI (s_except S (ys (i + 1)) (ys (i + 2)) false).1)), (0, .ref b), (1, .ref a), (2, .ref (x9 0)), (3, .ref o), (4, .int (nI i))] dL_law_946 (by decide) rfl ?_
    refine j_aload_n (pc := 948) C dL_law_948 rfl 3 rfl ?_
    refine j_aload_n (pc := 949) C dL_law_949 rfl 1 rfl ?_
    refine j_iload (pc := 950) C dL_law_950 5 rfl ?_
    refine j_iconst (pc := 952) C (nI 1) dL_law_952 (by decide) ?_
    refine j_iadd (pc := 953) C dL_law_953 ?_
    refine j_topi (nI (i + 1)) (nI_add i 1) ?_
    refine j_sld (pc := 954) K (i := i + 1) (by omega) hL dL_law_954 ?_
    refine j_aload_n (pc := 955) C dL_law_955 rfl 1 rfl ?_
    refine j_iload (pc := 956) C dL_law_956 5 rfl ?_
    refine j_iconst (pc := 958) C (nI 2) dL_law_958 (by decide) ?_
    refine j_iadd (pc := 959) C dL_law_959 ?_
    refine j_topi (nI (i + 2)) (nI_add i 2) ?_
    refine j_sld (pc := 960) K (i := i + 2) (by omega) hL dL_law_960 ?_
    refine j_aload_n (pc := 961) C dL_law_961 rfl 1 rfl ?_
    refine j_iload (pc := 962) C dL_law_962 5 rfl ?_
    refine j_iconst (pc := 964) C (nI 3) dL_law_964 (by decide) ?_
    refine j_iadd (pc := 965) C dL_law_965 ?_
    refine j_topi (nI (i + 3)) (nI_add i 3) ?_
    refine j_sld (pc := 966) K (i := i + 3) (by omega) hL dL_law_966 ?_
    refine j_topi (nI 0) e0 ?_
    refine j_if_eq (pc := 967) C 974 dL_law_967 (by decide) (fun _ => ?_) (fun q => absurd q (by decide))
    refine j_iconst (pc := 974) C (nI 0) dL_law_974 (by decide) ?_
    refine j_topi (bI false) rfl ?_
    refine j_callV (pc := 975) C [.int (ys (i + 1)), .int (ys (i + 2)), .int (bI false)] [] (rm0 := room_1) (k' := k + 1) (n' := n + 6) K.2.1 (c_X10_except (xl X) (xw X) hs1 hw (ys (i + 1)) (ys (i + 2)) false) mp_X10_except wm_1254 (hF1.at hM0) rfl rfl (by decide) rfl rfl (Nat.le_of_ble_eq_true rfl) dL_law_975 ⟨by decide, by decide⟩ ⟨show k + 1 + 0 ≤ 601024 by omega, show n + 6 + 0 ≤ 7293034 by omega⟩ rfl rfl (fun v8 σ2 hp8 => ?_)
    obtain ⟨rfl, hs2, hM⟩ := hp8
    have hF2 := hM.fr
    have hv2 : LV (s_except S (ys (i + 1)) (ys (i + 2)) false).2.2 x9 a o σ2 := ⟨hw1, hc1.fr hw1 hF2 (fun t z y => by rw [tgA_K z] at y; cases y), ⟨_, hs2⟩, hF2.at (hF1.at ha0), hF2.at (hF1.at ho), (hF2.len (hF1.live ho.1)).trans ((hF1.len ho.1).trans hN)⟩
    show J X (k + 1) (n + 6) σ2 [(5, .int (nI (s_except S (ys (i + 1)) (ys (i + 2)) false).1)), (0, .ref b), (1, .ref a), (2, .ref (x9 0)), (3, .ref o), (4, .int (nI i))] [.int ((s_except S (ys (i + 1)) (ys (i + 2)) false).2.1)] 978
    refine j_topi (bI d) hd9 ?_
    refine j_istore (pc := 978) C [(6, .int (bI d)), (5, .int (nI (s_except S (ys (i + 1)) (ys (i + 2)) false).1)), (0, .ref b), (1, .ref a), (2, .ref (x9 0)), (3, .ref o), (4, .int (nI i))] dL_law_978 (by decide) rfl ?_
    refine j_aload_n (pc := 980) C dL_law_980 rfl 4 rfl ?_
    refine j_callV (pc := 981) C [] [] (rm0 := room_1) (k' := k + 1) (n' := n + 6) K.2.1 (c_X10_thrown (xl X) (xw X) hs2) mp_X10_thrown wm_1145 (hF2.at (hF1.at hM0)) rfl rfl (by decide) rfl rfl (Nat.le_of_ble_eq_true rfl) dL_law_981 ⟨by decide, by decide⟩ ⟨show k + 1 + 0 ≤ 601024 by omega, show n + 6 + 0 ≤ 7293034 by omega⟩ rfl rfl (fun v7 σ3 hp7 => ?_)
    obtain ⟨rfl, rfl⟩ := hp7
    refine j_iload (pc := 984) C dL_law_984 1 rfl ?_
    refine j_icmp_eq (pc := 986) C 991 dL_law_986 (by decide) (fun c0 => ?_) (fun c0 => (c0 rfl : False).elim)
    refine j_iload (pc := 991) C dL_law_991 1 rfl ?_
    refine jn_if_ne (pc := 993) C 1015 (a := (s_except S (ys (i + 1)) (ys (i + 2)) false).1) (by omega) dL_law_993 (by decide) (fun c5 => ?_) (fun c5 => ?_)
    · refine j_goto (pc := 1015) C 1865 dL_law_1015 (by decide) ?_
      exact J.wide (by omega) (by omega) (J.to [2, 3, 4, 5, 6] rfl (kk _ _ hv2))
    · refine j_aload_n (pc := 996) C dL_law_996 rfl 5 rfl ?_
      refine j_iconst (pc := 997) C (nI 0) dL_law_997 (by decide) ?_
      refine j_lald (pc := 998) C (p := 0) (M := 1) (hF2.at (hF1.at ho)) rfl hv2.2.2.2.2.2 (by decide) (by decide) dL_law_998 ?_
      refine j_topl (lN d.toNat) ((hF2.rL (f := 768) (i := 300) (j := 0) (by decide)).trans (hout c5)) ?_
      refine j_iload (pc := 999) C dL_law_999 0 rfl ?_
      refine jb_if_eq (pc := 1001) C 1008 (b := d) dL_law_1001 (by decide) (fun c6 => ?_) (fun c6 => ?_)
      · refine j_lconst (pc := 1008) C (lN 0) dL_law_1008 (by decide) ?_
        refine j_lcmp (pc := 1009) C dL_law_1009 ?_
        refine jl_if_eq (pc := 1010) C 1015 dL_law_1010 (by decide) (fun c0 => ?_) (fun c0 => (c0 (by rw [c6]; rfl) : False).elim)
        refine j_goto (pc := 1015) C 1865 dL_law_1015 (by decide) ?_
        exact J.wide (by omega) (by omega) (J.to [2, 3, 4, 5, 6] rfl (kk _ _ hv2))
      · refine j_lconst (pc := 1004) C (lN 1) dL_law_1004 (by decide) ?_
        refine j_goto (pc := 1005) C 1009 dL_law_1005 (by decide) ?_
        refine j_lcmp (pc := 1009) C dL_law_1009 ?_
        refine jl_if_eq (pc := 1010) C 1015 dL_law_1010 (by decide) (fun c0 => ?_) (fun c0 => (c0 (by rw [c6]; rfl) : False).elim)
        refine j_goto (pc := 1015) C 1865 dL_law_1015 (by decide) ?_
        exact J.wide (by omega) (by omega) (J.to [2, 3, 4, 5, 6] rfl (kk _ _ hv2))
  · refine j_aload_n (pc := 915) C dL_law_915 rfl 1 rfl ?_
    refine j_aload_n (pc := 916) C dL_law_916 rfl 0 rfl ?_
    refine j_iload (pc := 917) C dL_law_917 4 rfl ?_
    refine j_iconst (pc := 919) C (nI 1) dL_law_919 (by decide) ?_
    refine j_iadd (pc := 920) C dL_law_920 ?_
    refine j_topi (nI (i + 1)) (nI_add i 1) ?_
    refine j_sld (pc := 921) K (i := i + 1) (by omega) hL dL_law_921 ?_
    refine j_aload_n (pc := 922) C dL_law_922 rfl 0 rfl ?_
    refine j_iload (pc := 923) C dL_law_923 4 rfl ?_
    refine j_iconst (pc := 925) C (nI 2) dL_law_925 (by decide) ?_
    refine j_iadd (pc := 926) C dL_law_926 ?_
    refine j_topi (nI (i + 2)) (nI_add i 2) ?_
    refine j_sld (pc := 927) K (i := i + 2) (by omega) hL dL_law_927 ?_
    refine j_aload_n (pc := 928) C dL_law_928 rfl 0 rfl ?_
    refine j_iload (pc := 929) C dL_law_929 4 rfl ?_
    refine j_iconst (pc := 931) C (nI 3) dL_law_931 (by decide) ?_
    refine j_iadd (pc := 932) C dL_law_932 ?_
    refine j_topi (nI (i + 3)) (nI_add i 3) ?_
    refine j_sld (pc := 933) K (i := i + 3) (by omega) hL dL_law_933 ?_
    refine j_if_eq (pc := 934) C 941 dL_law_934 (by decide) (fun c0 => (e0 c0 : False).elim) (fun c0 => ?_)
    refine j_iconst (pc := 937) C (nI 1) dL_law_937 (by decide) ?_
    refine j_topi (bI true) rfl ?_
    refine j_goto (pc := 938) C 942 dL_law_938 (by decide) ?_
    refine j_aload_n (pc := 942) C dL_law_942 rfl 3 rfl ?_
    refine j_callSW (pc := 943) C [.ref a, .int (ys (i + 1)), .int (ys (i + 2)), .int (bI true), .ref o] [] (rm0 := room_1) (k' := k + 1) (n' := n + 6) K.2.1 (w_except (xl X) (xw X) hst9 hw hc ha0 ho hN (ys (i + 1)) (ys (i + 2)) true) mp_L_except wm_803 rfl rfl (Nat.le_of_ble_eq_true rfl) dL_law_943 ⟨by decide, by decide⟩ ⟨show k + 1 ≤ 601024 by omega, show n + 6 ≤ 7293034 by omega⟩ rfl rfl (fun v9 σ1 hp9 => ?_)
    obtain ⟨rfl, h4, hout, hw1, hc1, hF1⟩ := hp9
    have hs1 := hs.fr hF1 (fun t z => tgV_K z)
    obtain ⟨d, hd9, hout⟩ := hout
    show J X (k + 1) (n + 6) σ1 [(0, .ref b), (1, .ref a), (2, .ref (x9 0)), (3, .ref o), (4, .int (nI i))] [.int (nI (s_except S (ys (i + 1)) (ys (i + 2)) true).1)] 946
    refine j_istore (pc := 946) C [(5, .int (nI (s_except S (ys (i + 1)) (ys (i + 2)) true).1)), (0, .ref b), (1, .ref a), (2, .ref (x9 0)), (3, .ref o), (4, .int (nI i))] dL_law_946 (by decide) rfl ?_
    refine j_aload_n (pc := 948) C dL_law_948 rfl 3 rfl ?_
    refine j_aload_n (pc := 949) C dL_law_949 rfl 1 rfl ?_
    refine j_iload (pc := 950) C dL_law_950 5 rfl ?_
    refine j_iconst (pc := 952) C (nI 1) dL_law_952 (by decide) ?_
    refine j_iadd (pc := 953) C dL_law_953 ?_
    refine j_topi (nI (i + 1)) (nI_add i 1) ?_
    refine j_sld (pc := 954) K (i := i + 1) (by omega) hL dL_law_954 ?_
    refine j_aload_n (pc := 955) C dL_law_955 rfl 1 rfl ?_
    refine j_iload (pc := 956) C dL_law_956 5 rfl ?_
    refine j_iconst (pc := 958) C (nI 2) dL_law_958 (by decide) ?_
    refine j_iadd (pc := 959) C dL_law_959 ?_
    refine j_topi (nI (i + 2)) (nI_add i 2) ?_
    refine j_sld (pc := 960) K (i := i + 2) (by omega) hL dL_law_960 ?_
    refine j_aload_n (pc := 961) C dL_law_961 rfl 1 rfl ?_
    refine j_iload (pc := 962) C dL_law_962 5 rfl ?_
    refine j_iconst (pc := 964) C (nI 3) dL_law_964 (by decide) ?_
    refine j_iadd (pc := 965) C dL_law_965 ?_
    refine j_topi (nI (i + 3)) (nI_add i 3) ?_
    refine j_sld (pc := 966) K (i := i + 3) (by omega) hL dL_law_966 ?_
    refine j_if_eq (pc := 967) C 974 dL_law_967 (by decide) (fun c0 => (e0 c0 : False).elim) (fun c0 => ?_)
    refine j_iconst (pc := 970) C (nI 1) dL_law_970 (by decide) ?_
    refine j_topi (bI true) rfl ?_
    refine j_goto (pc := 971) C 975 dL_law_971 (by decide) ?_
    refine j_callV (pc := 975) C [.int (ys (i + 1)), .int (ys (i + 2)), .int (bI true)] [] (rm0 := room_1) (k' := k + 1) (n' := n + 6) K.2.1 (c_X10_except (xl X) (xw X) hs1 hw (ys (i + 1)) (ys (i + 2)) true) mp_X10_except wm_1254 (hF1.at hM0) rfl rfl (by decide) rfl rfl (Nat.le_of_ble_eq_true rfl) dL_law_975 ⟨by decide, by decide⟩ ⟨show k + 1 + 0 ≤ 601024 by omega, show n + 6 + 0 ≤ 7293034 by omega⟩ rfl rfl (fun v8 σ2 hp8 => ?_)
    obtain ⟨rfl, hs2, hM⟩ := hp8
    have hF2 := hM.fr
    have hv2 : LV (s_except S (ys (i + 1)) (ys (i + 2)) true).2.2 x9 a o σ2 := ⟨hw1, hc1.fr hw1 hF2 (fun t z y => by rw [tgA_K z] at y; cases y), ⟨_, hs2⟩, hF2.at (hF1.at ha0), hF2.at (hF1.at ho), (hF2.len (hF1.live ho.1)).trans ((hF1.len ho.1).trans hN)⟩
    show J X (k + 1) (n + 6) σ2 [(5, .int (nI (s_except S (ys (i + 1)) (ys (i + 2)) true).1)), (0, .ref b), (1, .ref a), (2, .ref (x9 0)), (3, .ref o), (4, .int (nI i))] [.int ((s_except S (ys (i + 1)) (ys (i + 2)) true).2.1)] 978
    refine j_topi (bI d) hd9 ?_
    refine j_istore (pc := 978) C [(6, .int (bI d)), (5, .int (nI (s_except S (ys (i + 1)) (ys (i + 2)) true).1)), (0, .ref b), (1, .ref a), (2, .ref (x9 0)), (3, .ref o), (4, .int (nI i))] dL_law_978 (by decide) rfl ?_
    refine j_aload_n (pc := 980) C dL_law_980 rfl 4 rfl ?_
    refine j_callV (pc := 981) C [] [] (rm0 := room_1) (k' := k + 1) (n' := n + 6) K.2.1 (c_X10_thrown (xl X) (xw X) hs2) mp_X10_thrown wm_1145 (hF2.at (hF1.at hM0)) rfl rfl (by decide) rfl rfl (Nat.le_of_ble_eq_true rfl) dL_law_981 ⟨by decide, by decide⟩ ⟨show k + 1 + 0 ≤ 601024 by omega, show n + 6 + 0 ≤ 7293034 by omega⟩ rfl rfl (fun v7 σ3 hp7 => ?_)
    obtain ⟨rfl, rfl⟩ := hp7
    refine j_iload (pc := 984) C dL_law_984 1 rfl ?_
    refine j_icmp_eq (pc := 986) C 991 dL_law_986 (by decide) (fun c0 => ?_) (fun c0 => (c0 rfl : False).elim)
    refine j_iload (pc := 991) C dL_law_991 1 rfl ?_
    refine jn_if_ne (pc := 993) C 1015 (a := (s_except S (ys (i + 1)) (ys (i + 2)) true).1) (by omega) dL_law_993 (by decide) (fun c5 => ?_) (fun c5 => ?_)
    · refine j_goto (pc := 1015) C 1865 dL_law_1015 (by decide) ?_
      exact J.wide (by omega) (by omega) (J.to [2, 3, 4, 5, 6] rfl (kk _ _ hv2))
    · refine j_aload_n (pc := 996) C dL_law_996 rfl 5 rfl ?_
      refine j_iconst (pc := 997) C (nI 0) dL_law_997 (by decide) ?_
      refine j_lald (pc := 998) C (p := 0) (M := 1) (hF2.at (hF1.at ho)) rfl hv2.2.2.2.2.2 (by decide) (by decide) dL_law_998 ?_
      refine j_topl (lN d.toNat) ((hF2.rL (f := 768) (i := 300) (j := 0) (by decide)).trans (hout c5)) ?_
      refine j_iload (pc := 999) C dL_law_999 0 rfl ?_
      refine jb_if_eq (pc := 1001) C 1008 (b := d) dL_law_1001 (by decide) (fun c6 => ?_) (fun c6 => ?_)
      · refine j_lconst (pc := 1008) C (lN 0) dL_law_1008 (by decide) ?_
        refine j_lcmp (pc := 1009) C dL_law_1009 ?_
        refine jl_if_eq (pc := 1010) C 1015 dL_law_1010 (by decide) (fun c0 => ?_) (fun c0 => (c0 (by rw [c6]; rfl) : False).elim)
        refine j_goto (pc := 1015) C 1865 dL_law_1015 (by decide) ?_
        exact J.wide (by omega) (by omega) (J.to [2, 3, 4, 5, 6] rfl (kk _ _ hv2))
      · refine j_lconst (pc := 1004) C (lN 1) dL_law_1004 (by decide) ?_
        refine j_goto (pc := 1005) C 1009 dL_law_1005 (by decide) ?_
        refine j_lcmp (pc := 1009) C dL_law_1009 ?_
        refine jl_if_eq (pc := 1010) C 1015 dL_law_1010 (by decide) (fun c0 => ?_) (fun c0 => (c0 (by rw [c6]; rfl) : False).elim)
        refine j_goto (pc := 1015) C 1865 dL_law_1015 (by decide) ?_
        exact J.wide (by omega) (by omega) (J.to [2, 3, 4, 5, 6] rfl (kk _ _ hv2))
set_option maxHeartbeats 4000000 in
set_option maxRecDepth 100000 in
theorem lc_14 {X : Cx} {b L : Nat} {ys : Nat → Int32} (K : LC X b L ys) (hst9 : (xl X).stackTraces = false) {i : Nat} (hi : i + 5 ≤ L) (hL : L ≤ 2560) {S : SP} {x9 : Nat → Nat} {a o : Nat} {σ : HS} (hv : LV S x9 a o σ) {k n : Nat} (hk : k + 8 ≤ 601024) (hn : n + 127 ≤ 7293034) (kk : ∀ (S' : SP) (σ' : HS), LV S' x9 a o σ' → J X (k + 8) (n + 127) σ' [(0, .ref b), (1, .ref a), (2, .ref (x9 0)), (3, .ref o), (4, .int (nI i))] [] 1865) : J X k n σ [(0, .ref b), (1, .ref a), (2, .ref (x9 0)), (3, .ref o), (4, .int (nI i))] [] 1018 := by
  obtain ⟨hw, hc, ⟨k9, hs⟩, ha0, ho, hN⟩ := hv
  have C := K.1
  have hM0 := hs.2.1.1
  refine j_aload_n (pc := 1018) C dL_law_1018 rfl 1 rfl ?_
  refine j_aload_n (pc := 1019) C dL_law_1019 rfl 0 rfl ?_
  refine j_iload (pc := 1020) C dL_law_1020 4 rfl ?_
  refine j_iconst (pc := 1022) C (nI 1) dL_law_1022 (by decide) ?_
  refine j_iadd (pc := 1023) C dL_law_1023 ?_
  refine j_topi (nI (i + 1)) (nI_add i 1) ?_
  refine j_sld (pc := 1024) K (i := i + 1) (by omega) hL dL_law_1024 ?_
  refine j_aload_n (pc := 1025) C dL_law_1025 rfl 0 rfl ?_
  refine j_iload (pc := 1026) C dL_law_1026 4 rfl ?_
  refine j_iconst (pc := 1028) C (nI 2) dL_law_1028 (by decide) ?_
  refine j_iadd (pc := 1029) C dL_law_1029 ?_
  refine j_topi (nI (i + 2)) (nI_add i 2) ?_
  refine j_sld (pc := 1030) K (i := i + 2) (by omega) hL dL_law_1030 ?_
  refine j_aload_n (pc := 1031) C dL_law_1031 rfl 3 rfl ?_
  refine j_callSW (pc := 1032) C [.ref a, .int (ys (i + 1)), .int (ys (i + 2)), .ref o] [] (rm0 := room_1) (k' := k + 4) (n' := n + 64) K.2.1 (w_merge (xl X) (xw X) hst9 hw hc ha0 ho hN (ys (i + 1)) (ys (i + 2))) mp_L_merge wm_814 rfl rfl (Nat.le_of_ble_eq_true rfl) dL_law_1032 ⟨by decide, by decide⟩ ⟨show k + 4 ≤ 601024 by omega, show n + 64 ≤ 7293034 by omega⟩ rfl rfl (fun v9 σ1 hp9 => ?_)
  obtain ⟨rfl, h4, hout, hw1, hc1, hF1⟩ := hp9
  have hs1 := hs.fr hF1 (fun t z => tgV_K z)
  show J X (k + 4) (n + 64) σ1 [(0, .ref b), (1, .ref a), (2, .ref (x9 0)), (3, .ref o), (4, .int (nI i))] [.int (nI (s_merge S (ys (i + 1)) (ys (i + 2))).1)] 1035
  refine j_istore (pc := 1035) C [(5, .int (nI (s_merge S (ys (i + 1)) (ys (i + 2))).1)), (0, .ref b), (1, .ref a), (2, .ref (x9 0)), (3, .ref o), (4, .int (nI i))] dL_law_1035 (by decide) rfl ?_
  refine j_aload_n (pc := 1037) C dL_law_1037 rfl 3 rfl ?_
  refine j_aload_n (pc := 1038) C dL_law_1038 rfl 1 rfl ?_
  refine j_iload (pc := 1039) C dL_law_1039 5 rfl ?_
  refine j_iconst (pc := 1041) C (nI 1) dL_law_1041 (by decide) ?_
  refine j_iadd (pc := 1042) C dL_law_1042 ?_
  refine j_topi (nI (i + 1)) (nI_add i 1) ?_
  refine j_sld (pc := 1043) K (i := i + 1) (by omega) hL dL_law_1043 ?_
  refine j_aload_n (pc := 1044) C dL_law_1044 rfl 1 rfl ?_
  refine j_iload (pc := 1045) C dL_law_1045 5 rfl ?_
  refine j_iconst (pc := 1047) C (nI 2) dL_law_1047 (by decide) ?_
  refine j_iadd (pc := 1048) C dL_law_1048 ?_
  refine j_topi (nI (i + 2)) (nI_add i 2) ?_
  refine j_sld (pc := 1049) K (i := i + 2) (by omega) hL dL_law_1049 ?_
  refine j_callV (pc := 1050) C [.int (ys (i + 1)), .int (ys (i + 2))] [] (rm0 := room_1) (k' := k + 4) (n' := n + 64) K.2.1 (c_X10_merge (xl X) (xw X) hs1 hw (ys (i + 1)) (ys (i + 2))) mp_X10_merge wm_1262 (hF1.at hM0) rfl rfl (by decide) rfl rfl (Nat.le_of_ble_eq_true rfl) dL_law_1050 ⟨by decide, by decide⟩ ⟨show k + 4 + 0 ≤ 601024 by omega, show n + 64 + 0 ≤ 7293034 by omega⟩ rfl rfl (fun v8 σ2 hp8 => ?_)
  obtain ⟨rfl, hs2, hM⟩ := hp8
  have hF2 := hM.fr
  have hv2 : LV (s_merge S (ys (i + 1)) (ys (i + 2))).2.2 x9 a o σ2 := ⟨hw1, hc1.fr hw1 hF2 (fun t z y => by rw [tgA_K z] at y; cases y), ⟨_, hs2⟩, hF2.at (hF1.at ha0), hF2.at (hF1.at ho), (hF2.len (hF1.live ho.1)).trans ((hF1.len ho.1).trans hN)⟩
  show J X (k + 4) (n + 64) σ2 [(5, .int (nI (s_merge S (ys (i + 1)) (ys (i + 2))).1)), (0, .ref b), (1, .ref a), (2, .ref (x9 0)), (3, .ref o), (4, .int (nI i))] [.int ((s_merge S (ys (i + 1)) (ys (i + 2))).2.1)] 1053
  refine j_istore (pc := 1053) C [(6, .int ((s_merge S (ys (i + 1)) (ys (i + 2))).2.1)), (5, .int (nI (s_merge S (ys (i + 1)) (ys (i + 2))).1)), (0, .ref b), (1, .ref a), (2, .ref (x9 0)), (3, .ref o), (4, .int (nI i))] dL_law_1053 (by decide) rfl ?_
  refine j_aload_n (pc := 1055) C dL_law_1055 rfl 4 rfl ?_
  refine j_callV (pc := 1056) C [] [] (rm0 := room_1) (k' := k + 4) (n' := n + 64) K.2.1 (c_X10_thrown (xl X) (xw X) hs2) mp_X10_thrown wm_1145 (hF2.at (hF1.at hM0)) rfl rfl (by decide) rfl rfl (Nat.le_of_ble_eq_true rfl) dL_law_1056 ⟨by decide, by decide⟩ ⟨show k + 4 + 0 ≤ 601024 by omega, show n + 64 + 0 ≤ 7293034 by omega⟩ rfl rfl (fun v7 σ3 hp7 => ?_)
  obtain ⟨rfl, rfl⟩ := hp7
  refine j_iload (pc := 1059) C dL_law_1059 1 rfl ?_
  refine j_icmp_eq (pc := 1061) C 1066 dL_law_1061 (by decide) (fun c0 => ?_) (fun c0 => (c0 rfl : False).elim)
  refine j_iload (pc := 1066) C dL_law_1066 1 rfl ?_
  refine jn_if_ne (pc := 1068) C 1083 (a := (s_merge S (ys (i + 1)) (ys (i + 2))).1) (by omega) dL_law_1068 (by decide) (fun c5 => ?_) (fun c5 => ?_)
  · refine j_goto (pc := 1083) C 1865 dL_law_1083 (by decide) ?_
    exact J.wide (by omega) (by omega) (J.to [2, 3, 4, 5, 6] rfl (kk _ _ hv2))
  · refine j_aload_n (pc := 1071) C dL_law_1071 rfl 5 rfl ?_
    refine j_iconst (pc := 1072) C (nI 0) dL_law_1072 (by decide) ?_
    refine j_lald (pc := 1073) C (p := 0) (M := 1) (hF2.at (hF1.at ho)) rfl hv2.2.2.2.2.2 (by decide) (by decide) dL_law_1073 ?_
    refine j_topl ((s_merge S (ys (i + 1)) (ys (i + 2))).2.1.toInt64) ((hF2.rL (f := 768) (i := 300) (j := 0) (by decide)).trans (hout c5)) ?_
    refine j_iload (pc := 1074) C dL_law_1074 0 rfl ?_
    refine j_i2l (pc := 1076) C dL_law_1076 ?_
    refine j_lcmp (pc := 1077) C dL_law_1077 ?_
    refine jl_if_eq (pc := 1078) C 1083 dL_law_1078 (by decide) (fun c0 => ?_) (fun c0 => (c0 rfl : False).elim)
    refine j_goto (pc := 1083) C 1865 dL_law_1083 (by decide) ?_
    exact J.wide (by omega) (by omega) (J.to [2, 3, 4, 5, 6] rfl (kk _ _ hv2))
set_option maxHeartbeats 4000000 in
set_option maxRecDepth 100000 in
theorem lc_15 {X : Cx} {b L : Nat} {ys : Nat → Int32} (K : LC X b L ys) (hst9 : (xl X).stackTraces = false) {i : Nat} (hi : i + 5 ≤ L) (hL : L ≤ 2560) {S : SP} {x9 : Nat → Nat} {a o : Nat} {σ : HS} (hv : LV S x9 a o σ) {k n : Nat} (hk : k + 8 ≤ 601024) (hn : n + 127 ≤ 7293034) (kk : ∀ (S' : SP) (σ' : HS), LV S' x9 a o σ' → J X (k + 8) (n + 127) σ' [(0, .ref b), (1, .ref a), (2, .ref (x9 0)), (3, .ref o), (4, .int (nI i))] [] 1865) : J X k n σ [(0, .ref b), (1, .ref a), (2, .ref (x9 0)), (3, .ref o), (4, .int (nI i))] [] 1086 := by
  obtain ⟨hw, hc, ⟨k9, hs⟩, ha0, ho, hN⟩ := hv
  have C := K.1
  have hM0 := hs.2.1.1
  refine j_aload_n (pc := 1086) C dL_law_1086 rfl 1 rfl ?_
  refine j_aload_n (pc := 1087) C dL_law_1087 rfl 0 rfl ?_
  refine j_iload (pc := 1088) C dL_law_1088 4 rfl ?_
  refine j_iconst (pc := 1090) C (nI 1) dL_law_1090 (by decide) ?_
  refine j_iadd (pc := 1091) C dL_law_1091 ?_
  refine j_topi (nI (i + 1)) (nI_add i 1) ?_
  refine j_sld (pc := 1092) K (i := i + 1) (by omega) hL dL_law_1092 ?_
  refine j_aload_n (pc := 1093) C dL_law_1093 rfl 0 rfl ?_
  refine j_iload (pc := 1094) C dL_law_1094 4 rfl ?_
  refine j_iconst (pc := 1096) C (nI 2) dL_law_1096 (by decide) ?_
  refine j_iadd (pc := 1097) C dL_law_1097 ?_
  refine j_topi (nI (i + 2)) (nI_add i 2) ?_
  refine j_sld (pc := 1098) K (i := i + 2) (by omega) hL dL_law_1098 ?_
  refine j_aload_n (pc := 1099) C dL_law_1099 rfl 3 rfl ?_
  refine j_callSW (pc := 1100) C [.ref a, .int (ys (i + 1)), .int (ys (i + 2)), .ref o] [] (rm0 := room_1) (k' := k + 8) (n' := n + 127) K.2.1 (w_split (xl X) (xw X) hst9 hw hc ha0 ho hN (ys (i + 1)) (ys (i + 2))) mp_L_split wm_877 rfl rfl (Nat.le_of_ble_eq_true rfl) dL_law_1100 ⟨by decide, by decide⟩ ⟨show k + 8 ≤ 601024 by omega, show n + 127 ≤ 7293034 by omega⟩ rfl rfl (fun v9 σ1 hp9 => ?_)
  obtain ⟨rfl, h4, hout, hw1, hc1, hF1⟩ := hp9
  have hs1 := hs.fr hF1 (fun t z => tgV_K z)
  show J X (k + 8) (n + 127) σ1 [(0, .ref b), (1, .ref a), (2, .ref (x9 0)), (3, .ref o), (4, .int (nI i))] [.int (nI (s_split S (ys (i + 1)) (ys (i + 2))).1)] 1103
  refine j_istore (pc := 1103) C [(5, .int (nI (s_split S (ys (i + 1)) (ys (i + 2))).1)), (0, .ref b), (1, .ref a), (2, .ref (x9 0)), (3, .ref o), (4, .int (nI i))] dL_law_1103 (by decide) rfl ?_
  refine j_aload_n (pc := 1105) C dL_law_1105 rfl 3 rfl ?_
  refine j_aload_n (pc := 1106) C dL_law_1106 rfl 1 rfl ?_
  refine j_iload (pc := 1107) C dL_law_1107 5 rfl ?_
  refine j_iconst (pc := 1109) C (nI 1) dL_law_1109 (by decide) ?_
  refine j_iadd (pc := 1110) C dL_law_1110 ?_
  refine j_topi (nI (i + 1)) (nI_add i 1) ?_
  refine j_sld (pc := 1111) K (i := i + 1) (by omega) hL dL_law_1111 ?_
  refine j_aload_n (pc := 1112) C dL_law_1112 rfl 1 rfl ?_
  refine j_iload (pc := 1113) C dL_law_1113 5 rfl ?_
  refine j_iconst (pc := 1115) C (nI 2) dL_law_1115 (by decide) ?_
  refine j_iadd (pc := 1116) C dL_law_1116 ?_
  refine j_topi (nI (i + 2)) (nI_add i 2) ?_
  refine j_sld (pc := 1117) K (i := i + 2) (by omega) hL dL_law_1117 ?_
  refine j_callV (pc := 1118) C [.int (ys (i + 1)), .int (ys (i + 2))] [] (rm0 := room_1) (k' := k + 8) (n' := n + 127) K.2.1 (c_X10_split (xl X) (xw X) hs1 hw (ys (i + 1)) (ys (i + 2))) mp_X10_split wm_1274 (hF1.at hM0) rfl rfl (by decide) rfl rfl (Nat.le_of_ble_eq_true rfl) dL_law_1118 ⟨by decide, by decide⟩ ⟨show k + 8 + 0 ≤ 601024 by omega, show n + 127 + 0 ≤ 7293034 by omega⟩ rfl rfl (fun v8 σ2 hp8 => ?_)
  obtain ⟨rfl, hs2, hM⟩ := hp8
  have hF2 := hM.fr
  have hv2 : LV (s_split S (ys (i + 1)) (ys (i + 2))).2.2 x9 a o σ2 := ⟨hw1, hc1.fr hw1 hF2 (fun t z y => by rw [tgA_K z] at y; cases y), ⟨_, hs2⟩, hF2.at (hF1.at ha0), hF2.at (hF1.at ho), (hF2.len (hF1.live ho.1)).trans ((hF1.len ho.1).trans hN)⟩
  show J X (k + 8) (n + 127) σ2 [(5, .int (nI (s_split S (ys (i + 1)) (ys (i + 2))).1)), (0, .ref b), (1, .ref a), (2, .ref (x9 0)), (3, .ref o), (4, .int (nI i))] [.int ((s_split S (ys (i + 1)) (ys (i + 2))).2.1)] 1121
  refine j_istore (pc := 1121) C [(6, .int ((s_split S (ys (i + 1)) (ys (i + 2))).2.1)), (5, .int (nI (s_split S (ys (i + 1)) (ys (i + 2))).1)), (0, .ref b), (1, .ref a), (2, .ref (x9 0)), (3, .ref o), (4, .int (nI i))] dL_law_1121 (by decide) rfl ?_
  refine j_aload_n (pc := 1123) C dL_law_1123 rfl 4 rfl ?_
  refine j_callV (pc := 1124) C [] [] (rm0 := room_1) (k' := k + 8) (n' := n + 127) K.2.1 (c_X10_thrown (xl X) (xw X) hs2) mp_X10_thrown wm_1145 (hF2.at (hF1.at hM0)) rfl rfl (by decide) rfl rfl (Nat.le_of_ble_eq_true rfl) dL_law_1124 ⟨by decide, by decide⟩ ⟨show k + 8 + 0 ≤ 601024 by omega, show n + 127 + 0 ≤ 7293034 by omega⟩ rfl rfl (fun v7 σ3 hp7 => ?_)
  obtain ⟨rfl, rfl⟩ := hp7
  refine j_iload (pc := 1127) C dL_law_1127 1 rfl ?_
  refine j_icmp_eq (pc := 1129) C 1134 dL_law_1129 (by decide) (fun c0 => ?_) (fun c0 => (c0 rfl : False).elim)
  refine j_iload (pc := 1134) C dL_law_1134 1 rfl ?_
  refine jn_if_ne (pc := 1136) C 1151 (a := (s_split S (ys (i + 1)) (ys (i + 2))).1) (by omega) dL_law_1136 (by decide) (fun c5 => ?_) (fun c5 => ?_)
  · refine j_goto (pc := 1151) C 1865 dL_law_1151 (by decide) ?_
    exact J.wide (by omega) (by omega) (J.to [2, 3, 4, 5, 6] rfl (kk _ _ hv2))
  · refine j_aload_n (pc := 1139) C dL_law_1139 rfl 5 rfl ?_
    refine j_iconst (pc := 1140) C (nI 0) dL_law_1140 (by decide) ?_
    refine j_lald (pc := 1141) C (p := 0) (M := 1) (hF2.at (hF1.at ho)) rfl hv2.2.2.2.2.2 (by decide) (by decide) dL_law_1141 ?_
    refine j_topl ((s_split S (ys (i + 1)) (ys (i + 2))).2.1.toInt64) ((hF2.rL (f := 768) (i := 300) (j := 0) (by decide)).trans (hout c5)) ?_
    refine j_iload (pc := 1142) C dL_law_1142 0 rfl ?_
    refine j_i2l (pc := 1144) C dL_law_1144 ?_
    refine j_lcmp (pc := 1145) C dL_law_1145 ?_
    refine jl_if_eq (pc := 1146) C 1151 dL_law_1146 (by decide) (fun c0 => ?_) (fun c0 => (c0 rfl : False).elim)
    refine j_goto (pc := 1151) C 1865 dL_law_1151 (by decide) ?_
    exact J.wide (by omega) (by omega) (J.to [2, 3, 4, 5, 6] rfl (kk _ _ hv2))
set_option maxHeartbeats 4000000 in
set_option maxRecDepth 100000 in
theorem lc_16 {X : Cx} {b L : Nat} {ys : Nat → Int32} (K : LC X b L ys) (hst9 : (xl X).stackTraces = false) {i : Nat} (hi : i + 5 ≤ L) (hL : L ≤ 2560) {S : SP} {x9 : Nat → Nat} {a o : Nat} {σ : HS} (hv : LV S x9 a o σ) {k n : Nat} (hk : k + 8 ≤ 601024) (hn : n + 127 ≤ 7293034) (kk : ∀ (S' : SP) (σ' : HS), LV S' x9 a o σ' → J X (k + 8) (n + 127) σ' [(0, .ref b), (1, .ref a), (2, .ref (x9 0)), (3, .ref o), (4, .int (nI i))] [] 1865) : J X k n σ [(0, .ref b), (1, .ref a), (2, .ref (x9 0)), (3, .ref o), (4, .int (nI i))] [] 1154 := by
  obtain ⟨hw, hc, ⟨k9, hs⟩, ha0, ho, hN⟩ := hv
  have C := K.1
  have hM0 := hs.2.1.1
  refine j_aload_n (pc := 1154) C dL_law_1154 rfl 1 rfl ?_
  refine j_aload_n (pc := 1155) C dL_law_1155 rfl 3 rfl ?_
  refine j_callSW (pc := 1156) C [.ref a, .ref o] [] (rm0 := room_1) (k' := k + 1) (n' := n + 6) K.2.1 (w_undo (xl X) (xw X) hst9 hw hc ha0 ho hN) mp_L_undo wm_894 rfl rfl (Nat.le_of_ble_eq_true rfl) dL_law_1156 ⟨by decide, by decide⟩ ⟨show k + 1 ≤ 601024 by omega, show n + 6 ≤ 7293034 by omega⟩ rfl rfl (fun v9 σ1 hp9 => ?_)
  obtain ⟨rfl, h4, hout, hw1, hc1, hF1⟩ := hp9
  have hs1 := hs.fr hF1 (fun t z => tgV_K z)
  show J X (k + 1) (n + 6) σ1 [(0, .ref b), (1, .ref a), (2, .ref (x9 0)), (3, .ref o), (4, .int (nI i))] [.int (nI (s_undo S).1)] 1159
  refine j_istore (pc := 1159) C [(5, .int (nI (s_undo S).1)), (0, .ref b), (1, .ref a), (2, .ref (x9 0)), (3, .ref o), (4, .int (nI i))] dL_law_1159 (by decide) rfl ?_
  refine j_aload_n (pc := 1161) C dL_law_1161 rfl 3 rfl ?_
  refine j_callV (pc := 1162) C [] [] (rm0 := room_1) (k' := k + 1) (n' := n + 6) K.2.1 (c_X10_undo (xl X) (xw X) hs1 hw) mp_X10_undo wm_1278 (hF1.at hM0) rfl rfl (by decide) rfl rfl (Nat.le_of_ble_eq_true rfl) dL_law_1162 ⟨by decide, by decide⟩ ⟨show k + 1 + 0 ≤ 601024 by omega, show n + 6 + 0 ≤ 7293034 by omega⟩ rfl rfl (fun v8 σ2 hp8 => ?_)
  obtain ⟨rfl, hs2, hM⟩ := hp8
  have hF2 := hM.fr
  have hv2 : LV (s_undo S).2.2 x9 a o σ2 := ⟨hw1, hc1.fr hw1 hF2 (fun t z y => by rw [tgA_K z] at y; cases y), ⟨_, hs2⟩, hF2.at (hF1.at ha0), hF2.at (hF1.at ho), (hF2.len (hF1.live ho.1)).trans ((hF1.len ho.1).trans hN)⟩
  show J X (k + 1) (n + 6) σ2 [(5, .int (nI (s_undo S).1)), (0, .ref b), (1, .ref a), (2, .ref (x9 0)), (3, .ref o), (4, .int (nI i))] [.int ((s_undo S).2.1)] 1165
  refine j_istore (pc := 1165) C [(6, .int ((s_undo S).2.1)), (5, .int (nI (s_undo S).1)), (0, .ref b), (1, .ref a), (2, .ref (x9 0)), (3, .ref o), (4, .int (nI i))] dL_law_1165 (by decide) rfl ?_
  refine j_aload_n (pc := 1167) C dL_law_1167 rfl 4 rfl ?_
  refine j_callV (pc := 1168) C [] [] (rm0 := room_1) (k' := k + 1) (n' := n + 6) K.2.1 (c_X10_thrown (xl X) (xw X) hs2) mp_X10_thrown wm_1145 (hF2.at (hF1.at hM0)) rfl rfl (by decide) rfl rfl (Nat.le_of_ble_eq_true rfl) dL_law_1168 ⟨by decide, by decide⟩ ⟨show k + 1 + 0 ≤ 601024 by omega, show n + 6 + 0 ≤ 7293034 by omega⟩ rfl rfl (fun v7 σ3 hp7 => ?_)
  obtain ⟨rfl, rfl⟩ := hp7
  refine j_iload (pc := 1171) C dL_law_1171 1 rfl ?_
  refine j_icmp_eq (pc := 1173) C 1178 dL_law_1173 (by decide) (fun c0 => ?_) (fun c0 => (c0 rfl : False).elim)
  refine j_iload (pc := 1178) C dL_law_1178 1 rfl ?_
  refine jn_if_ne (pc := 1180) C 1195 (a := (s_undo S).1) (by omega) dL_law_1180 (by decide) (fun c5 => ?_) (fun c5 => ?_)
  · refine j_goto (pc := 1195) C 1865 dL_law_1195 (by decide) ?_
    exact J.wide (by omega) (by omega) (J.to [2, 3, 4, 5, 6] rfl (kk _ _ hv2))
  · refine j_aload_n (pc := 1183) C dL_law_1183 rfl 5 rfl ?_
    refine j_iconst (pc := 1184) C (nI 0) dL_law_1184 (by decide) ?_
    refine j_lald (pc := 1185) C (p := 0) (M := 1) (hF2.at (hF1.at ho)) rfl hv2.2.2.2.2.2 (by decide) (by decide) dL_law_1185 ?_
    refine j_topl ((s_undo S).2.1.toInt64) ((hF2.rL (f := 768) (i := 300) (j := 0) (by decide)).trans (hout c5)) ?_
    refine j_iload (pc := 1186) C dL_law_1186 0 rfl ?_
    refine j_i2l (pc := 1188) C dL_law_1188 ?_
    refine j_lcmp (pc := 1189) C dL_law_1189 ?_
    refine jl_if_eq (pc := 1190) C 1195 dL_law_1190 (by decide) (fun c0 => ?_) (fun c0 => (c0 rfl : False).elim)
    refine j_goto (pc := 1195) C 1865 dL_law_1195 (by decide) ?_
    exact J.wide (by omega) (by omega) (J.to [2, 3, 4, 5, 6] rfl (kk _ _ hv2))
set_option maxHeartbeats 4000000 in
set_option maxRecDepth 100000 in
theorem lc_17 {X : Cx} {b L : Nat} {ys : Nat → Int32} (K : LC X b L ys) (hst9 : (xl X).stackTraces = false) {i : Nat} (hi : i + 5 ≤ L) (hL : L ≤ 2560) {S : SP} {x9 : Nat → Nat} {a o : Nat} {σ : HS} (hv : LV S x9 a o σ) {k n : Nat} (hk : k + 8 ≤ 601024) (hn : n + 127 ≤ 7293034) (kk : ∀ (S' : SP) (σ' : HS), LV S' x9 a o σ' → J X (k + 8) (n + 127) σ' [(0, .ref b), (1, .ref a), (2, .ref (x9 0)), (3, .ref o), (4, .int (nI i))] [] 1865) : J X k n σ [(0, .ref b), (1, .ref a), (2, .ref (x9 0)), (3, .ref o), (4, .int (nI i))] [] 1198 := by
  obtain ⟨hw, hc, ⟨k9, hs⟩, ha0, ho, hN⟩ := hv
  have C := K.1
  have hM0 := hs.2.1.1
  refine j_aload_n (pc := 1198) C dL_law_1198 rfl 1 rfl ?_
  refine j_aload_n (pc := 1199) C dL_law_1199 rfl 0 rfl ?_
  refine j_iload (pc := 1200) C dL_law_1200 4 rfl ?_
  refine j_iconst (pc := 1202) C (nI 1) dL_law_1202 (by decide) ?_
  refine j_iadd (pc := 1203) C dL_law_1203 ?_
  refine j_topi (nI (i + 1)) (nI_add i 1) ?_
  refine j_sld (pc := 1204) K (i := i + 1) (by omega) hL dL_law_1204 ?_
  refine j_aload_n (pc := 1205) C dL_law_1205 rfl 0 rfl ?_
  refine j_iload (pc := 1206) C dL_law_1206 4 rfl ?_
  refine j_iconst (pc := 1208) C (nI 2) dL_law_1208 (by decide) ?_
  refine j_iadd (pc := 1209) C dL_law_1209 ?_
  refine j_topi (nI (i + 2)) (nI_add i 2) ?_
  refine j_sld (pc := 1210) K (i := i + 2) (by omega) hL dL_law_1210 ?_
  refine j_aload_n (pc := 1211) C dL_law_1211 rfl 3 rfl ?_
  refine j_callSW (pc := 1212) C [.ref a, .int (ys (i + 1)), .int (ys (i + 2)), .ref o] [] (rm0 := room_1) (k' := k + 1) (n' := n + 6) K.2.1 (w_length (xl X) (xw X) hst9 hw hc ha0 ho hN (ys (i + 1)) (ys (i + 2))) mp_L_length wm_918 rfl rfl (Nat.le_of_ble_eq_true rfl) dL_law_1212 ⟨by decide, by decide⟩ ⟨show k + 1 ≤ 601024 by omega, show n + 6 ≤ 7293034 by omega⟩ rfl rfl (fun v9 σ1 hp9 => ?_)
  obtain ⟨rfl, h4, hout, hw1, hc1, hF1⟩ := hp9
  have hs1 := hs.fr hF1 (fun t z => tgV_K z)
  show J X (k + 1) (n + 6) σ1 [(0, .ref b), (1, .ref a), (2, .ref (x9 0)), (3, .ref o), (4, .int (nI i))] [.int (nI (s_length S (ys (i + 1)) (ys (i + 2))).1)] 1215
  refine j_istore (pc := 1215) C [(5, .int (nI (s_length S (ys (i + 1)) (ys (i + 2))).1)), (0, .ref b), (1, .ref a), (2, .ref (x9 0)), (3, .ref o), (4, .int (nI i))] dL_law_1215 (by decide) rfl ?_
  refine j_aload_n (pc := 1217) C dL_law_1217 rfl 3 rfl ?_
  refine j_aload_n (pc := 1218) C dL_law_1218 rfl 1 rfl ?_
  refine j_iload (pc := 1219) C dL_law_1219 5 rfl ?_
  refine j_iconst (pc := 1221) C (nI 1) dL_law_1221 (by decide) ?_
  refine j_iadd (pc := 1222) C dL_law_1222 ?_
  refine j_topi (nI (i + 1)) (nI_add i 1) ?_
  refine j_sld (pc := 1223) K (i := i + 1) (by omega) hL dL_law_1223 ?_
  refine j_aload_n (pc := 1224) C dL_law_1224 rfl 1 rfl ?_
  refine j_iload (pc := 1225) C dL_law_1225 5 rfl ?_
  refine j_iconst (pc := 1227) C (nI 2) dL_law_1227 (by decide) ?_
  refine j_iadd (pc := 1228) C dL_law_1228 ?_
  refine j_topi (nI (i + 2)) (nI_add i 2) ?_
  refine j_sld (pc := 1229) K (i := i + 2) (by omega) hL dL_law_1229 ?_
  refine j_callV (pc := 1230) C [.int (ys (i + 1)), .int (ys (i + 2))] [] (rm0 := room_1) (k' := k + 1) (n' := n + 6) K.2.1 (c_X10_length (xl X) (xw X) hs1 hw (ys (i + 1)) (ys (i + 2))) mp_X10_length wm_1282 (hF1.at hM0) rfl rfl (by decide) rfl rfl (Nat.le_of_ble_eq_true rfl) dL_law_1230 ⟨by decide, by decide⟩ ⟨show k + 1 + 0 ≤ 601024 by omega, show n + 6 + 0 ≤ 7293034 by omega⟩ rfl rfl (fun v8 σ2 hp8 => ?_)
  obtain ⟨rfl, hs2, hM⟩ := hp8
  have hF2 := hM.fr
  have hv2 : LV (s_length S (ys (i + 1)) (ys (i + 2))).2.2 x9 a o σ2 := ⟨hw1, hc1.fr hw1 hF2 (fun t z y => by rw [tgA_K z] at y; cases y), ⟨_, hs2⟩, hF2.at (hF1.at ha0), hF2.at (hF1.at ho), (hF2.len (hF1.live ho.1)).trans ((hF1.len ho.1).trans hN)⟩
  show J X (k + 1) (n + 6) σ2 [(5, .int (nI (s_length S (ys (i + 1)) (ys (i + 2))).1)), (0, .ref b), (1, .ref a), (2, .ref (x9 0)), (3, .ref o), (4, .int (nI i))] [.int ((s_length S (ys (i + 1)) (ys (i + 2))).2.1)] 1233
  refine j_istore (pc := 1233) C [(6, .int ((s_length S (ys (i + 1)) (ys (i + 2))).2.1)), (5, .int (nI (s_length S (ys (i + 1)) (ys (i + 2))).1)), (0, .ref b), (1, .ref a), (2, .ref (x9 0)), (3, .ref o), (4, .int (nI i))] dL_law_1233 (by decide) rfl ?_
  refine j_aload_n (pc := 1235) C dL_law_1235 rfl 4 rfl ?_
  refine j_callV (pc := 1236) C [] [] (rm0 := room_1) (k' := k + 1) (n' := n + 6) K.2.1 (c_X10_thrown (xl X) (xw X) hs2) mp_X10_thrown wm_1145 (hF2.at (hF1.at hM0)) rfl rfl (by decide) rfl rfl (Nat.le_of_ble_eq_true rfl) dL_law_1236 ⟨by decide, by decide⟩ ⟨show k + 1 + 0 ≤ 601024 by omega, show n + 6 + 0 ≤ 7293034 by omega⟩ rfl rfl (fun v7 σ3 hp7 => ?_)
  obtain ⟨rfl, rfl⟩ := hp7
  refine j_iload (pc := 1239) C dL_law_1239 1 rfl ?_
  refine j_icmp_eq (pc := 1241) C 1246 dL_law_1241 (by decide) (fun c0 => ?_) (fun c0 => (c0 rfl : False).elim)
  refine j_iload (pc := 1246) C dL_law_1246 1 rfl ?_
  refine jn_if_ne (pc := 1248) C 1263 (a := (s_length S (ys (i + 1)) (ys (i + 2))).1) (by omega) dL_law_1248 (by decide) (fun c5 => ?_) (fun c5 => ?_)
  · refine j_goto (pc := 1263) C 1865 dL_law_1263 (by decide) ?_
    exact J.wide (by omega) (by omega) (J.to [2, 3, 4, 5, 6] rfl (kk _ _ hv2))
  · refine j_aload_n (pc := 1251) C dL_law_1251 rfl 5 rfl ?_
    refine j_iconst (pc := 1252) C (nI 0) dL_law_1252 (by decide) ?_
    refine j_lald (pc := 1253) C (p := 0) (M := 1) (hF2.at (hF1.at ho)) rfl hv2.2.2.2.2.2 (by decide) (by decide) dL_law_1253 ?_
    refine j_topl ((s_length S (ys (i + 1)) (ys (i + 2))).2.1.toInt64) ((hF2.rL (f := 768) (i := 300) (j := 0) (by decide)).trans (hout c5)) ?_
    refine j_iload (pc := 1254) C dL_law_1254 0 rfl ?_
    refine j_i2l (pc := 1256) C dL_law_1256 ?_
    refine j_lcmp (pc := 1257) C dL_law_1257 ?_
    refine jl_if_eq (pc := 1258) C 1263 dL_law_1258 (by decide) (fun c0 => ?_) (fun c0 => (c0 rfl : False).elim)
    refine j_goto (pc := 1263) C 1865 dL_law_1263 (by decide) ?_
    exact J.wide (by omega) (by omega) (J.to [2, 3, 4, 5, 6] rfl (kk _ _ hv2))
set_option maxHeartbeats 4000000 in
set_option maxRecDepth 100000 in
theorem lc_18 {X : Cx} {b L : Nat} {ys : Nat → Int32} (K : LC X b L ys) (hst9 : (xl X).stackTraces = false) {i : Nat} (hi : i + 5 ≤ L) (hL : L ≤ 2560) {S : SP} {x9 : Nat → Nat} {a o : Nat} {σ : HS} (hv : LV S x9 a o σ) {k n : Nat} (hk : k + 8 ≤ 601024) (hn : n + 127 ≤ 7293034) (kk : ∀ (S' : SP) (σ' : HS), LV S' x9 a o σ' → J X (k + 8) (n + 127) σ' [(0, .ref b), (1, .ref a), (2, .ref (x9 0)), (3, .ref o), (4, .int (nI i))] [] 1865) : J X k n σ [(0, .ref b), (1, .ref a), (2, .ref (x9 0)), (3, .ref o), (4, .int (nI i))] [] 1266 := by
  obtain ⟨hw, hc, ⟨k9, hs⟩, ha0, ho, hN⟩ := hv
  have C := K.1
  have hM0 := hs.2.1.1
  refine j_aload_n (pc := 1266) C dL_law_1266 rfl 1 rfl ?_
  refine j_aload_n (pc := 1267) C dL_law_1267 rfl 0 rfl ?_
  refine j_iload (pc := 1268) C dL_law_1268 4 rfl ?_
  refine j_iconst (pc := 1270) C (nI 1) dL_law_1270 (by decide) ?_
  refine j_iadd (pc := 1271) C dL_law_1271 ?_
  refine j_topi (nI (i + 1)) (nI_add i 1) ?_
  refine j_sld (pc := 1272) K (i := i + 1) (by omega) hL dL_law_1272 ?_
  refine j_aload_n (pc := 1273) C dL_law_1273 rfl 0 rfl ?_
  refine j_iload (pc := 1274) C dL_law_1274 4 rfl ?_
  refine j_iconst (pc := 1276) C (nI 2) dL_law_1276 (by decide) ?_
  refine j_iadd (pc := 1277) C dL_law_1277 ?_
  refine j_topi (nI (i + 2)) (nI_add i 2) ?_
  refine j_sld (pc := 1278) K (i := i + 2) (by omega) hL dL_law_1278 ?_
  refine j_aload_n (pc := 1279) C dL_law_1279 rfl 0 rfl ?_
  refine j_iload (pc := 1280) C dL_law_1280 4 rfl ?_
  refine j_iconst (pc := 1282) C (nI 3) dL_law_1282 (by decide) ?_
  refine j_iadd (pc := 1283) C dL_law_1283 ?_
  refine j_topi (nI (i + 3)) (nI_add i 3) ?_
  refine j_sld (pc := 1284) K (i := i + 3) (by omega) hL dL_law_1284 ?_
  refine j_aload_n (pc := 1285) C dL_law_1285 rfl 3 rfl ?_
  refine j_callSW (pc := 1286) C [.ref a, .int (ys (i + 1)), .int (ys (i + 2)), .int (ys (i + 3)), .ref o] [] (rm0 := room_1) (k' := k + 1) (n' := n + 6) K.2.1 (w_at (xl X) (xw X) hst9 hw hc ha0 ho hN (ys (i + 1)) (ys (i + 2)) (ys (i + 3))) mp_L_at wm_937 rfl rfl (Nat.le_of_ble_eq_true rfl) dL_law_1286 ⟨by decide, by decide⟩ ⟨show k + 1 ≤ 601024 by omega, show n + 6 ≤ 7293034 by omega⟩ rfl rfl (fun v9 σ1 hp9 => ?_)
  obtain ⟨rfl, h4, hout, hw1, hc1, hF1⟩ := hp9
  have hs1 := hs.fr hF1 (fun t z => tgV_K z)
  show J X (k + 1) (n + 6) σ1 [(0, .ref b), (1, .ref a), (2, .ref (x9 0)), (3, .ref o), (4, .int (nI i))] [.int (nI (s_at S (ys (i + 1)) (ys (i + 2)) (ys (i + 3))).1)] 1289
  refine j_istore (pc := 1289) C [(5, .int (nI (s_at S (ys (i + 1)) (ys (i + 2)) (ys (i + 3))).1)), (0, .ref b), (1, .ref a), (2, .ref (x9 0)), (3, .ref o), (4, .int (nI i))] dL_law_1289 (by decide) rfl ?_
  refine j_aload_n (pc := 1291) C dL_law_1291 rfl 3 rfl ?_
  refine j_aload_n (pc := 1292) C dL_law_1292 rfl 1 rfl ?_
  refine j_iload (pc := 1293) C dL_law_1293 5 rfl ?_
  refine j_iconst (pc := 1295) C (nI 1) dL_law_1295 (by decide) ?_
  refine j_iadd (pc := 1296) C dL_law_1296 ?_
  refine j_topi (nI (i + 1)) (nI_add i 1) ?_
  refine j_sld (pc := 1297) K (i := i + 1) (by omega) hL dL_law_1297 ?_
  refine j_aload_n (pc := 1298) C dL_law_1298 rfl 1 rfl ?_
  refine j_iload (pc := 1299) C dL_law_1299 5 rfl ?_
  refine j_iconst (pc := 1301) C (nI 2) dL_law_1301 (by decide) ?_
  refine j_iadd (pc := 1302) C dL_law_1302 ?_
  refine j_topi (nI (i + 2)) (nI_add i 2) ?_
  refine j_sld (pc := 1303) K (i := i + 2) (by omega) hL dL_law_1303 ?_
  refine j_aload_n (pc := 1304) C dL_law_1304 rfl 1 rfl ?_
  refine j_iload (pc := 1305) C dL_law_1305 5 rfl ?_
  refine j_iconst (pc := 1307) C (nI 3) dL_law_1307 (by decide) ?_
  refine j_iadd (pc := 1308) C dL_law_1308 ?_
  refine j_topi (nI (i + 3)) (nI_add i 3) ?_
  refine j_sld (pc := 1309) K (i := i + 3) (by omega) hL dL_law_1309 ?_
  refine j_callV (pc := 1310) C [.int (ys (i + 1)), .int (ys (i + 2)), .int (ys (i + 3))] [] (rm0 := room_1) (k' := k + 1) (n' := n + 6) K.2.1 (c_X10_at (xl X) (xw X) hs1 hw (ys (i + 1)) (ys (i + 2)) (ys (i + 3))) mp_X10_at wm_1313 (hF1.at hM0) rfl rfl (by decide) rfl rfl (Nat.le_of_ble_eq_true rfl) dL_law_1310 ⟨by decide, by decide⟩ ⟨show k + 1 + 0 ≤ 601024 by omega, show n + 6 + 0 ≤ 7293034 by omega⟩ rfl rfl (fun v8 σ2 hp8 => ?_)
  obtain ⟨rfl, hs2, hM⟩ := hp8
  have hF2 := hM.fr
  have hv2 : LV (s_at S (ys (i + 1)) (ys (i + 2)) (ys (i + 3))).2.2 x9 a o σ2 := ⟨hw1, hc1.fr hw1 hF2 (fun t z y => by rw [tgA_K z] at y; cases y), ⟨_, hs2⟩, hF2.at (hF1.at ha0), hF2.at (hF1.at ho), (hF2.len (hF1.live ho.1)).trans ((hF1.len ho.1).trans hN)⟩
  show J X (k + 1) (n + 6) σ2 [(5, .int (nI (s_at S (ys (i + 1)) (ys (i + 2)) (ys (i + 3))).1)), (0, .ref b), (1, .ref a), (2, .ref (x9 0)), (3, .ref o), (4, .int (nI i))] [.int ((s_at S (ys (i + 1)) (ys (i + 2)) (ys (i + 3))).2.1)] 1313
  refine j_istore (pc := 1313) C [(6, .int ((s_at S (ys (i + 1)) (ys (i + 2)) (ys (i + 3))).2.1)), (5, .int (nI (s_at S (ys (i + 1)) (ys (i + 2)) (ys (i + 3))).1)), (0, .ref b), (1, .ref a), (2, .ref (x9 0)), (3, .ref o), (4, .int (nI i))] dL_law_1313 (by decide) rfl ?_
  refine j_aload_n (pc := 1315) C dL_law_1315 rfl 4 rfl ?_
  refine j_callV (pc := 1316) C [] [] (rm0 := room_1) (k' := k + 1) (n' := n + 6) K.2.1 (c_X10_thrown (xl X) (xw X) hs2) mp_X10_thrown wm_1145 (hF2.at (hF1.at hM0)) rfl rfl (by decide) rfl rfl (Nat.le_of_ble_eq_true rfl) dL_law_1316 ⟨by decide, by decide⟩ ⟨show k + 1 + 0 ≤ 601024 by omega, show n + 6 + 0 ≤ 7293034 by omega⟩ rfl rfl (fun v7 σ3 hp7 => ?_)
  obtain ⟨rfl, rfl⟩ := hp7
  refine j_iload (pc := 1319) C dL_law_1319 1 rfl ?_
  refine j_icmp_eq (pc := 1321) C 1326 dL_law_1321 (by decide) (fun c0 => ?_) (fun c0 => (c0 rfl : False).elim)
  refine j_iload (pc := 1326) C dL_law_1326 1 rfl ?_
  refine jn_if_ne (pc := 1328) C 1343 (a := (s_at S (ys (i + 1)) (ys (i + 2)) (ys (i + 3))).1) (by omega) dL_law_1328 (by decide) (fun c5 => ?_) (fun c5 => ?_)
  · refine j_goto (pc := 1343) C 1865 dL_law_1343 (by decide) ?_
    exact J.wide (by omega) (by omega) (J.to [2, 3, 4, 5, 6] rfl (kk _ _ hv2))
  · refine j_aload_n (pc := 1331) C dL_law_1331 rfl 5 rfl ?_
    refine j_iconst (pc := 1332) C (nI 0) dL_law_1332 (by decide) ?_
    refine j_lald (pc := 1333) C (p := 0) (M := 1) (hF2.at (hF1.at ho)) rfl hv2.2.2.2.2.2 (by decide) (by decide) dL_law_1333 ?_
    refine j_topl ((s_at S (ys (i + 1)) (ys (i + 2)) (ys (i + 3))).2.1.toInt64) ((hF2.rL (f := 768) (i := 300) (j := 0) (by decide)).trans (hout c5)) ?_
    refine j_iload (pc := 1334) C dL_law_1334 0 rfl ?_
    refine j_i2l (pc := 1336) C dL_law_1336 ?_
    refine j_lcmp (pc := 1337) C dL_law_1337 ?_
    refine jl_if_eq (pc := 1338) C 1343 dL_law_1338 (by decide) (fun c0 => ?_) (fun c0 => (c0 rfl : False).elim)
    refine j_goto (pc := 1343) C 1865 dL_law_1343 (by decide) ?_
    exact J.wide (by omega) (by omega) (J.to [2, 3, 4, 5, 6] rfl (kk _ _ hv2))
set_option maxHeartbeats 4000000 in
set_option maxRecDepth 100000 in
theorem lc_19 {X : Cx} {b L : Nat} {ys : Nat → Int32} (K : LC X b L ys) (hst9 : (xl X).stackTraces = false) {i : Nat} (hi : i + 5 ≤ L) (hL : L ≤ 2560) {S : SP} {x9 : Nat → Nat} {a o : Nat} {σ : HS} (hv : LV S x9 a o σ) {k n : Nat} (hk : k + 8 ≤ 601024) (hn : n + 127 ≤ 7293034) (kk : ∀ (S' : SP) (σ' : HS), LV S' x9 a o σ' → J X (k + 8) (n + 127) σ' [(0, .ref b), (1, .ref a), (2, .ref (x9 0)), (3, .ref o), (4, .int (nI i))] [] 1865) : J X k n σ [(0, .ref b), (1, .ref a), (2, .ref (x9 0)), (3, .ref o), (4, .int (nI i))] [] 1346 := by
  obtain ⟨hw, hc, ⟨k9, hs⟩, ha0, ho, hN⟩ := hv
  have C := K.1
  have hM0 := hs.2.1.1
  refine j_aload_n (pc := 1346) C dL_law_1346 rfl 1 rfl ?_
  refine j_aload_n (pc := 1347) C dL_law_1347 rfl 0 rfl ?_
  refine j_iload (pc := 1348) C dL_law_1348 4 rfl ?_
  refine j_iconst (pc := 1350) C (nI 1) dL_law_1350 (by decide) ?_
  refine j_iadd (pc := 1351) C dL_law_1351 ?_
  refine j_topi (nI (i + 1)) (nI_add i 1) ?_
  refine j_sld (pc := 1352) K (i := i + 1) (by omega) hL dL_law_1352 ?_
  refine j_aload_n (pc := 1353) C dL_law_1353 rfl 0 rfl ?_
  refine j_iload (pc := 1354) C dL_law_1354 4 rfl ?_
  refine j_iconst (pc := 1356) C (nI 2) dL_law_1356 (by decide) ?_
  refine j_iadd (pc := 1357) C dL_law_1357 ?_
  refine j_topi (nI (i + 2)) (nI_add i 2) ?_
  refine j_sld (pc := 1358) K (i := i + 2) (by omega) hL dL_law_1358 ?_
  refine j_aload_n (pc := 1359) C dL_law_1359 rfl 0 rfl ?_
  refine j_iload (pc := 1360) C dL_law_1360 4 rfl ?_
  refine j_iconst (pc := 1362) C (nI 3) dL_law_1362 (by decide) ?_
  refine j_iadd (pc := 1363) C dL_law_1363 ?_
  refine j_topi (nI (i + 3)) (nI_add i 3) ?_
  refine j_sld (pc := 1364) K (i := i + 3) (by omega) hL dL_law_1364 ?_
  refine j_aload_n (pc := 1365) C dL_law_1365 rfl 3 rfl ?_
  refine j_callSW (pc := 1366) C [.ref a, .int (ys (i + 1)), .int (ys (i + 2)), .int (ys (i + 3)), .ref o] [] (rm0 := room_1) (k' := k + 1) (n' := n + 6) K.2.1 (w_step (xl X) (xw X) hst9 hw hc ha0 ho hN (ys (i + 1)) (ys (i + 2)) (ys (i + 3))) mp_L_step wm_951 rfl rfl (Nat.le_of_ble_eq_true rfl) dL_law_1366 ⟨by decide, by decide⟩ ⟨show k + 1 ≤ 601024 by omega, show n + 6 ≤ 7293034 by omega⟩ rfl rfl (fun v9 σ1 hp9 => ?_)
  obtain ⟨rfl, h4, hout, hw1, hc1, hF1⟩ := hp9
  have hs1 := hs.fr hF1 (fun t z => tgV_K z)
  show J X (k + 1) (n + 6) σ1 [(0, .ref b), (1, .ref a), (2, .ref (x9 0)), (3, .ref o), (4, .int (nI i))] [.int (nI (s_step S (ys (i + 1)) (ys (i + 2)) (ys (i + 3))).1)] 1369
  refine j_istore (pc := 1369) C [(5, .int (nI (s_step S (ys (i + 1)) (ys (i + 2)) (ys (i + 3))).1)), (0, .ref b), (1, .ref a), (2, .ref (x9 0)), (3, .ref o), (4, .int (nI i))] dL_law_1369 (by decide) rfl ?_
  refine j_aload_n (pc := 1371) C dL_law_1371 rfl 3 rfl ?_
  refine j_aload_n (pc := 1372) C dL_law_1372 rfl 1 rfl ?_
  refine j_iload (pc := 1373) C dL_law_1373 5 rfl ?_
  refine j_iconst (pc := 1375) C (nI 1) dL_law_1375 (by decide) ?_
  refine j_iadd (pc := 1376) C dL_law_1376 ?_
  refine j_topi (nI (i + 1)) (nI_add i 1) ?_
  refine j_sld (pc := 1377) K (i := i + 1) (by omega) hL dL_law_1377 ?_
  refine j_aload_n (pc := 1378) C dL_law_1378 rfl 1 rfl ?_
  refine j_iload (pc := 1379) C dL_law_1379 5 rfl ?_
  refine j_iconst (pc := 1381) C (nI 2) dL_law_1381 (by decide) ?_
  refine j_iadd (pc := 1382) C dL_law_1382 ?_
  refine j_topi (nI (i + 2)) (nI_add i 2) ?_
  refine j_sld (pc := 1383) K (i := i + 2) (by omega) hL dL_law_1383 ?_
  refine j_aload_n (pc := 1384) C dL_law_1384 rfl 1 rfl ?_
  refine j_iload (pc := 1385) C dL_law_1385 5 rfl ?_
  refine j_iconst (pc := 1387) C (nI 3) dL_law_1387 (by decide) ?_
  refine j_iadd (pc := 1388) C dL_law_1388 ?_
  refine j_topi (nI (i + 3)) (nI_add i 3) ?_
  refine j_sld (pc := 1389) K (i := i + 3) (by omega) hL dL_law_1389 ?_
  refine j_callV (pc := 1390) C [.int (ys (i + 1)), .int (ys (i + 2)), .int (ys (i + 3))] [] (rm0 := room_1) (k' := k + 1) (n' := n + 6) K.2.1 (c_X10_step (xl X) (xw X) hs1 hw (ys (i + 1)) (ys (i + 2)) (ys (i + 3))) mp_X10_step wm_1317 (hF1.at hM0) rfl rfl (by decide) rfl rfl (Nat.le_of_ble_eq_true rfl) dL_law_1390 ⟨by decide, by decide⟩ ⟨show k + 1 + 0 ≤ 601024 by omega, show n + 6 + 0 ≤ 7293034 by omega⟩ rfl rfl (fun v8 σ2 hp8 => ?_)
  obtain ⟨rfl, hs2, hM⟩ := hp8
  have hF2 := hM.fr
  have hv2 : LV (s_step S (ys (i + 1)) (ys (i + 2)) (ys (i + 3))).2.2 x9 a o σ2 := ⟨hw1, hc1.fr hw1 hF2 (fun t z y => by rw [tgA_K z] at y; cases y), ⟨_, hs2⟩, hF2.at (hF1.at ha0), hF2.at (hF1.at ho), (hF2.len (hF1.live ho.1)).trans ((hF1.len ho.1).trans hN)⟩
  show J X (k + 1) (n + 6) σ2 [(5, .int (nI (s_step S (ys (i + 1)) (ys (i + 2)) (ys (i + 3))).1)), (0, .ref b), (1, .ref a), (2, .ref (x9 0)), (3, .ref o), (4, .int (nI i))] [.int ((s_step S (ys (i + 1)) (ys (i + 2)) (ys (i + 3))).2.1)] 1393
  refine j_istore (pc := 1393) C [(6, .int ((s_step S (ys (i + 1)) (ys (i + 2)) (ys (i + 3))).2.1)), (5, .int (nI (s_step S (ys (i + 1)) (ys (i + 2)) (ys (i + 3))).1)), (0, .ref b), (1, .ref a), (2, .ref (x9 0)), (3, .ref o), (4, .int (nI i))] dL_law_1393 (by decide) rfl ?_
  refine j_aload_n (pc := 1395) C dL_law_1395 rfl 4 rfl ?_
  refine j_callV (pc := 1396) C [] [] (rm0 := room_1) (k' := k + 1) (n' := n + 6) K.2.1 (c_X10_thrown (xl X) (xw X) hs2) mp_X10_thrown wm_1145 (hF2.at (hF1.at hM0)) rfl rfl (by decide) rfl rfl (Nat.le_of_ble_eq_true rfl) dL_law_1396 ⟨by decide, by decide⟩ ⟨show k + 1 + 0 ≤ 601024 by omega, show n + 6 + 0 ≤ 7293034 by omega⟩ rfl rfl (fun v7 σ3 hp7 => ?_)
  obtain ⟨rfl, rfl⟩ := hp7
  refine j_iload (pc := 1399) C dL_law_1399 1 rfl ?_
  refine j_icmp_eq (pc := 1401) C 1406 dL_law_1401 (by decide) (fun c0 => ?_) (fun c0 => (c0 rfl : False).elim)
  refine j_iload (pc := 1406) C dL_law_1406 1 rfl ?_
  refine jn_if_ne (pc := 1408) C 1423 (a := (s_step S (ys (i + 1)) (ys (i + 2)) (ys (i + 3))).1) (by omega) dL_law_1408 (by decide) (fun c5 => ?_) (fun c5 => ?_)
  · refine j_goto (pc := 1423) C 1865 dL_law_1423 (by decide) ?_
    exact J.wide (by omega) (by omega) (J.to [2, 3, 4, 5, 6] rfl (kk _ _ hv2))
  · refine j_aload_n (pc := 1411) C dL_law_1411 rfl 5 rfl ?_
    refine j_iconst (pc := 1412) C (nI 0) dL_law_1412 (by decide) ?_
    refine j_lald (pc := 1413) C (p := 0) (M := 1) (hF2.at (hF1.at ho)) rfl hv2.2.2.2.2.2 (by decide) (by decide) dL_law_1413 ?_
    refine j_topl ((s_step S (ys (i + 1)) (ys (i + 2)) (ys (i + 3))).2.1.toInt64) ((hF2.rL (f := 768) (i := 300) (j := 0) (by decide)).trans (hout c5)) ?_
    refine j_iload (pc := 1414) C dL_law_1414 0 rfl ?_
    refine j_i2l (pc := 1416) C dL_law_1416 ?_
    refine j_lcmp (pc := 1417) C dL_law_1417 ?_
    refine jl_if_eq (pc := 1418) C 1423 dL_law_1418 (by decide) (fun c0 => ?_) (fun c0 => (c0 rfl : False).elim)
    refine j_goto (pc := 1423) C 1865 dL_law_1423 (by decide) ?_
    exact J.wide (by omega) (by omega) (J.to [2, 3, 4, 5, 6] rfl (kk _ _ hv2))
