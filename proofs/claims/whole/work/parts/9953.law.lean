set_option maxHeartbeats 4000000 in
set_option maxRecDepth 100000 in
theorem lc_20 {X : Cx} {b L : Nat} {ys : Nat → Int32} (K : LC X b L ys) (hst9 : (xl X).stackTraces = false) {i : Nat} (hi : i + 5 ≤ L) (hL : L ≤ 2560) {S : SP} {x9 : Nat → Nat} {a o : Nat} {σ : HS} (hv : LV S x9 a o σ) {k n : Nat} (hk : k + 8 ≤ 601024) (hn : n + 127 ≤ 7293034) (kk : ∀ (S' : SP) (σ' : HS), LV S' x9 a o σ' → J X (k + 8) (n + 127) σ' [(0, .ref b), (1, .ref a), (2, .ref (x9 0)), (3, .ref o), (4, .int (nI i))] [] 1865) : J X k n σ [(0, .ref b), (1, .ref a), (2, .ref (x9 0)), (3, .ref o), (4, .int (nI i))] [] 1426 := by
  obtain ⟨hw, hc, ⟨k9, hs⟩, ha0, ho, hN⟩ := hv
  have C := K.1
  have hM0 := hs.2.1.1
  refine j_aload_n (pc := 1426) C dL_law_1426 rfl 1 rfl ?_
  refine j_aload_n (pc := 1427) C dL_law_1427 rfl 0 rfl ?_
  refine j_iload (pc := 1428) C dL_law_1428 4 rfl ?_
  refine j_iconst (pc := 1430) C (nI 1) dL_law_1430 (by decide) ?_
  refine j_iadd (pc := 1431) C dL_law_1431 ?_
  refine j_topi (nI (i + 1)) (nI_add i 1) ?_
  refine j_sld (pc := 1432) K (i := i + 1) (by omega) hL dL_law_1432 ?_
  refine j_aload_n (pc := 1433) C dL_law_1433 rfl 0 rfl ?_
  refine j_iload (pc := 1434) C dL_law_1434 4 rfl ?_
  refine j_iconst (pc := 1436) C (nI 2) dL_law_1436 (by decide) ?_
  refine j_iadd (pc := 1437) C dL_law_1437 ?_
  refine j_topi (nI (i + 2)) (nI_add i 2) ?_
  refine j_sld (pc := 1438) K (i := i + 2) (by omega) hL dL_law_1438 ?_
  refine j_aload_n (pc := 1439) C dL_law_1439 rfl 3 rfl ?_
  refine j_callSW (pc := 1440) C [.ref a, .int (ys (i + 1)), .int (ys (i + 2)), .ref o] [] (rm0 := room_1) (k' := k + 1) (n' := n + 6) K.2.1 (w_ofWord (xl X) (xw X) hst9 hw hc ha0 ho hN (ys (i + 1)) (ys (i + 2))) mp_L_ofWord wm_965 rfl rfl (Nat.le_of_ble_eq_true rfl) dL_law_1440 ⟨by decide, by decide⟩ ⟨show k + 1 ≤ 601024 by omega, show n + 6 ≤ 7293034 by omega⟩ rfl rfl (fun v9 σ1 hp9 => ?_)
  obtain ⟨rfl, h4, hout, hw1, hc1, hF1⟩ := hp9
  have hs1 := hs.fr hF1 (fun t z => tgV_K z)
  show J X (k + 1) (n + 6) σ1 [(0, .ref b), (1, .ref a), (2, .ref (x9 0)), (3, .ref o), (4, .int (nI i))] [.int (nI (s_ofWord S (ys (i + 1)) (ys (i + 2))).1)] 1443
  refine j_istore (pc := 1443) C [(5, .int (nI (s_ofWord S (ys (i + 1)) (ys (i + 2))).1)), (0, .ref b), (1, .ref a), (2, .ref (x9 0)), (3, .ref o), (4, .int (nI i))] dL_law_1443 (by decide) rfl ?_
  refine j_aload_n (pc := 1445) C dL_law_1445 rfl 3 rfl ?_
  refine j_aload_n (pc := 1446) C dL_law_1446 rfl 1 rfl ?_
  refine j_iload (pc := 1447) C dL_law_1447 5 rfl ?_
  refine j_iconst (pc := 1449) C (nI 1) dL_law_1449 (by decide) ?_
  refine j_iadd (pc := 1450) C dL_law_1450 ?_
  refine j_topi (nI (i + 1)) (nI_add i 1) ?_
  refine j_sld (pc := 1451) K (i := i + 1) (by omega) hL dL_law_1451 ?_
  refine j_aload_n (pc := 1452) C dL_law_1452 rfl 1 rfl ?_
  refine j_iload (pc := 1453) C dL_law_1453 5 rfl ?_
  refine j_iconst (pc := 1455) C (nI 2) dL_law_1455 (by decide) ?_
  refine j_iadd (pc := 1456) C dL_law_1456 ?_
  refine j_topi (nI (i + 2)) (nI_add i 2) ?_
  refine j_sld (pc := 1457) K (i := i + 2) (by omega) hL dL_law_1457 ?_
  refine j_callV (pc := 1458) C [.int (ys (i + 1)), .int (ys (i + 2))] [] (rm0 := room_1) (k' := k + 1) (n' := n + 6) K.2.1 (c_X10_ofWord (xl X) (xw X) hs1 hw (ys (i + 1)) (ys (i + 2))) mp_X10_ofWord wm_1325 (hF1.at hM0) rfl rfl (by decide) rfl rfl (Nat.le_of_ble_eq_true rfl) dL_law_1458 ⟨by decide, by decide⟩ ⟨show k + 1 + 0 ≤ 601024 by omega, show n + 6 + 0 ≤ 7293034 by omega⟩ rfl rfl (fun v8 σ2 hp8 => ?_)
  obtain ⟨rfl, hs2, hM⟩ := hp8
  have hF2 := hM.fr
  have hv2 : LV (s_ofWord S (ys (i + 1)) (ys (i + 2))).2.2 x9 a o σ2 := ⟨hw1, hc1.fr hw1 hF2 (fun t z y => by rw [tgA_K z] at y; cases y), ⟨_, hs2⟩, hF2.at (hF1.at ha0), hF2.at (hF1.at ho), (hF2.len (hF1.live ho.1)).trans ((hF1.len ho.1).trans hN)⟩
  show J X (k + 1) (n + 6) σ2 [(5, .int (nI (s_ofWord S (ys (i + 1)) (ys (i + 2))).1)), (0, .ref b), (1, .ref a), (2, .ref (x9 0)), (3, .ref o), (4, .int (nI i))] [.int ((s_ofWord S (ys (i + 1)) (ys (i + 2))).2.1)] 1461
  refine j_istore (pc := 1461) C [(6, .int ((s_ofWord S (ys (i + 1)) (ys (i + 2))).2.1)), (5, .int (nI (s_ofWord S (ys (i + 1)) (ys (i + 2))).1)), (0, .ref b), (1, .ref a), (2, .ref (x9 0)), (3, .ref o), (4, .int (nI i))] dL_law_1461 (by decide) rfl ?_
  refine j_aload_n (pc := 1463) C dL_law_1463 rfl 4 rfl ?_
  refine j_callV (pc := 1464) C [] [] (rm0 := room_1) (k' := k + 1) (n' := n + 6) K.2.1 (c_X10_thrown (xl X) (xw X) hs2) mp_X10_thrown wm_1145 (hF2.at (hF1.at hM0)) rfl rfl (by decide) rfl rfl (Nat.le_of_ble_eq_true rfl) dL_law_1464 ⟨by decide, by decide⟩ ⟨show k + 1 + 0 ≤ 601024 by omega, show n + 6 + 0 ≤ 7293034 by omega⟩ rfl rfl (fun v7 σ3 hp7 => ?_)
  obtain ⟨rfl, rfl⟩ := hp7
  refine j_iload (pc := 1467) C dL_law_1467 1 rfl ?_
  refine j_icmp_eq (pc := 1469) C 1474 dL_law_1469 (by decide) (fun c0 => ?_) (fun c0 => (c0 rfl : False).elim)
  refine j_iload (pc := 1474) C dL_law_1474 1 rfl ?_
  refine jn_if_ne (pc := 1476) C 1491 (a := (s_ofWord S (ys (i + 1)) (ys (i + 2))).1) (by omega) dL_law_1476 (by decide) (fun c5 => ?_) (fun c5 => ?_)
  · refine j_goto (pc := 1491) C 1865 dL_law_1491 (by decide) ?_
    exact J.wide (by omega) (by omega) (J.to [2, 3, 4, 5, 6] rfl (kk _ _ hv2))
  · refine j_aload_n (pc := 1479) C dL_law_1479 rfl 5 rfl ?_
    refine j_iconst (pc := 1480) C (nI 0) dL_law_1480 (by decide) ?_
    refine j_lald (pc := 1481) C (p := 0) (M := 1) (hF2.at (hF1.at ho)) rfl hv2.2.2.2.2.2 (by decide) (by decide) dL_law_1481 ?_
    refine j_topl ((s_ofWord S (ys (i + 1)) (ys (i + 2))).2.1.toInt64) ((hF2.rL (f := 768) (i := 300) (j := 0) (by decide)).trans (hout c5)) ?_
    refine j_iload (pc := 1482) C dL_law_1482 0 rfl ?_
    refine j_i2l (pc := 1484) C dL_law_1484 ?_
    refine j_lcmp (pc := 1485) C dL_law_1485 ?_
    refine jl_if_eq (pc := 1486) C 1491 dL_law_1486 (by decide) (fun c0 => ?_) (fun c0 => (c0 rfl : False).elim)
    refine j_goto (pc := 1491) C 1865 dL_law_1491 (by decide) ?_
    exact J.wide (by omega) (by omega) (J.to [2, 3, 4, 5, 6] rfl (kk _ _ hv2))
set_option maxHeartbeats 4000000 in
set_option maxRecDepth 100000 in
theorem lc_21 {X : Cx} {b L : Nat} {ys : Nat → Int32} (K : LC X b L ys) (hst9 : (xl X).stackTraces = false) {i : Nat} (hi : i + 5 ≤ L) (hL : L ≤ 2560) {S : SP} {x9 : Nat → Nat} {a o : Nat} {σ : HS} (hv : LV S x9 a o σ) {k n : Nat} (hk : k + 8 ≤ 601024) (hn : n + 127 ≤ 7293034) (kk : ∀ (S' : SP) (σ' : HS), LV S' x9 a o σ' → J X (k + 8) (n + 127) σ' [(0, .ref b), (1, .ref a), (2, .ref (x9 0)), (3, .ref o), (4, .int (nI i))] [] 1865) : J X k n σ [(0, .ref b), (1, .ref a), (2, .ref (x9 0)), (3, .ref o), (4, .int (nI i))] [] 1494 := by
  obtain ⟨hw, hc, ⟨k9, hs⟩, ha0, ho, hN⟩ := hv
  have C := K.1
  have hM0 := hs.2.1.1
  refine j_aload_n (pc := 1494) C dL_law_1494 rfl 1 rfl ?_
  refine j_aload_n (pc := 1495) C dL_law_1495 rfl 0 rfl ?_
  refine j_iload (pc := 1496) C dL_law_1496 4 rfl ?_
  refine j_iconst (pc := 1498) C (nI 1) dL_law_1498 (by decide) ?_
  refine j_iadd (pc := 1499) C dL_law_1499 ?_
  refine j_topi (nI (i + 1)) (nI_add i 1) ?_
  refine j_sld (pc := 1500) K (i := i + 1) (by omega) hL dL_law_1500 ?_
  refine j_aload_n (pc := 1501) C dL_law_1501 rfl 3 rfl ?_
  refine j_callSW (pc := 1502) C [.ref a, .int (ys (i + 1)), .ref o] [] (rm0 := room_1) (k' := k + 1) (n' := n + 6) K.2.1 (w_misfit (xl X) (xw X) hst9 hw hc ha0 ho hN (ys (i + 1))) mp_L_misfit wm_976 rfl rfl (Nat.le_of_ble_eq_true rfl) dL_law_1502 ⟨by decide, by decide⟩ ⟨show k + 1 ≤ 601024 by omega, show n + 6 ≤ 7293034 by omega⟩ rfl rfl (fun v9 σ1 hp9 => ?_)
  obtain ⟨rfl, h4, hout, hw1, hc1, hF1⟩ := hp9
  have hs1 := hs.fr hF1 (fun t z => tgV_K z)
  show J X (k + 1) (n + 6) σ1 [(0, .ref b), (1, .ref a), (2, .ref (x9 0)), (3, .ref o), (4, .int (nI i))] [.int (nI (s_misfit S (ys (i + 1))).1)] 1505
  refine j_istore (pc := 1505) C [(5, .int (nI (s_misfit S (ys (i + 1))).1)), (0, .ref b), (1, .ref a), (2, .ref (x9 0)), (3, .ref o), (4, .int (nI i))] dL_law_1505 (by decide) rfl ?_
  refine j_aload_n (pc := 1507) C dL_law_1507 rfl 3 rfl ?_
  refine j_aload_n (pc := 1508) C dL_law_1508 rfl 1 rfl ?_
  refine j_iload (pc := 1509) C dL_law_1509 5 rfl ?_
  refine j_iconst (pc := 1511) C (nI 1) dL_law_1511 (by decide) ?_
  refine j_iadd (pc := 1512) C dL_law_1512 ?_
  refine j_topi (nI (i + 1)) (nI_add i 1) ?_
  refine j_sld (pc := 1513) K (i := i + 1) (by omega) hL dL_law_1513 ?_
  refine j_callV (pc := 1514) C [.int (ys (i + 1))] [] (rm0 := room_1) (k' := k + 1) (n' := n + 6) K.2.1 (c_X10_misfit (xl X) (xw X) hs1 hw (ys (i + 1))) mp_X10_misfit wm_1333 (hF1.at hM0) rfl rfl (by decide) rfl rfl (Nat.le_of_ble_eq_true rfl) dL_law_1514 ⟨by decide, by decide⟩ ⟨show k + 1 + 0 ≤ 601024 by omega, show n + 6 + 0 ≤ 7293034 by omega⟩ rfl rfl (fun v8 σ2 hp8 => ?_)
  obtain ⟨rfl, hs2, hM⟩ := hp8
  have hF2 := hM.fr
  have hv2 : LV (s_misfit S (ys (i + 1))).2.2 x9 a o σ2 := ⟨hw1, hc1.fr hw1 hF2 (fun t z y => by rw [tgA_K z] at y; cases y), ⟨_, hs2⟩, hF2.at (hF1.at ha0), hF2.at (hF1.at ho), (hF2.len (hF1.live ho.1)).trans ((hF1.len ho.1).trans hN)⟩
  show J X (k + 1) (n + 6) σ2 [(5, .int (nI (s_misfit S (ys (i + 1))).1)), (0, .ref b), (1, .ref a), (2, .ref (x9 0)), (3, .ref o), (4, .int (nI i))] [.int ((s_misfit S (ys (i + 1))).2.1)] 1517
  refine j_istore (pc := 1517) C [(6, .int ((s_misfit S (ys (i + 1))).2.1)), (5, .int (nI (s_misfit S (ys (i + 1))).1)), (0, .ref b), (1, .ref a), (2, .ref (x9 0)), (3, .ref o), (4, .int (nI i))] dL_law_1517 (by decide) rfl ?_
  refine j_aload_n (pc := 1519) C dL_law_1519 rfl 4 rfl ?_
  refine j_callV (pc := 1520) C [] [] (rm0 := room_1) (k' := k + 1) (n' := n + 6) K.2.1 (c_X10_thrown (xl X) (xw X) hs2) mp_X10_thrown wm_1145 (hF2.at (hF1.at hM0)) rfl rfl (by decide) rfl rfl (Nat.le_of_ble_eq_true rfl) dL_law_1520 ⟨by decide, by decide⟩ ⟨show k + 1 + 0 ≤ 601024 by omega, show n + 6 + 0 ≤ 7293034 by omega⟩ rfl rfl (fun v7 σ3 hp7 => ?_)
  obtain ⟨rfl, rfl⟩ := hp7
  refine j_iload (pc := 1523) C dL_law_1523 1 rfl ?_
  refine j_icmp_eq (pc := 1525) C 1530 dL_law_1525 (by decide) (fun c0 => ?_) (fun c0 => (c0 rfl : False).elim)
  refine j_iload (pc := 1530) C dL_law_1530 1 rfl ?_
  refine jn_if_ne (pc := 1532) C 1547 (a := (s_misfit S (ys (i + 1))).1) (by omega) dL_law_1532 (by decide) (fun c5 => ?_) (fun c5 => ?_)
  · refine j_goto (pc := 1547) C 1865 dL_law_1547 (by decide) ?_
    exact J.wide (by omega) (by omega) (J.to [2, 3, 4, 5, 6] rfl (kk _ _ hv2))
  · refine j_aload_n (pc := 1535) C dL_law_1535 rfl 5 rfl ?_
    refine j_iconst (pc := 1536) C (nI 0) dL_law_1536 (by decide) ?_
    refine j_lald (pc := 1537) C (p := 0) (M := 1) (hF2.at (hF1.at ho)) rfl hv2.2.2.2.2.2 (by decide) (by decide) dL_law_1537 ?_
    refine j_topl ((s_misfit S (ys (i + 1))).2.1.toInt64) ((hF2.rL (f := 768) (i := 300) (j := 0) (by decide)).trans (hout c5)) ?_
    refine j_iload (pc := 1538) C dL_law_1538 0 rfl ?_
    refine j_i2l (pc := 1540) C dL_law_1540 ?_
    refine j_lcmp (pc := 1541) C dL_law_1541 ?_
    refine jl_if_eq (pc := 1542) C 1547 dL_law_1542 (by decide) (fun c0 => ?_) (fun c0 => (c0 rfl : False).elim)
    refine j_goto (pc := 1547) C 1865 dL_law_1547 (by decide) ?_
    exact J.wide (by omega) (by omega) (J.to [2, 3, 4, 5, 6] rfl (kk _ _ hv2))
set_option maxHeartbeats 4000000 in
set_option maxRecDepth 100000 in
theorem lc_22 {X : Cx} {b L : Nat} {ys : Nat → Int32} (K : LC X b L ys) (hst9 : (xl X).stackTraces = false) {i : Nat} (hi : i + 5 ≤ L) (hL : L ≤ 2560) {S : SP} {x9 : Nat → Nat} {a o : Nat} {σ : HS} (hv : LV S x9 a o σ) {k n : Nat} (hk : k + 8 ≤ 601024) (hn : n + 127 ≤ 7293034) (kk : ∀ (S' : SP) (σ' : HS), LV S' x9 a o σ' → J X (k + 8) (n + 127) σ' [(0, .ref b), (1, .ref a), (2, .ref (x9 0)), (3, .ref o), (4, .int (nI i))] [] 1865) : J X k n σ [(0, .ref b), (1, .ref a), (2, .ref (x9 0)), (3, .ref o), (4, .int (nI i))] [] 1550 := by
  obtain ⟨hw, hc, ⟨k9, hs⟩, ha0, ho, hN⟩ := hv
  have C := K.1
  have hM0 := hs.2.1.1
  by_cases e0 : ys (i + 2) = 0
  · refine j_aload_n (pc := 1550) C dL_law_1550 rfl 1 rfl ?_
    refine j_aload_n (pc := 1551) C dL_law_1551 rfl 0 rfl ?_
    refine j_iload (pc := 1552) C dL_law_1552 4 rfl ?_
    refine j_iconst (pc := 1554) C (nI 1) dL_law_1554 (by decide) ?_
    refine j_iadd (pc := 1555) C dL_law_1555 ?_
    refine j_topi (nI (i + 1)) (nI_add i 1) ?_
    refine j_sld (pc := 1556) K (i := i + 1) (by omega) hL dL_law_1556 ?_
    refine j_aload_n (pc := 1557) C dL_law_1557 rfl 0 rfl ?_
    refine j_iload (pc := 1558) C dL_law_1558 4 rfl ?_
    refine j_iconst (pc := 1560) C (nI 2) dL_law_1560 (by decide) ?_
    refine j_iadd (pc := 1561) C dL_law_1561 ?_
    refine j_topi (nI (i + 2)) (nI_add i 2) ?_
    refine j_sld (pc := 1562) K (i := i + 2) (by omega) hL dL_law_1562 ?_
    refine j_topi (nI 0) e0 ?_
    refine j_if_eq (pc := 1563) C 1570 dL_law_1563 (by decide) (fun _ => ?_) (fun q => absurd q (by decide))
    refine j_iconst (pc := 1570) C (nI 0) dL_law_1570 (by decide) ?_
    refine j_topi (bI false) rfl ?_
    refine j_aload_n (pc := 1571) C dL_law_1571 rfl 3 rfl ?_
    refine j_callSW (pc := 1572) C [.ref a, .int (ys (i + 1)), .int (bI false), .ref o] [] (rm0 := room_1) (k' := k + 1) (n' := n + 6) K.2.1 (w_claims (xl X) (xw X) hst9 hw hc ha0 ho hN (ys (i + 1)) false) mp_L_claims wm_983 rfl rfl (Nat.le_of_ble_eq_true rfl) dL_law_1572 ⟨by decide, by decide⟩ ⟨show k + 1 ≤ 601024 by omega, show n + 6 ≤ 7293034 by omega⟩ rfl rfl (fun v9 σ1 hp9 => ?_)
    obtain ⟨rfl, h4, hout, hw1, hc1, hF1⟩ := hp9
    have hs1 := hs.fr hF1 (fun t z => tgV_K z)
    show J X (k + 1) (n + 6) σ1 [(0, .ref b), (1, .ref a), (2, .ref (x9 0)), (3, .ref o), (4, .int (nI i))] [.int (nI (s_claims S (ys (i + 1)) false).1)] 1575
    refine j_istore (pc := 1575) C [(5, .int (nI (s_claims S (ys (i + 1)) false).1)), (0, .ref b), (1, .ref a), (2, .ref (x9 0)), (3, .ref o), (4, .int (nI i))] dL_law_1575 (by decide) rfl ?_
    refine j_aload_n (pc := 1577) C dL_law_1577 rfl 3 rfl ?_
    refine j_aload_n (pc := 1578) C dL_law_1578 rfl 1 rfl ?_
    refine j_iload (pc := 1579) C dL_law_1579 5 rfl ?_
    refine j_iconst (pc := 1581) C (nI 1) dL_law_1581 (by decide) ?_
    refine j_iadd (pc := 1582) C dL_law_1582 ?_
    refine j_topi (nI (i + 1)) (nI_add i 1) ?_
    refine j_sld (pc := 1583) K (i := i + 1) (by omega) hL dL_law_1583 ?_
    refine j_aload_n (pc := 1584) C dL_law_1584 rfl 1 rfl ?_
    refine j_iload (pc := 1585) C dL_law_1585 5 rfl ?_
    refine j_iconst (pc := 1587) C (nI 2) dL_law_1587 (by decide) ?_
    refine j_iadd (pc := 1588) C dL_law_1588 ?_
    refine j_topi (nI (i + 2)) (nI_add i 2) ?_
    refine j_sld (pc := 1589) K (i := i + 2) (by omega) hL dL_law_1589 ?_
    refine j_topi (nI 0) e0 ?_
    refine j_if_eq (pc := 1590) C 1597 dL_law_1590 (by decide) (fun _ => ?_) (fun q => absurd q (by decide))
    refine j_iconst (pc := 1597) C (nI 0) dL_law_1597 (by decide) ?_
    refine j_topi (bI false) rfl ?_
    refine j_callV (pc := 1598) C [.int (ys (i + 1)), .int (bI false)] [] (rm0 := room_1) (k' := k + 1) (n' := n + 6) K.2.1 (c_X10_claims (xl X) (xw X) hs1 hw (ys (i + 1)) false) mp_X10_claims wm_1337 (hF1.at hM0) rfl rfl (by decide) rfl rfl (Nat.le_of_ble_eq_true rfl) dL_law_1598 ⟨by decide, by decide⟩ ⟨show k + 1 + 0 ≤ 601024 by omega, show n + 6 + 0 ≤ 7293034 by omega⟩ rfl rfl (fun v8 σ2 hp8 => ?_)
    obtain ⟨rfl, hs2, hM⟩ := hp8
    have hF2 := hM.fr
    have hv2 : LV (s_claims S (ys (i + 1)) false).2.2 x9 a o σ2 := ⟨hw1, hc1.fr hw1 hF2 (fun t z y => by rw [tgA_K z] at y; cases y), ⟨_, hs2⟩, hF2.at (hF1.at ha0), hF2.at (hF1.at ho), (hF2.len (hF1.live ho.1)).trans ((hF1.len ho.1).trans hN)⟩
    show J X (k + 1) (n + 6) σ2 [(5, .int (nI (s_claims S (ys (i + 1)) false).1)), (0, .ref b), (1, .ref a), (2, .ref (x9 0)), (3, .ref o), (4, .int (nI i))] [.int ((s_claims S (ys (i + 1)) false).2.1)] 1601
    refine j_istore (pc := 1601) C [(6, .int ((s_claims S (ys (i + 1)) false).2.1)), (5, .int (nI (s_claims S (ys (i + 1)) false).1)), (0, .ref b), (1, .ref a), (2, .ref (x9 0)), (3, .ref o), (4, .int (nI i))] dL_law_1601 (by decide) rfl ?_
    refine j_aload_n (pc := 1603) C dL_law_1603 rfl 4 rfl ?_
    refine j_callV (pc := 1604) C [] [] (rm0 := room_1) (k' := k + 1) (n' := n + 6) K.2.1 (c_X10_thrown (xl X) (xw X) hs2) mp_X10_thrown wm_1145 (hF2.at (hF1.at hM0)) rfl rfl (by decide) rfl rfl (Nat.le_of_ble_eq_true rfl) dL_law_1604 ⟨by decide, by decide⟩ ⟨show k + 1 + 0 ≤ 601024 by omega, show n + 6 + 0 ≤ 7293034 by omega⟩ rfl rfl (fun v7 σ3 hp7 => ?_)
    obtain ⟨rfl, rfl⟩ := hp7
    refine j_iload (pc := 1607) C dL_law_1607 1 rfl ?_
    refine j_icmp_eq (pc := 1609) C 1614 dL_law_1609 (by decide) (fun c0 => ?_) (fun c0 => (c0 rfl : False).elim)
    refine j_iload (pc := 1614) C dL_law_1614 1 rfl ?_
    refine jn_if_ne (pc := 1616) C 1631 (a := (s_claims S (ys (i + 1)) false).1) (by omega) dL_law_1616 (by decide) (fun c5 => ?_) (fun c5 => ?_)
    · refine j_goto (pc := 1631) C 1865 dL_law_1631 (by decide) ?_
      exact J.wide (by omega) (by omega) (J.to [2, 3, 4, 5, 6] rfl (kk _ _ hv2))
    · refine j_aload_n (pc := 1619) C dL_law_1619 rfl 5 rfl ?_
      refine j_iconst (pc := 1620) C (nI 0) dL_law_1620 (by decide) ?_
      refine j_lald (pc := 1621) C (p := 0) (M := 1) (hF2.at (hF1.at ho)) rfl hv2.2.2.2.2.2 (by decide) (by decide) dL_law_1621 ?_
      refine j_topl ((s_claims S (ys (i + 1)) false).2.1.toInt64) ((hF2.rL (f := 768) (i := 300) (j := 0) (by decide)).trans (hout c5)) ?_
      refine j_iload (pc := 1622) C dL_law_1622 0 rfl ?_
      refine j_i2l (pc := 1624) C dL_law_1624 ?_
      refine j_lcmp (pc := 1625) C dL_law_1625 ?_
      refine jl_if_eq (pc := 1626) C 1631 dL_law_1626 (by decide) (fun c0 => ?_) (fun c0 => (c0 rfl : False).elim)
      refine j_goto (pc := 1631) C 1865 dL_law_1631 (by decide) ?_
      exact J.wide (by omega) (by omega) (J.to [2, 3, 4, 5, 6] rfl (kk _ _ hv2))
  · refine j_aload_n (pc := 1550) C dL_law_1550 rfl 1 rfl ?_
    refine j_aload_n (pc := 1551) C dL_law_1551 rfl 0 rfl ?_
    refine j_iload (pc := 1552) C dL_law_1552 4 rfl ?_
    refine j_iconst (pc := 1554) C (nI 1) dL_law_1554 (by decide) ?_
    refine j_iadd (pc := 1555) C dL_law_1555 ?_
    refine j_topi (nI (i + 1)) (nI_add i 1) ?_
    refine j_sld (pc := 1556) K (i := i + 1) (by omega) hL dL_law_1556 ?_
    refine j_aload_n (pc := 1557) C dL_law_1557 rfl 0 rfl ?_
    refine j_iload (pc := 1558) C dL_law_1558 4 rfl ?_
    refine j_iconst (pc := 1560) C (nI 2) dL_law_1560 (by decide) ?_
    refine j_iadd (pc := 1561) C dL_law_1561 ?_
    refine j_topi (nI (i + 2)) (nI_add i 2) ?_
    refine j_sld (pc := 1562) K (i := i + 2) (by omega) hL dL_law_1562 ?_
    refine j_if_eq (pc := 1563) C 1570 dL_law_1563 (by decide) (fun c0 => (e0 c0 : False).elim) (fun c0 => ?_)
    refine j_iconst (pc := 1566) C (nI 1) dL_law_1566 (by decide) ?_
    refine j_topi (bI true) rfl ?_
    refine j_goto (pc := 1567) C 1571 dL_law_1567 (by decide) ?_
    refine j_aload_n (pc := 1571) C dL_law_1571 rfl 3 rfl ?_
    refine j_callSW (pc := 1572) C [.ref a, .int (ys (i + 1)), .int (bI true), .ref o] [] (rm0 := room_1) (k' := k + 1) (n' := n + 6) K.2.1 (w_claims (xl X) (xw X) hst9 hw hc ha0 ho hN (ys (i + 1)) true) mp_L_claims wm_983 rfl rfl (Nat.le_of_ble_eq_true rfl) dL_law_1572 ⟨by decide, by decide⟩ ⟨show k + 1 ≤ 601024 by omega, show n + 6 ≤ 7293034 by omega⟩ rfl rfl (fun v9 σ1 hp9 => ?_)
    obtain ⟨rfl, h4, hout, hw1, hc1, hF1⟩ := hp9
    have hs1 := hs.fr hF1 (fun t z => tgV_K z)
    show J X (k + 1) (n + 6) σ1 [(0, .ref b), (1, .ref a), (2, .ref (x9 0)), (3, .ref o), (4, .int (nI i))] [.int (nI (s_claims S (ys (i + 1)) true).1)] 1575
    refine j_istore (pc := 1575) C [(5, .int (nI (s_claims S (ys (i + 1)) true).1)), (0, .ref b), (1, .ref a), (2, .ref (x9 0)), (3, .ref o), (4, .int (nI i))] dL_law_1575 (by decide) rfl ?_
    refine j_aload_n (pc := 1577) C dL_law_1577 rfl 3 rfl ?_
    refine j_aload_n (pc := 1578) C dL_law_1578 rfl 1 rfl ?_
    refine j_iload (pc := 1579) C dL_law_1579 5 rfl ?_
    refine j_iconst (pc := 1581) C (nI 1) dL_law_1581 (by decide) ?_
    refine j_iadd (pc := 1582) C dL_law_1582 ?_
    refine j_topi (nI (i + 1)) (nI_add i 1) ?_
    refine j_sld (pc := 1583) K (i := i + 1) (by omega) hL dL_law_1583 ?_
    refine j_aload_n (pc := 1584) C dL_law_1584 rfl 1 rfl ?_
    refine j_iload (pc := 1585) C dL_law_1585 5 rfl ?_
    refine j_iconst (pc := 1587) C (nI 2) dL_law_1587 (by decide) ?_
    refine j_iadd (pc := 1588) C dL_law_1588 ?_
    refine j_topi (nI (i + 2)) (nI_add i 2) ?_
    refine j_sld (pc := 1589) K (i := i + 2) (by omega) hL dL_law_1589 ?_
    refine j_if_eq (pc := 1590) C 1597 dL_law_1590 (by decide) (fun c0 => (e0 c0 : False).elim) (fun c0 => ?_)
    refine j_iconst (pc := 1593) C (nI 1) dL_law_1593 (by decide) ?_
    refine j_topi (bI true) rfl ?_
    refine j_goto (pc := 1594) C 1598 dL_law_1594 (by decide) ?_
    refine j_callV (pc := 1598) C [.int (ys (i + 1)), .int (bI true)] [] (rm0 := room_1) (k' := k + 1) (n' := n + 6) K.2.1 (c_X10_claims (xl X) (xw X) hs1 hw (ys (i + 1)) true) mp_X10_claims wm_1337 (hF1.at hM0) rfl rfl (by decide) rfl rfl (Nat.le_of_ble_eq_true rfl) dL_law_1598 ⟨by decide, by decide⟩ ⟨show k + 1 + 0 ≤ 601024 by omega, show n + 6 + 0 ≤ 7293034 by omega⟩ rfl rfl (fun v8 σ2 hp8 => ?_)
    obtain ⟨rfl, hs2, hM⟩ := hp8
    have hF2 := hM.fr
    have hv2 : LV (s_claims S (ys (i + 1)) true).2.2 x9 a o σ2 := ⟨hw1, hc1.fr hw1 hF2 (fun t z y => by rw [tgA_K z] at y; cases y), ⟨_, hs2⟩, hF2.at (hF1.at ha0), hF2.at (hF1.at ho), (hF2.len (hF1.live ho.1)).trans ((hF1.len ho.1).trans hN)⟩
    show J X (k + 1) (n + 6) σ2 [(5, .int (nI (s_claims S (ys (i + 1)) true).1)), (0, .ref b), (1, .ref a), (2, .ref (x9 0)), (3, .ref o), (4, .int (nI i))] [.int ((s_claims S (ys (i + 1)) true).2.1)] 1601
    refine j_istore (pc := 1601) C [(6, .int ((s_claims S (ys (i + 1)) true).2.1)), (5, .int (nI (s_claims S (ys (i + 1)) true).1)), (0, .ref b), (1, .ref a), (2, .ref (x9 0)), (3, .ref o), (4, .int (nI i))] dL_law_1601 (by decide) rfl ?_
    refine j_aload_n (pc := 1603) C dL_law_1603 rfl 4 rfl ?_
    refine j_callV (pc := 1604) C [] [] (rm0 := room_1) (k' := k + 1) (n' := n + 6) K.2.1 (c_X10_thrown (xl X) (xw X) hs2) mp_X10_thrown wm_1145 (hF2.at (hF1.at hM0)) rfl rfl (by decide) rfl rfl (Nat.le_of_ble_eq_true rfl) dL_law_1604 ⟨by decide, by decide⟩ ⟨show k + 1 + 0 ≤ 601024 by omega, show n + 6 + 0 ≤ 7293034 by omega⟩ rfl rfl (fun v7 σ3 hp7 => ?_)
    obtain ⟨rfl, rfl⟩ := hp7
    refine j_iload (pc := 1607) C dL_law_1607 1 rfl ?_
    refine j_icmp_eq (pc := 1609) C 1614 dL_law_1609 (by decide) (fun c0 => ?_) (fun c0 => (c0 rfl : False).elim)
    refine j_iload (pc := 1614) C dL_law_1614 1 rfl ?_
    refine jn_if_ne (pc := 1616) C 1631 (a := (s_claims S (ys (i + 1)) true).1) (by omega) dL_law_1616 (by decide) (fun c5 => ?_) (fun c5 => ?_)
    · refine j_goto (pc := 1631) C 1865 dL_law_1631 (by decide) ?_
      exact J.wide (by omega) (by omega) (J.to [2, 3, 4, 5, 6] rfl (kk _ _ hv2))
    · refine j_aload_n (pc := 1619) C dL_law_1619 rfl 5 rfl ?_
      refine j_iconst (pc := 1620) C (nI 0) dL_law_1620 (by decide) ?_
      refine j_lald (pc := 1621) C (p := 0) (M := 1) (hF2.at (hF1.at ho)) rfl hv2.2.2.2.2.2 (by decide) (by decide) dL_law_1621 ?_
      refine j_topl ((s_claims S (ys (i + 1)) true).2.1.toInt64) ((hF2.rL (f := 768) (i := 300) (j := 0) (by decide)).trans (hout c5)) ?_
      refine j_iload (pc := 1622) C dL_law_1622 0 rfl ?_
      refine j_i2l (pc := 1624) C dL_law_1624 ?_
      refine j_lcmp (pc := 1625) C dL_law_1625 ?_
      refine jl_if_eq (pc := 1626) C 1631 dL_law_1626 (by decide) (fun c0 => ?_) (fun c0 => (c0 rfl : False).elim)
      refine j_goto (pc := 1631) C 1865 dL_law_1631 (by decide) ?_
      exact J.wide (by omega) (by omega) (J.to [2, 3, 4, 5, 6] rfl (kk _ _ hv2))
set_option maxHeartbeats 4000000 in
set_option maxRecDepth 100000 in
theorem lc_23 {X : Cx} {b L : Nat} {ys : Nat → Int32} (K : LC X b L ys) (hst9 : (xl X).stackTraces = false) {i : Nat} (hi : i + 5 ≤ L) (hL : L ≤ 2560) {S : SP} {x9 : Nat → Nat} {a o : Nat} {σ : HS} (hv : LV S x9 a o σ) {k n : Nat} (hk : k + 8 ≤ 601024) (hn : n + 127 ≤ 7293034) (kk : ∀ (S' : SP) (σ' : HS), LV S' x9 a o σ' → J X (k + 8) (n + 127) σ' [(0, .ref b), (1, .ref a), (2, .ref (x9 0)), (3, .ref o), (4, .int (nI i))] [] 1865) : J X k n σ [(0, .ref b), (1, .ref a), (2, .ref (x9 0)), (3, .ref o), (4, .int (nI i))] [] 1634 := by
  obtain ⟨hw, hc, ⟨k9, hs⟩, ha0, ho, hN⟩ := hv
  have C := K.1
  have hM0 := hs.2.1.1
  refine j_aload_n (pc := 1634) C dL_law_1634 rfl 1 rfl ?_
  refine j_callV (pc := 1635) C [] [] (rm0 := room_1) (k' := k) (n' := n) K.2.1 (c_X9_fitting (xl X) (xw X) hw hc ha0) mp_X9_fitting wm_226 ha0 rfl rfl (by decide) rfl rfl (Nat.le_of_ble_eq_true rfl) dL_law_1635 ⟨by decide, by decide⟩ ⟨show k + 0 ≤ 601024 by omega, show n + 0 ≤ 7293034 by omega⟩ rfl rfl (fun v9 σ1 hp9 => ?_)
  obtain ⟨rfl, hF1⟩ := hp9
  have hw1 := hw
  have hc1 := hc.fr hw hF1 (fun t z => tgB_A z)
  have hs1 := hs.fr hF1 (fun t z => tgU_K (tgB_U z))
  show J X k n σ1 [(0, .ref b), (1, .ref a), (2, .ref (x9 0)), (3, .ref o), (4, .int (nI i))] [.int (nI (fb_ct (fitset S) (2 ^ nR S)))] 1638
  refine j_aload_n (pc := 1638) C dL_law_1638 rfl 2 rfl ?_
  refine j_callV (pc := 1639) C [] [.int (nI (fb_ct (fitset S) (2 ^ nR S)))] (rm0 := room_1) (k' := k) (n' := n) K.2.1 (c_X10_fitting (xl X) (xw X) hs1 hw) mp_X10_fitting wm_1349 (hF1.at hM0) rfl rfl (by decide) rfl rfl (Nat.le_of_ble_eq_true rfl) dL_law_1639 ⟨by decide, by decide⟩ ⟨show k + 0 ≤ 601024 by omega, show n + 0 ≤ 7293034 by omega⟩ rfl rfl (fun v8 σ2 hp8 => ?_)
  obtain ⟨rfl, hs2, hM⟩ := hp8
  have hF2 := hM.fr
  have hv2 : LV (s_fitting S).2.2 x9 a o σ2 := ⟨hw1, hc1.fr hw1 hF2 (fun t z y => by rw [tgA_K z] at y; cases y), ⟨_, hs2⟩, hF2.at (hF1.at ha0), hF2.at (hF1.at ho), (hF2.len (hF1.live ho.1)).trans ((hF1.len ho.1).trans hN)⟩
  show J X k n σ2 [(0, .ref b), (1, .ref a), (2, .ref (x9 0)), (3, .ref o), (4, .int (nI i))] [.int ((s_fitting S).2.1), .int (nI (fb_ct (fitset S) (2 ^ nR S)))] 1642
  refine j_icmp_eq (pc := 1642) C 1865 dL_law_1642 (by decide) (fun c0 => ?_) (fun c0 => (c0 rfl : False).elim)
  exact J.wide (by omega) (by omega) (J.to [0, 1, 2, 3, 4] rfl (kk _ _ hv2))
set_option maxHeartbeats 4000000 in
set_option maxRecDepth 100000 in
theorem lc_24 {X : Cx} {b L : Nat} {ys : Nat → Int32} (K : LC X b L ys) (hst9 : (xl X).stackTraces = false) {i : Nat} (hi : i + 5 ≤ L) (hL : L ≤ 2560) {S : SP} {x9 : Nat → Nat} {a o : Nat} {σ : HS} (hv : LV S x9 a o σ) {k n : Nat} (hk : k + 8 ≤ 601024) (hn : n + 127 ≤ 7293034) (kk : ∀ (S' : SP) (σ' : HS), LV S' x9 a o σ' → J X (k + 8) (n + 127) σ' [(0, .ref b), (1, .ref a), (2, .ref (x9 0)), (3, .ref o), (4, .int (nI i))] [] 1865) : J X k n σ [(0, .ref b), (1, .ref a), (2, .ref (x9 0)), (3, .ref o), (4, .int (nI i))] [] 1647 := by
  obtain ⟨hw, hc, ⟨k9, hs⟩, ha0, ho, hN⟩ := hv
  have C := K.1
  have hM0 := hs.2.1.1
  refine j_aload_n (pc := 1647) C dL_law_1647 rfl 1 rfl ?_
  refine j_callV (pc := 1648) C [] [] (rm0 := room_1) (k' := k) (n' := n) K.2.1 (c_X9_smallest (xl X) (xw X) hw hc ha0) mp_X9_smallest wm_328 ha0 rfl rfl (by decide) rfl rfl (Nat.le_of_ble_eq_true rfl) dL_law_1648 ⟨by decide, by decide⟩ ⟨show k + 0 ≤ 601024 by omega, show n + 0 ≤ 7293034 by omega⟩ rfl rfl (fun v9 σ1 hp9 => ?_)
  obtain ⟨rfl, hF1⟩ := hp9
  have hw1 := hw
  have hc1 := hc.fr hw hF1 (fun t z => tgB_A z)
  have hs1 := hs.fr hF1 (fun t z => tgU_K (tgB_U z))
  show J X k n σ1 [(0, .ref b), (1, .ref a), (2, .ref (x9 0)), (3, .ref o), (4, .int (nI i))] [.int (noneI (smal S (2 ^ nR S)))] 1651
  refine j_aload_n (pc := 1651) C dL_law_1651 rfl 2 rfl ?_
  refine j_callV (pc := 1652) C [] [.int (noneI (smal S (2 ^ nR S)))] (rm0 := room_1) (k' := k) (n' := n) K.2.1 (c_X10_smallest (xl X) (xw X) hs1 hw) mp_X10_smallest wm_1357 (hF1.at hM0) rfl rfl (by decide) rfl rfl (Nat.le_of_ble_eq_true rfl) dL_law_1652 ⟨by decide, by decide⟩ ⟨show k + 0 ≤ 601024 by omega, show n + 0 ≤ 7293034 by omega⟩ rfl rfl (fun v8 σ2 hp8 => ?_)
  obtain ⟨rfl, hs2, hM⟩ := hp8
  have hF2 := hM.fr
  have hv2 : LV (s_smallest S).2.2 x9 a o σ2 := ⟨hw1, hc1.fr hw1 hF2 (fun t z y => by rw [tgA_K z] at y; cases y), ⟨_, hs2⟩, hF2.at (hF1.at ha0), hF2.at (hF1.at ho), (hF2.len (hF1.live ho.1)).trans ((hF1.len ho.1).trans hN)⟩
  show J X k n σ2 [(0, .ref b), (1, .ref a), (2, .ref (x9 0)), (3, .ref o), (4, .int (nI i))] [.int ((s_smallest S).2.1), .int (noneI (smal S (2 ^ nR S)))] 1655
  refine j_icmp_eq (pc := 1655) C 1865 dL_law_1655 (by decide) (fun c0 => ?_) (fun c0 => (c0 rfl : False).elim)
  exact J.wide (by omega) (by omega) (J.to [0, 1, 2, 3, 4] rfl (kk _ _ hv2))
set_option maxHeartbeats 4000000 in
set_option maxRecDepth 100000 in
theorem lc_25 {X : Cx} {b L : Nat} {ys : Nat → Int32} (K : LC X b L ys) (hst9 : (xl X).stackTraces = false) {i : Nat} (hi : i + 5 ≤ L) (hL : L ≤ 2560) {S : SP} {x9 : Nat → Nat} {a o : Nat} {σ : HS} (hv : LV S x9 a o σ) {k n : Nat} (hk : k + 8 ≤ 601024) (hn : n + 127 ≤ 7293034) (kk : ∀ (S' : SP) (σ' : HS), LV S' x9 a o σ' → J X (k + 8) (n + 127) σ' [(0, .ref b), (1, .ref a), (2, .ref (x9 0)), (3, .ref o), (4, .int (nI i))] [] 1865) : J X k n σ [(0, .ref b), (1, .ref a), (2, .ref (x9 0)), (3, .ref o), (4, .int (nI i))] [] 1660 := by
  obtain ⟨hw, hc, ⟨k9, hs⟩, ha0, ho, hN⟩ := hv
  have C := K.1
  have hM0 := hs.2.1.1
  refine j_aload_n (pc := 1660) C dL_law_1660 rfl 1 rfl ?_
  refine j_callV (pc := 1661) C [] [] (rm0 := room_1) (k' := k) (n' := n) K.2.1 (c_X9_question (xl X) (xw X) hw hc ha0) mp_X9_question wm_341 ha0 rfl rfl (by decide) rfl rfl (Nat.le_of_ble_eq_true rfl) dL_law_1661 ⟨by decide, by decide⟩ ⟨show k + 0 ≤ 601024 by omega, show n + 0 ≤ 7293034 by omega⟩ rfl rfl (fun v9 σ1 hp9 => ?_)
  obtain ⟨rfl, hF1⟩ := hp9
  have hw1 := hw
  have hc1 := hc.fr hw hF1 (fun t z => tgB_A z)
  have hs1 := hs.fr hF1 (fun t z => tgU_K (tgB_U z))
  show J X k n σ1 [(0, .ref b), (1, .ref a), (2, .ref (x9 0)), (3, .ref o), (4, .int (nI i))] [.int (noneI (ques S (8 * nL S)).2)] 1664
  refine j_aload_n (pc := 1664) C dL_law_1664 rfl 2 rfl ?_
  refine j_callV (pc := 1665) C [] [.int (noneI (ques S (8 * nL S)).2)] (rm0 := room_1) (k' := k) (n' := n) K.2.1 (c_X10_question (xl X) (xw X) hs1 hw) mp_X10_question wm_1364 (hF1.at hM0) rfl rfl (by decide) rfl rfl (Nat.le_of_ble_eq_true rfl) dL_law_1665 ⟨by decide, by decide⟩ ⟨show k + 0 ≤ 601024 by omega, show n + 0 ≤ 7293034 by omega⟩ rfl rfl (fun v8 σ2 hp8 => ?_)
  obtain ⟨rfl, hs2, hM⟩ := hp8
  have hF2 := hM.fr
  have hv2 : LV (s_question S).2.2 x9 a o σ2 := ⟨hw1, hc1.fr hw1 hF2 (fun t z y => by rw [tgA_K z] at y; cases y), ⟨_, hs2⟩, hF2.at (hF1.at ha0), hF2.at (hF1.at ho), (hF2.len (hF1.live ho.1)).trans ((hF1.len ho.1).trans hN)⟩
  show J X k n σ2 [(0, .ref b), (1, .ref a), (2, .ref (x9 0)), (3, .ref o), (4, .int (nI i))] [.int ((s_question S).2.1), .int (noneI (ques S (8 * nL S)).2)] 1668
  refine j_icmp_eq (pc := 1668) C 1865 dL_law_1668 (by decide) (fun c0 => ?_) (fun c0 => (c0 rfl : False).elim)
  exact J.wide (by omega) (by omega) (J.to [0, 1, 2, 3, 4] rfl (kk _ _ hv2))
set_option maxHeartbeats 4000000 in
set_option maxRecDepth 100000 in
theorem lc_26 {X : Cx} {b L : Nat} {ys : Nat → Int32} (K : LC X b L ys) (hst9 : (xl X).stackTraces = false) {i : Nat} (hi : i + 5 ≤ L) (hL : L ≤ 2560) {S : SP} {x9 : Nat → Nat} {a o : Nat} {σ : HS} (hv : LV S x9 a o σ) {k n : Nat} (hk : k + 8 ≤ 601024) (hn : n + 127 ≤ 7293034) (kk : ∀ (S' : SP) (σ' : HS), LV S' x9 a o σ' → J X (k + 8) (n + 127) σ' [(0, .ref b), (1, .ref a), (2, .ref (x9 0)), (3, .ref o), (4, .int (nI i))] [] 1865) : J X k n σ [(0, .ref b), (1, .ref a), (2, .ref (x9 0)), (3, .ref o), (4, .int (nI i))] [] 1673 := by
  obtain ⟨hw, hc, ⟨k9, hs⟩, ha0, ho, hN⟩ := hv
  have C := K.1
  have hM0 := hs.2.1.1
  refine j_aload_n (pc := 1673) C dL_law_1673 rfl 1 rfl ?_
  refine j_aload_n (pc := 1674) C dL_law_1674 rfl 0 rfl ?_
  refine j_iload (pc := 1675) C dL_law_1675 4 rfl ?_
  refine j_iconst (pc := 1677) C (nI 1) dL_law_1677 (by decide) ?_
  refine j_iadd (pc := 1678) C dL_law_1678 ?_
  refine j_topi (nI (i + 1)) (nI_add i 1) ?_
  refine j_sld (pc := 1679) K (i := i + 1) (by omega) hL dL_law_1679 ?_
  refine j_aload_n (pc := 1680) C dL_law_1680 rfl 0 rfl ?_
  refine j_iload (pc := 1681) C dL_law_1681 4 rfl ?_
  refine j_iconst (pc := 1683) C (nI 2) dL_law_1683 (by decide) ?_
  refine j_iadd (pc := 1684) C dL_law_1684 ?_
  refine j_topi (nI (i + 2)) (nI_add i 2) ?_
  refine j_sld (pc := 1685) K (i := i + 2) (by omega) hL dL_law_1685 ?_
  refine j_aload_n (pc := 1686) C dL_law_1686 rfl 3 rfl ?_
  refine j_callSW (pc := 1687) C [.ref a, .int (ys (i + 1)), .int (ys (i + 2)), .ref o] [] (rm0 := room_1) (k' := k + 1) (n' := n + 6) K.2.1 (w_pairs (xl X) (xw X) hst9 hw hc ha0 ho hN (ys (i + 1)) (ys (i + 2))) mp_L_pairs wm_999 rfl rfl (Nat.le_of_ble_eq_true rfl) dL_law_1687 ⟨by decide, by decide⟩ ⟨show k + 1 ≤ 601024 by omega, show n + 6 ≤ 7293034 by omega⟩ rfl rfl (fun v9 σ1 hp9 => ?_)
  obtain ⟨rfl, h4, hout, hw1, hc1, hF1⟩ := hp9
  have hs1 := hs.fr hF1 (fun t z => tgV_K z)
  show J X (k + 1) (n + 6) σ1 [(0, .ref b), (1, .ref a), (2, .ref (x9 0)), (3, .ref o), (4, .int (nI i))] [.int (nI (s_pairs S (ys (i + 1)) (ys (i + 2))).1)] 1690
  refine j_istore (pc := 1690) C [(5, .int (nI (s_pairs S (ys (i + 1)) (ys (i + 2))).1)), (0, .ref b), (1, .ref a), (2, .ref (x9 0)), (3, .ref o), (4, .int (nI i))] dL_law_1690 (by decide) rfl ?_
  refine j_aload_n (pc := 1692) C dL_law_1692 rfl 3 rfl ?_
  refine j_aload_n (pc := 1693) C dL_law_1693 rfl 1 rfl ?_
  refine j_iload (pc := 1694) C dL_law_1694 5 rfl ?_
  refine j_iconst (pc := 1696) C (nI 1) dL_law_1696 (by decide) ?_
  refine j_iadd (pc := 1697) C dL_law_1697 ?_
  refine j_topi (nI (i + 1)) (nI_add i 1) ?_
  refine j_sld (pc := 1698) K (i := i + 1) (by omega) hL dL_law_1698 ?_
  refine j_aload_n (pc := 1699) C dL_law_1699 rfl 1 rfl ?_
  refine j_iload (pc := 1700) C dL_law_1700 5 rfl ?_
  refine j_iconst (pc := 1702) C (nI 2) dL_law_1702 (by decide) ?_
  refine j_iadd (pc := 1703) C dL_law_1703 ?_
  refine j_topi (nI (i + 2)) (nI_add i 2) ?_
  refine j_sld (pc := 1704) K (i := i + 2) (by omega) hL dL_law_1704 ?_
  refine j_callV (pc := 1705) C [.int (ys (i + 1)), .int (ys (i + 2))] [] (rm0 := room_1) (k' := k + 1) (n' := n + 6) K.2.1 (c_X10_pairs (xl X) (xw X) hs1 hw (ys (i + 1)) (ys (i + 2))) mp_X10_pairs wm_1376 (hF1.at hM0) rfl rfl (by decide) rfl rfl (Nat.le_of_ble_eq_true rfl) dL_law_1705 ⟨by decide, by decide⟩ ⟨show k + 1 + 0 ≤ 601024 by omega, show n + 6 + 0 ≤ 7293034 by omega⟩ rfl rfl (fun v8 σ2 hp8 => ?_)
  obtain ⟨rfl, hs2, hM⟩ := hp8
  have hF2 := hM.fr
  have hv2 : LV (s_pairs S (ys (i + 1)) (ys (i + 2))).2.2 x9 a o σ2 := ⟨hw1, hc1.fr hw1 hF2 (fun t z y => by rw [tgA_K z] at y; cases y), ⟨_, hs2⟩, hF2.at (hF1.at ha0), hF2.at (hF1.at ho), (hF2.len (hF1.live ho.1)).trans ((hF1.len ho.1).trans hN)⟩
  show J X (k + 1) (n + 6) σ2 [(5, .int (nI (s_pairs S (ys (i + 1)) (ys (i + 2))).1)), (0, .ref b), (1, .ref a), (2, .ref (x9 0)), (3, .ref o), (4, .int (nI i))] [.int ((s_pairs S (ys (i + 1)) (ys (i + 2))).2.1)] 1708
  refine j_istore (pc := 1708) C [(6, .int ((s_pairs S (ys (i + 1)) (ys (i + 2))).2.1)), (5, .int (nI (s_pairs S (ys (i + 1)) (ys (i + 2))).1)), (0, .ref b), (1, .ref a), (2, .ref (x9 0)), (3, .ref o), (4, .int (nI i))] dL_law_1708 (by decide) rfl ?_
  refine j_aload_n (pc := 1710) C dL_law_1710 rfl 4 rfl ?_
  refine j_callV (pc := 1711) C [] [] (rm0 := room_1) (k' := k + 1) (n' := n + 6) K.2.1 (c_X10_thrown (xl X) (xw X) hs2) mp_X10_thrown wm_1145 (hF2.at (hF1.at hM0)) rfl rfl (by decide) rfl rfl (Nat.le_of_ble_eq_true rfl) dL_law_1711 ⟨by decide, by decide⟩ ⟨show k + 1 + 0 ≤ 601024 by omega, show n + 6 + 0 ≤ 7293034 by omega⟩ rfl rfl (fun v7 σ3 hp7 => ?_)
  obtain ⟨rfl, rfl⟩ := hp7
  refine j_iload (pc := 1714) C dL_law_1714 1 rfl ?_
  refine j_icmp_eq (pc := 1716) C 1721 dL_law_1716 (by decide) (fun c0 => ?_) (fun c0 => (c0 rfl : False).elim)
  refine j_iload (pc := 1721) C dL_law_1721 1 rfl ?_
  refine jn_if_ne (pc := 1723) C 1738 (a := (s_pairs S (ys (i + 1)) (ys (i + 2))).1) (by omega) dL_law_1723 (by decide) (fun c5 => ?_) (fun c5 => ?_)
  · refine j_goto (pc := 1738) C 1865 dL_law_1738 (by decide) ?_
    exact J.wide (by omega) (by omega) (J.to [2, 3, 4, 5, 6] rfl (kk _ _ hv2))
  · refine j_aload_n (pc := 1726) C dL_law_1726 rfl 5 rfl ?_
    refine j_iconst (pc := 1727) C (nI 0) dL_law_1727 (by decide) ?_
    refine j_lald (pc := 1728) C (p := 0) (M := 1) (hF2.at (hF1.at ho)) rfl hv2.2.2.2.2.2 (by decide) (by decide) dL_law_1728 ?_
    refine j_topl ((s_pairs S (ys (i + 1)) (ys (i + 2))).2.1.toInt64) ((hF2.rL (f := 768) (i := 300) (j := 0) (by decide)).trans (hout c5)) ?_
    refine j_iload (pc := 1729) C dL_law_1729 0 rfl ?_
    refine j_i2l (pc := 1731) C dL_law_1731 ?_
    refine j_lcmp (pc := 1732) C dL_law_1732 ?_
    refine jl_if_eq (pc := 1733) C 1738 dL_law_1733 (by decide) (fun c0 => ?_) (fun c0 => (c0 rfl : False).elim)
    refine j_goto (pc := 1738) C 1865 dL_law_1738 (by decide) ?_
    exact J.wide (by omega) (by omega) (J.to [2, 3, 4, 5, 6] rfl (kk _ _ hv2))
set_option maxHeartbeats 4000000 in
set_option maxRecDepth 100000 in
theorem lc_27 {X : Cx} {b L : Nat} {ys : Nat → Int32} (K : LC X b L ys) (hst9 : (xl X).stackTraces = false) {i : Nat} (hi : i + 5 ≤ L) (hL : L ≤ 2560) {S : SP} {x9 : Nat → Nat} {a o : Nat} {σ : HS} (hv : LV S x9 a o σ) {k n : Nat} (hk : k + 8 ≤ 601024) (hn : n + 127 ≤ 7293034) (kk : ∀ (S' : SP) (σ' : HS), LV S' x9 a o σ' → J X (k + 8) (n + 127) σ' [(0, .ref b), (1, .ref a), (2, .ref (x9 0)), (3, .ref o), (4, .int (nI i))] [] 1865) : J X k n σ [(0, .ref b), (1, .ref a), (2, .ref (x9 0)), (3, .ref o), (4, .int (nI i))] [] 1741 := by
  obtain ⟨hw, hc, ⟨k9, hs⟩, ha0, ho, hN⟩ := hv
  have C := K.1
  have hM0 := hs.2.1.1
  refine j_aload_n (pc := 1741) C dL_law_1741 rfl 1 rfl ?_
  refine j_aload_n (pc := 1742) C dL_law_1742 rfl 0 rfl ?_
  refine j_iload (pc := 1743) C dL_law_1743 4 rfl ?_
  refine j_iconst (pc := 1745) C (nI 1) dL_law_1745 (by decide) ?_
  refine j_iadd (pc := 1746) C dL_law_1746 ?_
  refine j_topi (nI (i + 1)) (nI_add i 1) ?_
  refine j_sld (pc := 1747) K (i := i + 1) (by omega) hL dL_law_1747 ?_
  refine j_aload_n (pc := 1748) C dL_law_1748 rfl 3 rfl ?_
  refine j_callSW (pc := 1749) C [.ref a, .int (ys (i + 1)), .ref o] [] (rm0 := room_1) (k' := k + 1) (n' := n + 6) K.2.1 (w_holes (xl X) (xw X) hst9 hw hc ha0 ho hN (ys (i + 1))) mp_L_holes wm_1012 rfl rfl (Nat.le_of_ble_eq_true rfl) dL_law_1749 ⟨by decide, by decide⟩ ⟨show k + 1 ≤ 601024 by omega, show n + 6 ≤ 7293034 by omega⟩ rfl rfl (fun v9 σ1 hp9 => ?_)
  obtain ⟨rfl, h4, hout, hw1, hc1, hF1⟩ := hp9
  have hs1 := hs.fr hF1 (fun t z => tgV_K z)
  show J X (k + 1) (n + 6) σ1 [(0, .ref b), (1, .ref a), (2, .ref (x9 0)), (3, .ref o), (4, .int (nI i))] [.int (nI (s_holes S (ys (i + 1))).1)] 1752
  refine j_istore (pc := 1752) C [(5, .int (nI (s_holes S (ys (i + 1))).1)), (0, .ref b), (1, .ref a), (2, .ref (x9 0)), (3, .ref o), (4, .int (nI i))] dL_law_1752 (by decide) rfl ?_
  refine j_aload_n (pc := 1754) C dL_law_1754 rfl 3 rfl ?_
  refine j_aload_n (pc := 1755) C dL_law_1755 rfl 1 rfl ?_
  refine j_iload (pc := 1756) C dL_law_1756 5 rfl ?_
  refine j_iconst (pc := 1758) C (nI 1) dL_law_1758 (by decide) ?_
  refine j_iadd (pc := 1759) C dL_law_1759 ?_
  refine j_topi (nI (i + 1)) (nI_add i 1) ?_
  refine j_sld (pc := 1760) K (i := i + 1) (by omega) hL dL_law_1760 ?_
  refine j_callV (pc := 1761) C [.int (ys (i + 1))] [] (rm0 := room_1) (k' := k + 1) (n' := n + 6) K.2.1 (c_X10_holes (xl X) (xw X) hs1 hw (ys (i + 1))) mp_X10_holes wm_1384 (hF1.at hM0) rfl rfl (by decide) rfl rfl (Nat.le_of_ble_eq_true rfl) dL_law_1761 ⟨by decide, by decide⟩ ⟨show k + 1 + 0 ≤ 601024 by omega, show n + 6 + 0 ≤ 7293034 by omega⟩ rfl rfl (fun v8 σ2 hp8 => ?_)
  obtain ⟨rfl, hs2, hM⟩ := hp8
  have hF2 := hM.fr
  have hv2 : LV (s_holes S (ys (i + 1))).2.2 x9 a o σ2 := ⟨hw1, hc1.fr hw1 hF2 (fun t z y => by rw [tgA_K z] at y; cases y), ⟨_, hs2⟩, hF2.at (hF1.at ha0), hF2.at (hF1.at ho), (hF2.len (hF1.live ho.1)).trans ((hF1.len ho.1).trans hN)⟩
  show J X (k + 1) (n + 6) σ2 [(5, .int (nI (s_holes S (ys (i + 1))).1)), (0, .ref b), (1, .ref a), (2, .ref (x9 0)), (3, .ref o), (4, .int (nI i))] [.int ((s_holes S (ys (i + 1))).2.1)] 1764
  refine j_istore (pc := 1764) C [(6, .int ((s_holes S (ys (i + 1))).2.1)), (5, .int (nI (s_holes S (ys (i + 1))).1)), (0, .ref b), (1, .ref a), (2, .ref (x9 0)), (3, .ref o), (4, .int (nI i))] dL_law_1764 (by decide) rfl ?_
  refine j_aload_n (pc := 1766) C dL_law_1766 rfl 4 rfl ?_
  refine j_callV (pc := 1767) C [] [] (rm0 := room_1) (k' := k + 1) (n' := n + 6) K.2.1 (c_X10_thrown (xl X) (xw X) hs2) mp_X10_thrown wm_1145 (hF2.at (hF1.at hM0)) rfl rfl (by decide) rfl rfl (Nat.le_of_ble_eq_true rfl) dL_law_1767 ⟨by decide, by decide⟩ ⟨show k + 1 + 0 ≤ 601024 by omega, show n + 6 + 0 ≤ 7293034 by omega⟩ rfl rfl (fun v7 σ3 hp7 => ?_)
  obtain ⟨rfl, rfl⟩ := hp7
  refine j_iload (pc := 1770) C dL_law_1770 1 rfl ?_
  refine j_icmp_eq (pc := 1772) C 1777 dL_law_1772 (by decide) (fun c0 => ?_) (fun c0 => (c0 rfl : False).elim)
  refine j_iload (pc := 1777) C dL_law_1777 1 rfl ?_
  refine jn_if_ne (pc := 1779) C 1794 (a := (s_holes S (ys (i + 1))).1) (by omega) dL_law_1779 (by decide) (fun c5 => ?_) (fun c5 => ?_)
  · refine j_goto (pc := 1794) C 1865 dL_law_1794 (by decide) ?_
    exact J.wide (by omega) (by omega) (J.to [2, 3, 4, 5, 6] rfl (kk _ _ hv2))
  · refine j_aload_n (pc := 1782) C dL_law_1782 rfl 5 rfl ?_
    refine j_iconst (pc := 1783) C (nI 0) dL_law_1783 (by decide) ?_
    refine j_lald (pc := 1784) C (p := 0) (M := 1) (hF2.at (hF1.at ho)) rfl hv2.2.2.2.2.2 (by decide) (by decide) dL_law_1784 ?_
    refine j_topl ((s_holes S (ys (i + 1))).2.1.toInt64) ((hF2.rL (f := 768) (i := 300) (j := 0) (by decide)).trans (hout c5)) ?_
    refine j_iload (pc := 1785) C dL_law_1785 0 rfl ?_
    refine j_i2l (pc := 1787) C dL_law_1787 ?_
    refine j_lcmp (pc := 1788) C dL_law_1788 ?_
    refine jl_if_eq (pc := 1789) C 1794 dL_law_1789 (by decide) (fun c0 => ?_) (fun c0 => (c0 rfl : False).elim)
    refine j_goto (pc := 1794) C 1865 dL_law_1794 (by decide) ?_
    exact J.wide (by omega) (by omega) (J.to [2, 3, 4, 5, 6] rfl (kk _ _ hv2))
set_option maxHeartbeats 4000000 in
set_option maxRecDepth 100000 in
theorem lc_28 {X : Cx} {b L : Nat} {ys : Nat → Int32} (K : LC X b L ys) (hst9 : (xl X).stackTraces = false) {i : Nat} (hi : i + 5 ≤ L) (hL : L ≤ 2560) {S : SP} {x9 : Nat → Nat} {a o : Nat} {σ : HS} (hv : LV S x9 a o σ) {k n : Nat} (hk : k + 8 ≤ 601024) (hn : n + 127 ≤ 7293034) (kk : ∀ (S' : SP) (σ' : HS), LV S' x9 a o σ' → J X (k + 8) (n + 127) σ' [(0, .ref b), (1, .ref a), (2, .ref (x9 0)), (3, .ref o), (4, .int (nI i))] [] 1865) : J X k n σ [(0, .ref b), (1, .ref a), (2, .ref (x9 0)), (3, .ref o), (4, .int (nI i))] [] 1797 := by
  obtain ⟨hw, hc, ⟨k9, hs⟩, ha0, ho, hN⟩ := hv
  have C := K.1
  have hM0 := hs.2.1.1
  refine j_aload_n (pc := 1797) C dL_law_1797 rfl 1 rfl ?_
  refine j_aload_n (pc := 1798) C dL_law_1798 rfl 0 rfl ?_
  refine j_iload (pc := 1799) C dL_law_1799 4 rfl ?_
  refine j_iconst (pc := 1801) C (nI 1) dL_law_1801 (by decide) ?_
  refine j_iadd (pc := 1802) C dL_law_1802 ?_
  refine j_topi (nI (i + 1)) (nI_add i 1) ?_
  refine j_sld (pc := 1803) K (i := i + 1) (by omega) hL dL_law_1803 ?_
  refine j_aload_n (pc := 1804) C dL_law_1804 rfl 0 rfl ?_
  refine j_iload (pc := 1805) C dL_law_1805 4 rfl ?_
  refine j_iconst (pc := 1807) C (nI 2) dL_law_1807 (by decide) ?_
  refine j_iadd (pc := 1808) C dL_law_1808 ?_
  refine j_topi (nI (i + 2)) (nI_add i 2) ?_
  refine j_sld (pc := 1809) K (i := i + 2) (by omega) hL dL_law_1809 ?_
  refine j_aload_n (pc := 1810) C dL_law_1810 rfl 3 rfl ?_
  refine j_callSW (pc := 1811) C [.ref a, .int (ys (i + 1)), .int (ys (i + 2)), .ref o] [] (rm0 := room_1) (k' := k + 1) (n' := n + 6) K.2.1 (w_shared (xl X) (xw X) hst9 hw hc ha0 ho hN (ys (i + 1)) (ys (i + 2))) mp_L_shared wm_1019 rfl rfl (Nat.le_of_ble_eq_true rfl) dL_law_1811 ⟨by decide, by decide⟩ ⟨show k + 1 ≤ 601024 by omega, show n + 6 ≤ 7293034 by omega⟩ rfl rfl (fun v9 σ1 hp9 => ?_)
  obtain ⟨rfl, h4, hout, hw1, hc1, hF1⟩ := hp9
  have hs1 := hs.fr hF1 (fun t z => tgV_K z)
  show J X (k + 1) (n + 6) σ1 [(0, .ref b), (1, .ref a), (2, .ref (x9 0)), (3, .ref o), (4, .int (nI i))] [.int (nI (s_shared S (ys (i + 1)) (ys (i + 2))).1)] 1814
  refine j_istore (pc := 1814) C [(5, .int (nI (s_shared S (ys (i + 1)) (ys (i + 2))).1)), (0, .ref b), (1, .ref a), (2, .ref (x9 0)), (3, .ref o), (4, .int (nI i))] dL_law_1814 (by decide) rfl ?_
  refine j_aload_n (pc := 1816) C dL_law_1816 rfl 3 rfl ?_
  refine j_aload_n (pc := 1817) C dL_law_1817 rfl 1 rfl ?_
  refine j_iload (pc := 1818) C dL_law_1818 5 rfl ?_
  refine j_iconst (pc := 1820) C (nI 1) dL_law_1820 (by decide) ?_
  refine j_iadd (pc := 1821) C dL_law_1821 ?_
  refine j_topi (nI (i + 1)) (nI_add i 1) ?_
  refine j_sld (pc := 1822) K (i := i + 1) (by omega) hL dL_law_1822 ?_
  refine j_aload_n (pc := 1823) C dL_law_1823 rfl 1 rfl ?_
  refine j_iload (pc := 1824) C dL_law_1824 5 rfl ?_
  refine j_iconst (pc := 1826) C (nI 2) dL_law_1826 (by decide) ?_
  refine j_iadd (pc := 1827) C dL_law_1827 ?_
  refine j_topi (nI (i + 2)) (nI_add i 2) ?_
  refine j_sld (pc := 1828) K (i := i + 2) (by omega) hL dL_law_1828 ?_
  refine j_callV (pc := 1829) C [.int (ys (i + 1)), .int (ys (i + 2))] [] (rm0 := room_1) (k' := k + 1) (n' := n + 6) K.2.1 (c_X10_shared (xl X) (xw X) hs1 hw (ys (i + 1)) (ys (i + 2))) mp_X10_shared wm_1388 (hF1.at hM0) rfl rfl (by decide) rfl rfl (Nat.le_of_ble_eq_true rfl) dL_law_1829 ⟨by decide, by decide⟩ ⟨show k + 1 + 0 ≤ 601024 by omega, show n + 6 + 0 ≤ 7293034 by omega⟩ rfl rfl (fun v8 σ2 hp8 => ?_)
  obtain ⟨rfl, hs2, hM⟩ := hp8
  have hF2 := hM.fr
  have hv2 : LV (s_shared S (ys (i + 1)) (ys (i + 2))).2.2 x9 a o σ2 := ⟨hw1, hc1.fr hw1 hF2 (fun t z y => by rw [tgA_K z] at y; cases y), ⟨_, hs2⟩, hF2.at (hF1.at ha0), hF2.at (hF1.at ho), (hF2.len (hF1.live ho.1)).trans ((hF1.len ho.1).trans hN)⟩
  show J X (k + 1) (n + 6) σ2 [(5, .int (nI (s_shared S (ys (i + 1)) (ys (i + 2))).1)), (0, .ref b), (1, .ref a), (2, .ref (x9 0)), (3, .ref o), (4, .int (nI i))] [.int ((s_shared S (ys (i + 1)) (ys (i + 2))).2.1)] 1832
  refine j_istore (pc := 1832) C [(6, .int ((s_shared S (ys (i + 1)) (ys (i + 2))).2.1)), (5, .int (nI (s_shared S (ys (i + 1)) (ys (i + 2))).1)), (0, .ref b), (1, .ref a), (2, .ref (x9 0)), (3, .ref o), (4, .int (nI i))] dL_law_1832 (by decide) rfl ?_
  refine j_aload_n (pc := 1834) C dL_law_1834 rfl 4 rfl ?_
  refine j_callV (pc := 1835) C [] [] (rm0 := room_1) (k' := k + 1) (n' := n + 6) K.2.1 (c_X10_thrown (xl X) (xw X) hs2) mp_X10_thrown wm_1145 (hF2.at (hF1.at hM0)) rfl rfl (by decide) rfl rfl (Nat.le_of_ble_eq_true rfl) dL_law_1835 ⟨by decide, by decide⟩ ⟨show k + 1 + 0 ≤ 601024 by omega, show n + 6 + 0 ≤ 7293034 by omega⟩ rfl rfl (fun v7 σ3 hp7 => ?_)
  obtain ⟨rfl, rfl⟩ := hp7
  refine j_iload (pc := 1838) C dL_law_1838 1 rfl ?_
  refine j_icmp_eq (pc := 1840) C 1845 dL_law_1840 (by decide) (fun c0 => ?_) (fun c0 => (c0 rfl : False).elim)
  refine j_iload (pc := 1845) C dL_law_1845 1 rfl ?_
  refine jn_if_ne (pc := 1847) C 1862 (a := (s_shared S (ys (i + 1)) (ys (i + 2))).1) (by omega) dL_law_1847 (by decide) (fun c5 => ?_) (fun c5 => ?_)
  · refine j_goto (pc := 1862) C 1865 dL_law_1862 (by decide) ?_
    exact J.wide (by omega) (by omega) (J.to [2, 3, 4, 5, 6] rfl (kk _ _ hv2))
  · refine j_aload_n (pc := 1850) C dL_law_1850 rfl 5 rfl ?_
    refine j_iconst (pc := 1851) C (nI 0) dL_law_1851 (by decide) ?_
    refine j_lald (pc := 1852) C (p := 0) (M := 1) (hF2.at (hF1.at ho)) rfl hv2.2.2.2.2.2 (by decide) (by decide) dL_law_1852 ?_
    refine j_topl ((s_shared S (ys (i + 1)) (ys (i + 2))).2.1.toInt64) ((hF2.rL (f := 768) (i := 300) (j := 0) (by decide)).trans (hout c5)) ?_
    refine j_iload (pc := 1853) C dL_law_1853 0 rfl ?_
    refine j_i2l (pc := 1855) C dL_law_1855 ?_
    refine j_lcmp (pc := 1856) C dL_law_1856 ?_
    refine jl_if_eq (pc := 1857) C 1862 dL_law_1857 (by decide) (fun c0 => ?_) (fun c0 => (c0 rfl : False).elim)
    refine j_goto (pc := 1862) C 1865 dL_law_1862 (by decide) ?_
    exact J.wide (by omega) (by omega) (J.to [2, 3, 4, 5, 6] rfl (kk _ _ hv2))
