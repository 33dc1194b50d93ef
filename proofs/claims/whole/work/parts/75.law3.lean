set_option maxHeartbeats 4000000 in
set_option maxRecDepth 100000 in
theorem lw_c30 {G : am_G} {X : am_X} {tz : List ExceptionTableEntry} {Q : State → Prop} {Λ : am_L} {I : am_I} {J : am_J} {k n b x y o c L : Nat} {xs : Nat → Int32} (C : am_Cx G X RL cL_law 9 (some .boolean) tz Q) (S : LSc G X b L xs) (hL : L ≤ 3072) (hc : 6 * c + 6 ≤ L) (D : LL Λ x y o) (V : LInv I x y) (hk : k + 8 ≤ 601024 ∧ n + 40 ≤ 7293034) (kk : ∀ (I' : am_I) (J' : am_J) (k' n' : Nat), LInv I' x y → k' ≤ k + 8 → n' ≤ n + 40 → am_K G X room_1 9 Λ I' J' k' n' 2922 (lw_LS b x y o c) []) : am_K G X room_1 9 Λ I J k n 1510 (lw_LS b x y o c) [] := by
  obtain ⟨hx, hy, ho, hxy, hyo⟩ := D
  obtain ⟨tb, n0, err, r, ct, hs, kp, sn, w, hR, hM, hO⟩ := V
  refine k_aload_n C (f := 1) (i := 1) (p := 1) rfl rfl dL_law_1510 ?_
  refine k_aload_n C (f := 0) (i := 0) (p := 0) rfl rfl dL_law_1511 ?_
  refine k_iload C (i := 4) (p := 4) rfl dL_law_1512 ?_
  refine k_iconst C ic_1 dL_law_1514 ?_
  refine k_iadd C dL_law_1515 ?_
  refine k_sld C S hL (nI_add (6 * c) 1) (by omega) dL_law_1516 ?_
  refine k_aload_n C (f := 3) (i := 3) (p := 3) rfl rfl dL_law_1517 ?_
  refine k_callSH C s_L_262 h_L_freeWeight (ct_L_freeWeight hx (RR_r hR) ho) rfl rfl (Nat.le_of_ble_eq_true rfl) ⟨Nat.le_of_ble_eq_true rfl, Nat.le_of_ble_eq_true rfl⟩ (show k + 1 ≤ 601024 ∧ n + 6 ≤ 7293034 by omega) dL_law_1518 (fun v Λ1 I1 J1 hv => ?_) (fun _ _ _ _ h => h.elim)
  obtain ⟨rfl, rfl, hJ1, hA, hB⟩ := hv
  have e1 : I1 = I := Classical.byCases (fun q => (hA q).2) (fun q => hB q)
  subst e1
  have hM1 := hM
  refine k_istore C (i := 5) (lv := (5, _) :: lw_LS b x y o c) (Nat.le_of_ble_eq_true rfl) rfl dL_law_1521 ?_
  refine k_aload_n C (f := 2) (i := 2) (p := 3) rfl rfl dL_law_1523 ?_
  refine k_aload_n C (f := 0) (i := 0) (p := 1) rfl rfl dL_law_1524 ?_
  refine k_iload C (i := 4) (p := 5) rfl dL_law_1525 ?_
  refine k_iconst C ic_1 dL_law_1527 ?_
  refine k_iadd C dL_law_1528 ?_
  refine k_sld C S hL (nI_add (6 * c) 1) (by omega) dL_law_1529 ?_
  refine k_callVg C s_L_264 h_X6_freeWeight (L6_s hy) rfl (ct_X6_freeWeight hy (MM_r hM1) hO.1) rfl rfl (Nat.le_of_ble_eq_true rfl) ⟨Nat.le_of_ble_eq_true rfl, Nat.le_of_ble_eq_true rfl⟩ (show k + 1 ≤ 601024 ∧ n + 6 ≤ 7293034 by omega) ⟨rfl, rfl⟩ dL_law_1530 ?_
  intro v I2 hv
  obtain ⟨⟨bb, rfl⟩, hval, rfl⟩ := hv
  refine k_istore C (i := 6) (lv := (6, _) :: (5, _) :: lw_LS b x y o c) (Nat.le_of_ble_eq_true rfl) rfl dL_law_1533 ?_
  have hcd : _ < 2 ^ 31 := lw_of hA (by
    repeat' refine lw_lt ?_ ?_
    all_goals decide)
  exact lw_tail (k := k + 1) (n := n + 6) C hy ho am_up_eq hcd (fun q => (hA q).1.trans (congrArg Int32.toInt64 (Value.int.inj (Option.some.inj (hval q))).symm)) dL_law_1535 dL_law_1536 dL_law_1539 dL_law_1541 dL_law_1546 dL_law_1548 dL_law_1551 dL_law_1552 dL_law_1553 dL_law_1554 dL_law_1556 dL_law_1557 dL_law_1558 dL_law_1563 (by decide) (show k + 1 ≤ 601024 ∧ n + 6 ≤ 7293034 by omega) (kk _ _ (k + 1) (n + 6) (LInv_q hR hM hO hxy) (by omega) (by omega))
set_option maxHeartbeats 4000000 in
set_option maxRecDepth 100000 in
theorem lw_c31 {G : am_G} {X : am_X} {tz : List ExceptionTableEntry} {Q : State → Prop} {Λ : am_L} {I : am_I} {J : am_J} {k n b x y o c L : Nat} {xs : Nat → Int32} (C : am_Cx G X RL cL_law 9 (some .boolean) tz Q) (S : LSc G X b L xs) (hL : L ≤ 3072) (hc : 6 * c + 6 ≤ L) (D : LL Λ x y o) (V : LInv I x y) (hk : k + 8 ≤ 601024 ∧ n + 40 ≤ 7293034) (kk : ∀ (I' : am_I) (J' : am_J) (k' n' : Nat), LInv I' x y → k' ≤ k + 8 → n' ≤ n + 40 → am_K G X room_1 9 Λ I' J' k' n' 2922 (lw_LS b x y o c) []) : am_K G X room_1 9 Λ I J k n 1566 (lw_LS b x y o c) [] := by
  obtain ⟨hx, hy, ho, hxy, hyo⟩ := D
  obtain ⟨tb, n0, err, r, ct, hs, kp, sn, w, hR, hM, hO⟩ := V
  refine k_aload_n C (f := 1) (i := 1) (p := 1) rfl rfl dL_law_1566 ?_
  refine k_aload_n C (f := 3) (i := 3) (p := 3) rfl rfl dL_law_1567 ?_
  refine k_callSH C s_L_265 h_L_thirstiest (ct_L_thirstiest hx (RR_r hR) ho) rfl rfl (Nat.le_of_ble_eq_true rfl) ⟨Nat.le_of_ble_eq_true rfl, Nat.le_of_ble_eq_true rfl⟩ (show k + 1 ≤ 601024 ∧ n + 6 ≤ 7293034 by omega) dL_law_1568 (fun v Λ1 I1 J1 hv => ?_) (fun _ _ _ _ h => h.elim)
  obtain ⟨rfl, rfl, hJ1, hA, hB⟩ := hv
  have e1 : I1 = I := Classical.byCases (fun q => (hA q).2) (fun q => hB q)
  subst e1
  have hM1 := hM
  refine k_istore C (i := 5) (lv := (5, _) :: lw_LS b x y o c) (Nat.le_of_ble_eq_true rfl) rfl dL_law_1571 ?_
  refine k_aload_n C (f := 2) (i := 2) (p := 3) rfl rfl dL_law_1573 ?_
  refine k_callVg C s_L_267 h_X6_thirstiest (L6_s hy) rfl (ct_X6_thirstiest hy (MM_r hM1) hO.1) rfl rfl (Nat.le_of_ble_eq_true rfl) ⟨Nat.le_of_ble_eq_true rfl, Nat.le_of_ble_eq_true rfl⟩ (show k + 1 ≤ 601024 ∧ n + 6 ≤ 7293034 by omega) ⟨rfl, rfl⟩ dL_law_1574 ?_
  intro v I2 hv
  obtain ⟨⟨bb, rfl⟩, hval, rfl⟩ := hv
  refine k_istore C (i := 6) (lv := (6, _) :: (5, _) :: lw_LS b x y o c) (Nat.le_of_ble_eq_true rfl) rfl dL_law_1577 ?_
  have hcd : _ < 2 ^ 31 := lw_of hA (by
    repeat' refine lw_lt ?_ ?_
    all_goals decide)
  exact lw_tail (k := k + 1) (n := n + 6) C hy ho am_up_eq hcd (fun q => (hA q).1.trans (congrArg Int32.toInt64 (Value.int.inj (Option.some.inj (hval q))).symm)) dL_law_1579 dL_law_1580 dL_law_1583 dL_law_1585 dL_law_1590 dL_law_1592 dL_law_1595 dL_law_1596 dL_law_1597 dL_law_1598 dL_law_1600 dL_law_1601 dL_law_1602 dL_law_1607 (by decide) (show k + 1 ≤ 601024 ∧ n + 6 ≤ 7293034 by omega) (kk _ _ (k + 1) (n + 6) (LInv_q hR hM hO hxy) (by omega) (by omega))
set_option maxHeartbeats 4000000 in
set_option maxRecDepth 100000 in
theorem lw_c32 {G : am_G} {X : am_X} {tz : List ExceptionTableEntry} {Q : State → Prop} {Λ : am_L} {I : am_I} {J : am_J} {k n b x y o c L : Nat} {xs : Nat → Int32} (C : am_Cx G X RL cL_law 9 (some .boolean) tz Q) (S : LSc G X b L xs) (hL : L ≤ 3072) (hc : 6 * c + 6 ≤ L) (D : LL Λ x y o) (V : LInv I x y) (hk : k + 8 ≤ 601024 ∧ n + 40 ≤ 7293034) (kk : ∀ (I' : am_I) (J' : am_J) (k' n' : Nat), LInv I' x y → k' ≤ k + 8 → n' ≤ n + 40 → am_K G X room_1 9 Λ I' J' k' n' 2922 (lw_LS b x y o c) []) : am_K G X room_1 9 Λ I J k n 1610 (lw_LS b x y o c) [] := by
  obtain ⟨hx, hy, ho, hxy, hyo⟩ := D
  obtain ⟨tb, n0, err, r, ct, hs, kp, sn, w, hR, hM, hO⟩ := V
  refine k_aload_n C (f := 1) (i := 1) (p := 1) rfl rfl dL_law_1610 ?_
  refine k_aload_n C (f := 3) (i := 3) (p := 3) rfl rfl dL_law_1611 ?_
  refine k_callSH C s_L_268 h_L_fastest (ct_L_fastest hx (RR_r hR) ho) rfl rfl (Nat.le_of_ble_eq_true rfl) ⟨Nat.le_of_ble_eq_true rfl, Nat.le_of_ble_eq_true rfl⟩ (show k + 1 ≤ 601024 ∧ n + 6 ≤ 7293034 by omega) dL_law_1612 (fun v Λ1 I1 J1 hv => ?_) (fun _ _ _ _ h => h.elim)
  obtain ⟨rfl, rfl, hJ1, hA, hB⟩ := hv
  have e1 : I1 = I := Classical.byCases (fun q => (hA q).2) (fun q => hB q)
  subst e1
  have hM1 := hM
  refine k_istore C (i := 5) (lv := (5, _) :: lw_LS b x y o c) (Nat.le_of_ble_eq_true rfl) rfl dL_law_1615 ?_
  refine k_aload_n C (f := 2) (i := 2) (p := 3) rfl rfl dL_law_1617 ?_
  refine k_callVg C s_L_270 h_X6_fastest (L6_s hy) rfl (ct_X6_fastest hy (MM_r hM1) hO.1) rfl rfl (Nat.le_of_ble_eq_true rfl) ⟨Nat.le_of_ble_eq_true rfl, Nat.le_of_ble_eq_true rfl⟩ (show k + 1 ≤ 601024 ∧ n + 6 ≤ 7293034 by omega) ⟨rfl, rfl⟩ dL_law_1618 ?_
  intro v I2 hv
  obtain ⟨⟨bb, rfl⟩, hval, rfl⟩ := hv
  refine k_istore C (i := 6) (lv := (6, _) :: (5, _) :: lw_LS b x y o c) (Nat.le_of_ble_eq_true rfl) rfl dL_law_1621 ?_
  have hcd : _ < 2 ^ 31 := lw_of hA (by
    repeat' refine lw_lt ?_ ?_
    all_goals decide)
  exact lw_tail (k := k + 1) (n := n + 6) C hy ho am_up_eq hcd (fun q => (hA q).1.trans (congrArg Int32.toInt64 (Value.int.inj (Option.some.inj (hval q))).symm)) dL_law_1623 dL_law_1624 dL_law_1627 dL_law_1629 dL_law_1634 dL_law_1636 dL_law_1639 dL_law_1640 dL_law_1641 dL_law_1642 dL_law_1644 dL_law_1645 dL_law_1646 dL_law_1651 (by decide) (show k + 1 ≤ 601024 ∧ n + 6 ≤ 7293034 by omega) (kk _ _ (k + 1) (n + 6) (LInv_q hR hM hO hxy) (by omega) (by omega))
set_option maxHeartbeats 4000000 in
set_option maxRecDepth 100000 in
theorem lw_c33 {G : am_G} {X : am_X} {tz : List ExceptionTableEntry} {Q : State → Prop} {Λ : am_L} {I : am_I} {J : am_J} {k n b x y o c L : Nat} {xs : Nat → Int32} (C : am_Cx G X RL cL_law 9 (some .boolean) tz Q) (S : LSc G X b L xs) (hL : L ≤ 3072) (hc : 6 * c + 6 ≤ L) (D : LL Λ x y o) (V : LInv I x y) (hk : k + 8 ≤ 601024 ∧ n + 40 ≤ 7293034) (kk : ∀ (I' : am_I) (J' : am_J) (k' n' : Nat), LInv I' x y → k' ≤ k + 8 → n' ≤ n + 40 → am_K G X room_1 9 Λ I' J' k' n' 2922 (lw_LS b x y o c) []) : am_K G X room_1 9 Λ I J k n 1654 (lw_LS b x y o c) [] := by
  obtain ⟨hx, hy, ho, hxy, hyo⟩ := D
  obtain ⟨tb, n0, err, r, ct, hs, kp, sn, w, hR, hM, hO⟩ := V
  refine k_aload_n C (f := 1) (i := 1) (p := 1) rfl rfl dL_law_1654 ?_
  have hM1 := hM
  refine k_callVp C s_L_271 h_X5_loadCount (L5_s hx) rfl (ct_X5_loadCount hx (RR_r hR)) rfl rfl (Nat.le_of_ble_eq_true rfl) ⟨Nat.le_of_ble_eq_true rfl, Nat.le_of_ble_eq_true rfl⟩ (show k + 0 ≤ 601024 ∧ n + 0 ≤ 7293034 by omega) ⟨rfl, rfl⟩ dL_law_1655 ?_
  refine k_aload_n C (f := 2) (i := 2) (p := 2) rfl rfl dL_law_1658 ?_
  refine k_callVg C s_L_274 h_X6_loadCount (L6_s hy) rfl (ct_X6_loadCount hy (MM_r hM1) hO.1) rfl rfl (Nat.le_of_ble_eq_true rfl) ⟨Nat.le_of_ble_eq_true rfl, Nat.le_of_ble_eq_true rfl⟩ (show k + 0 ≤ 601024 ∧ n + 0 ≤ 7293034 by omega) ⟨rfl, rfl⟩ dL_law_1659 ?_
  intro v I2 hv
  obtain ⟨⟨bb, rfl⟩, hval, rfl⟩ := hv
  exact k_icmp_eq C (tgt := 2922) (by decide) dL_law_1662 (fun _ => (kk _ _ k n (LInv_q hR hM hO hxy) (by omega) (by omega))) (fun h => absurd (Value.int.inj (Option.some.inj (hval rfl))).symm h)
set_option maxHeartbeats 4000000 in
set_option maxRecDepth 100000 in
theorem lw_c34 {G : am_G} {X : am_X} {tz : List ExceptionTableEntry} {Q : State → Prop} {Λ : am_L} {I : am_I} {J : am_J} {k n b x y o c L : Nat} {xs : Nat → Int32} (C : am_Cx G X RL cL_law 9 (some .boolean) tz Q) (S : LSc G X b L xs) (hL : L ≤ 3072) (hc : 6 * c + 6 ≤ L) (D : LL Λ x y o) (V : LInv I x y) (hk : k + 8 ≤ 601024 ∧ n + 40 ≤ 7293034) (kk : ∀ (I' : am_I) (J' : am_J) (k' n' : Nat), LInv I' x y → k' ≤ k + 8 → n' ≤ n + 40 → am_K G X room_1 9 Λ I' J' k' n' 2922 (lw_LS b x y o c) []) : am_K G X room_1 9 Λ I J k n 1667 (lw_LS b x y o c) [] := by
  obtain ⟨hx, hy, ho, hxy, hyo⟩ := D
  obtain ⟨tb, n0, err, r, ct, hs, kp, sn, w, hR, hM, hO⟩ := V
  refine k_aload_n C (f := 1) (i := 1) (p := 1) rfl rfl dL_law_1667 ?_
  refine k_aload_n C (f := 0) (i := 0) (p := 0) rfl rfl dL_law_1668 ?_
  refine k_iload C (i := 4) (p := 4) rfl dL_law_1669 ?_
  refine k_iconst C ic_1 dL_law_1671 ?_
  refine k_iadd C dL_law_1672 ?_
  refine k_sld C S hL (nI_add (6 * c) 1) (by omega) dL_law_1673 ?_
  refine k_aload_n C (f := 3) (i := 3) (p := 3) rfl rfl dL_law_1674 ?_
  refine k_callSH C s_L_275 h_L_weightOf (ct_L_weightOf hx (RR_r hR) ho) rfl rfl (Nat.le_of_ble_eq_true rfl) ⟨Nat.le_of_ble_eq_true rfl, Nat.le_of_ble_eq_true rfl⟩ (show k + 1 ≤ 601024 ∧ n + 6 ≤ 7293034 by omega) dL_law_1675 (fun v Λ1 I1 J1 hv => ?_) (fun _ _ _ _ h => h.elim)
  obtain ⟨rfl, rfl, hJ1, hA, hB⟩ := hv
  have e1 : I1 = I := Classical.byCases (fun q => (hA q).2) (fun q => hB q)
  subst e1
  have hM1 := hM
  refine k_istore C (i := 5) (lv := (5, _) :: lw_LS b x y o c) (Nat.le_of_ble_eq_true rfl) rfl dL_law_1678 ?_
  refine k_aload_n C (f := 2) (i := 2) (p := 3) rfl rfl dL_law_1680 ?_
  refine k_aload_n C (f := 0) (i := 0) (p := 1) rfl rfl dL_law_1681 ?_
  refine k_iload C (i := 4) (p := 5) rfl dL_law_1682 ?_
  refine k_iconst C ic_1 dL_law_1684 ?_
  refine k_iadd C dL_law_1685 ?_
  refine k_sld C S hL (nI_add (6 * c) 1) (by omega) dL_law_1686 ?_
  refine k_callVg C s_L_277 h_X6_weightOf (L6_s hy) rfl (ct_X6_weightOf hy (MM_r hM1) hO.1) rfl rfl (Nat.le_of_ble_eq_true rfl) ⟨Nat.le_of_ble_eq_true rfl, Nat.le_of_ble_eq_true rfl⟩ (show k + 1 ≤ 601024 ∧ n + 6 ≤ 7293034 by omega) ⟨rfl, rfl⟩ dL_law_1687 ?_
  intro v I2 hv
  obtain ⟨⟨bb, rfl⟩, hval, rfl⟩ := hv
  refine k_istore C (i := 6) (lv := (6, _) :: (5, _) :: lw_LS b x y o c) (Nat.le_of_ble_eq_true rfl) rfl dL_law_1690 ?_
  have hcd : _ < 2 ^ 31 := lw_of hA (by
    repeat' refine lw_lt ?_ ?_
    all_goals decide)
  exact lw_tail (k := k + 1) (n := n + 6) C hy ho am_up_eq hcd (fun q => (hA q).1.trans (congrArg Int32.toInt64 (Value.int.inj (Option.some.inj (hval q))).symm)) dL_law_1692 dL_law_1693 dL_law_1696 dL_law_1698 dL_law_1703 dL_law_1705 dL_law_1708 dL_law_1709 dL_law_1710 dL_law_1711 dL_law_1713 dL_law_1714 dL_law_1715 dL_law_1720 (by decide) (show k + 1 ≤ 601024 ∧ n + 6 ≤ 7293034 by omega) (kk _ _ (k + 1) (n + 6) (LInv_q hR hM hO hxy) (by omega) (by omega))
set_option maxHeartbeats 4000000 in
set_option maxRecDepth 100000 in
theorem lw_c35 {G : am_G} {X : am_X} {tz : List ExceptionTableEntry} {Q : State → Prop} {Λ : am_L} {I : am_I} {J : am_J} {k n b x y o c L : Nat} {xs : Nat → Int32} (C : am_Cx G X RL cL_law 9 (some .boolean) tz Q) (S : LSc G X b L xs) (hL : L ≤ 3072) (hc : 6 * c + 6 ≤ L) (D : LL Λ x y o) (V : LInv I x y) (hk : k + 8 ≤ 601024 ∧ n + 40 ≤ 7293034) (kk : ∀ (I' : am_I) (J' : am_J) (k' n' : Nat), LInv I' x y → k' ≤ k + 8 → n' ≤ n + 40 → am_K G X room_1 9 Λ I' J' k' n' 2922 (lw_LS b x y o c) []) : am_K G X room_1 9 Λ I J k n 1723 (lw_LS b x y o c) [] := by
  obtain ⟨hx, hy, ho, hxy, hyo⟩ := D
  obtain ⟨tb, n0, err, r, ct, hs, kp, sn, w, hR, hM, hO⟩ := V
  refine k_aload_n C (f := 1) (i := 1) (p := 1) rfl rfl dL_law_1723 ?_
  refine k_aload_n C (f := 0) (i := 0) (p := 0) rfl rfl dL_law_1724 ?_
  refine k_iload C (i := 4) (p := 4) rfl dL_law_1725 ?_
  refine k_iconst C ic_1 dL_law_1727 ?_
  refine k_iadd C dL_law_1728 ?_
  refine k_sld C S hL (nI_add (6 * c) 1) (by omega) dL_law_1729 ?_
  refine k_aload_n C (f := 3) (i := 3) (p := 3) rfl rfl dL_law_1730 ?_
  refine k_callSH C s_L_278 h_L_valueOf (ct_L_valueOf hx (RR_r hR) ho) rfl rfl (Nat.le_of_ble_eq_true rfl) ⟨Nat.le_of_ble_eq_true rfl, Nat.le_of_ble_eq_true rfl⟩ (show k + 1 ≤ 601024 ∧ n + 6 ≤ 7293034 by omega) dL_law_1731 (fun v Λ1 I1 J1 hv => ?_) (fun _ _ _ _ h => h.elim)
  obtain ⟨rfl, rfl, hJ1, hA, hB⟩ := hv
  have e1 : I1 = I := Classical.byCases (fun q => (hA q).2) (fun q => hB q)
  subst e1
  have hM1 := hM
  refine k_istore C (i := 5) (lv := (5, _) :: lw_LS b x y o c) (Nat.le_of_ble_eq_true rfl) rfl dL_law_1734 ?_
  refine k_aload_n C (f := 2) (i := 2) (p := 3) rfl rfl dL_law_1736 ?_
  refine k_aload_n C (f := 0) (i := 0) (p := 1) rfl rfl dL_law_1737 ?_
  refine k_iload C (i := 4) (p := 5) rfl dL_law_1738 ?_
  refine k_iconst C ic_1 dL_law_1740 ?_
  refine k_iadd C dL_law_1741 ?_
  refine k_sld C S hL (nI_add (6 * c) 1) (by omega) dL_law_1742 ?_
  refine k_callVg C s_L_280 h_X6_valueOf (L6_s hy) rfl (ct_X6_valueOf hy (MM_r hM1) hO.1) rfl rfl (Nat.le_of_ble_eq_true rfl) ⟨Nat.le_of_ble_eq_true rfl, Nat.le_of_ble_eq_true rfl⟩ (show k + 1 ≤ 601024 ∧ n + 6 ≤ 7293034 by omega) ⟨rfl, rfl⟩ dL_law_1743 ?_
  intro v I2 hv
  obtain ⟨⟨bb, rfl⟩, hval, rfl⟩ := hv
  refine k_istore C (i := 6) (lv := (6, _) :: (5, _) :: lw_LS b x y o c) (Nat.le_of_ble_eq_true rfl) rfl dL_law_1746 ?_
  have hcd : _ < 2 ^ 31 := lw_of hA (by
    repeat' refine lw_lt ?_ ?_
    all_goals decide)
  exact lw_tail (k := k + 1) (n := n + 6) C hy ho am_up_eq hcd (fun q => (hA q).1.trans (congrArg Int32.toInt64 (Value.int.inj (Option.some.inj (hval q))).symm)) dL_law_1748 dL_law_1749 dL_law_1752 dL_law_1754 dL_law_1759 dL_law_1761 dL_law_1764 dL_law_1765 dL_law_1766 dL_law_1767 dL_law_1769 dL_law_1770 dL_law_1771 dL_law_1776 (by decide) (show k + 1 ≤ 601024 ∧ n + 6 ≤ 7293034 by omega) (kk _ _ (k + 1) (n + 6) (LInv_q hR hM hO hxy) (by omega) (by omega))
set_option maxHeartbeats 4000000 in
set_option maxRecDepth 100000 in
theorem lw_c36 {G : am_G} {X : am_X} {tz : List ExceptionTableEntry} {Q : State → Prop} {Λ : am_L} {I : am_I} {J : am_J} {k n b x y o c L : Nat} {xs : Nat → Int32} (C : am_Cx G X RL cL_law 9 (some .boolean) tz Q) (S : LSc G X b L xs) (hL : L ≤ 3072) (hc : 6 * c + 6 ≤ L) (D : LL Λ x y o) (V : LInv I x y) (hk : k + 8 ≤ 601024 ∧ n + 40 ≤ 7293034) (kk : ∀ (I' : am_I) (J' : am_J) (k' n' : Nat), LInv I' x y → k' ≤ k + 8 → n' ≤ n + 40 → am_K G X room_1 9 Λ I' J' k' n' 2922 (lw_LS b x y o c) []) : am_K G X room_1 9 Λ I J k n 1779 (lw_LS b x y o c) [] := by
  obtain ⟨hx, hy, ho, hxy, hyo⟩ := D
  obtain ⟨tb, n0, err, r, ct, hs, kp, sn, w, hR, hM, hO⟩ := V
  refine k_aload_n C (f := 1) (i := 1) (p := 1) rfl rfl dL_law_1779 ?_
  refine k_aload_n C (f := 0) (i := 0) (p := 0) rfl rfl dL_law_1780 ?_
  refine k_iload C (i := 4) (p := 4) rfl dL_law_1781 ?_
  refine k_iconst C ic_1 dL_law_1783 ?_
  refine k_iadd C dL_law_1784 ?_
  refine k_sld C S hL (nI_add (6 * c) 1) (by omega) dL_law_1785 ?_
  refine k_aload_n C (f := 3) (i := 3) (p := 3) rfl rfl dL_law_1786 ?_
  refine k_callSH C s_L_281 h_L_isCarried (ct_L_isCarried hx (RR_r hR) ho) rfl rfl (Nat.le_of_ble_eq_true rfl) ⟨Nat.le_of_ble_eq_true rfl, Nat.le_of_ble_eq_true rfl⟩ (show k + 1 ≤ 601024 ∧ n + 6 ≤ 7293034 by omega) dL_law_1787 (fun v Λ1 I1 J1 hv => ?_) (fun _ _ _ _ h => h.elim)
  obtain ⟨rfl, rfl, hJ1, hA, hB⟩ := hv
  have e1 : I1 = I := Classical.byCases (fun q => (hA q).2) (fun q => hB q)
  subst e1
  have hM1 := hM
  refine k_istore C (i := 5) (lv := (5, _) :: lw_LS b x y o c) (Nat.le_of_ble_eq_true rfl) rfl dL_law_1790 ?_
  refine k_aload_n C (f := 2) (i := 2) (p := 3) rfl rfl dL_law_1792 ?_
  refine k_aload_n C (f := 0) (i := 0) (p := 1) rfl rfl dL_law_1793 ?_
  refine k_iload C (i := 4) (p := 5) rfl dL_law_1794 ?_
  refine k_iconst C ic_1 dL_law_1796 ?_
  refine k_iadd C dL_law_1797 ?_
  refine k_sld C S hL (nI_add (6 * c) 1) (by omega) dL_law_1798 ?_
  refine k_callVg C s_L_283 h_X6_isCarried (L6_s hy) rfl (ct_X6_isCarried hy (MM_r hM1) hO.1) rfl rfl (Nat.le_of_ble_eq_true rfl) ⟨Nat.le_of_ble_eq_true rfl, Nat.le_of_ble_eq_true rfl⟩ (show k + 1 ≤ 601024 ∧ n + 6 ≤ 7293034 by omega) ⟨rfl, rfl⟩ dL_law_1799 ?_
  intro v I2 hv
  obtain ⟨⟨bb, rfl⟩, hval, rfl⟩ := hv
  refine k_istore C (i := 6) (lv := (6, _) :: (5, _) :: lw_LS b x y o c) (Nat.le_of_ble_eq_true rfl) rfl dL_law_1802 ?_
  have hcd : _ < 2 ^ 31 := lw_of hA (by
    repeat' refine lw_lt ?_ ?_
    all_goals decide)
  exact lw_tailb (k := k + 1) (n := n + 6) C hy ho am_up_eq hcd (fun q => ⟨(hA q).1, Value.int.inj (Option.some.inj (hval q))⟩) dL_law_1804 dL_law_1805 dL_law_1808 dL_law_1810 dL_law_1815 dL_law_1817 dL_law_1820 dL_law_1821 dL_law_1822 dL_law_1823 dL_law_1825 dL_law_1828 dL_law_1829 dL_law_1832 dL_law_1833 dL_law_1834 dL_law_1839 (by decide) (show k + 1 ≤ 601024 ∧ n + 6 ≤ 7293034 by omega) (kk _ _ (k + 1) (n + 6) (LInv_q hR hM hO hxy) (by omega) (by omega))
set_option maxHeartbeats 4000000 in
set_option maxRecDepth 100000 in
theorem lw_c37 {G : am_G} {X : am_X} {tz : List ExceptionTableEntry} {Q : State → Prop} {Λ : am_L} {I : am_I} {J : am_J} {k n b x y o c L : Nat} {xs : Nat → Int32} (C : am_Cx G X RL cL_law 9 (some .boolean) tz Q) (S : LSc G X b L xs) (hL : L ≤ 3072) (hc : 6 * c + 6 ≤ L) (D : LL Λ x y o) (V : LInv I x y) (hk : k + 8 ≤ 601024 ∧ n + 40 ≤ 7293034) (kk : ∀ (I' : am_I) (J' : am_J) (k' n' : Nat), LInv I' x y → k' ≤ k + 8 → n' ≤ n + 40 → am_K G X room_1 9 Λ I' J' k' n' 2922 (lw_LS b x y o c) []) : am_K G X room_1 9 Λ I J k n 1842 (lw_LS b x y o c) [] := by
  obtain ⟨hx, hy, ho, hxy, hyo⟩ := D
  obtain ⟨tb, n0, err, r, ct, hs, kp, sn, w, hR, hM, hO⟩ := V
  refine k_aload_n C (f := 1) (i := 1) (p := 1) rfl rfl dL_law_1842 ?_
  refine k_aload_n C (f := 0) (i := 0) (p := 0) rfl rfl dL_law_1843 ?_
  refine k_iload C (i := 4) (p := 4) rfl dL_law_1844 ?_
  refine k_iconst C ic_1 dL_law_1846 ?_
  refine k_iadd C dL_law_1847 ?_
  refine k_sld C S hL (nI_add (6 * c) 1) (by omega) dL_law_1848 ?_
  refine k_aload_n C (f := 3) (i := 3) (p := 3) rfl rfl dL_law_1849 ?_
  refine k_callSH C s_L_284 h_L_carrierOf (ct_L_carrierOf hx (RR_r hR) ho) rfl rfl (Nat.le_of_ble_eq_true rfl) ⟨Nat.le_of_ble_eq_true rfl, Nat.le_of_ble_eq_true rfl⟩ (show k + 2 ≤ 601024 ∧ n + 12 ≤ 7293034 by omega) dL_law_1850 (fun v Λ1 I1 J1 hv => ?_) (fun _ _ _ _ h => h.elim)
  obtain ⟨rfl, rfl, hJ1, hA, hB⟩ := hv
  have e1 : I1 = I := Classical.byCases (fun q => (hA q).2) (fun q => hB q)
  subst e1
  have hM1 := hM
  refine k_istore C (i := 5) (lv := (5, _) :: lw_LS b x y o c) (Nat.le_of_ble_eq_true rfl) rfl dL_law_1853 ?_
  refine k_aload_n C (f := 2) (i := 2) (p := 3) rfl rfl dL_law_1855 ?_
  refine k_aload_n C (f := 0) (i := 0) (p := 1) rfl rfl dL_law_1856 ?_
  refine k_iload C (i := 4) (p := 5) rfl dL_law_1857 ?_
  refine k_iconst C ic_1 dL_law_1859 ?_
  refine k_iadd C dL_law_1860 ?_
  refine k_sld C S hL (nI_add (6 * c) 1) (by omega) dL_law_1861 ?_
  refine k_callVg C s_L_286 h_X6_carrierOf (L6_s hy) rfl (ct_X6_carrierOf hy (MM_r hM1) hO.1) rfl rfl (Nat.le_of_ble_eq_true rfl) ⟨Nat.le_of_ble_eq_true rfl, Nat.le_of_ble_eq_true rfl⟩ (show k + 2 ≤ 601024 ∧ n + 12 ≤ 7293034 by omega) ⟨rfl, rfl⟩ dL_law_1862 ?_
  intro v I2 hv
  obtain ⟨⟨bb, rfl⟩, hval, rfl⟩ := hv
  refine k_istore C (i := 6) (lv := (6, _) :: (5, _) :: lw_LS b x y o c) (Nat.le_of_ble_eq_true rfl) rfl dL_law_1865 ?_
  have hcd : _ < 2 ^ 31 := lw_of hA (by
    repeat' refine lw_lt ?_ ?_
    all_goals decide)
  exact lw_tail (k := k + 2) (n := n + 12) C hy ho am_up_eq hcd (fun q => (hA q).1.trans (congrArg Int32.toInt64 (Value.int.inj (Option.some.inj (hval q))).symm)) dL_law_1867 dL_law_1868 dL_law_1871 dL_law_1873 dL_law_1878 dL_law_1880 dL_law_1883 dL_law_1884 dL_law_1885 dL_law_1886 dL_law_1888 dL_law_1889 dL_law_1890 dL_law_1895 (by decide) (show k + 2 ≤ 601024 ∧ n + 12 ≤ 7293034 by omega) (kk _ _ (k + 2) (n + 12) (LInv_q hR hM hO hxy) (by omega) (by omega))
set_option maxHeartbeats 4000000 in
set_option maxRecDepth 100000 in
theorem lw_c38 {G : am_G} {X : am_X} {tz : List ExceptionTableEntry} {Q : State → Prop} {Λ : am_L} {I : am_I} {J : am_J} {k n b x y o c L : Nat} {xs : Nat → Int32} (C : am_Cx G X RL cL_law 9 (some .boolean) tz Q) (S : LSc G X b L xs) (hL : L ≤ 3072) (hc : 6 * c + 6 ≤ L) (D : LL Λ x y o) (V : LInv I x y) (hk : k + 8 ≤ 601024 ∧ n + 40 ≤ 7293034) (kk : ∀ (I' : am_I) (J' : am_J) (k' n' : Nat), LInv I' x y → k' ≤ k + 8 → n' ≤ n + 40 → am_K G X room_1 9 Λ I' J' k' n' 2922 (lw_LS b x y o c) []) : am_K G X room_1 9 Λ I J k n 1898 (lw_LS b x y o c) [] := by
  obtain ⟨hx, hy, ho, hxy, hyo⟩ := D
  obtain ⟨tb, n0, err, r, ct, hs, kp, sn, w, hR, hM, hO⟩ := V
  refine k_aload_n C (f := 1) (i := 1) (p := 1) rfl rfl dL_law_1898 ?_
  refine k_aload_n C (f := 0) (i := 0) (p := 0) rfl rfl dL_law_1899 ?_
  refine k_iload C (i := 4) (p := 4) rfl dL_law_1900 ?_
  refine k_iconst C ic_1 dL_law_1902 ?_
  refine k_iadd C dL_law_1903 ?_
  refine k_sld C S hL (nI_add (6 * c) 1) (by omega) dL_law_1904 ?_
  refine k_aload_n C (f := 3) (i := 3) (p := 3) rfl rfl dL_law_1905 ?_
  refine k_callSH C s_L_287 h_L_placeOf (ct_L_placeOf hx (RR_r hR) ho) rfl rfl (Nat.le_of_ble_eq_true rfl) ⟨Nat.le_of_ble_eq_true rfl, Nat.le_of_ble_eq_true rfl⟩ (show k + 1 ≤ 601024 ∧ n + 6 ≤ 7293034 by omega) dL_law_1906 (fun v Λ1 I1 J1 hv => ?_) (fun _ _ _ _ h => h.elim)
  obtain ⟨rfl, rfl, hJ1, hA, hB⟩ := hv
  have e1 : I1 = I := Classical.byCases (fun q => (hA q).2) (fun q => hB q)
  subst e1
  have hM1 := hM
  refine k_istore C (i := 5) (lv := (5, _) :: lw_LS b x y o c) (Nat.le_of_ble_eq_true rfl) rfl dL_law_1909 ?_
  refine k_aload_n C (f := 2) (i := 2) (p := 3) rfl rfl dL_law_1911 ?_
  refine k_aload_n C (f := 0) (i := 0) (p := 1) rfl rfl dL_law_1912 ?_
  refine k_iload C (i := 4) (p := 5) rfl dL_law_1913 ?_
  refine k_iconst C ic_1 dL_law_1915 ?_
  refine k_iadd C dL_law_1916 ?_
  refine k_sld C S hL (nI_add (6 * c) 1) (by omega) dL_law_1917 ?_
  refine k_callVg C s_L_289 h_X6_placeOf (L6_s hy) rfl (ct_X6_placeOf hy (MM_r hM1) hO.1) rfl rfl (Nat.le_of_ble_eq_true rfl) ⟨Nat.le_of_ble_eq_true rfl, Nat.le_of_ble_eq_true rfl⟩ (show k + 1 ≤ 601024 ∧ n + 6 ≤ 7293034 by omega) ⟨rfl, rfl⟩ dL_law_1918 ?_
  intro v I2 hv
  obtain ⟨⟨bb, rfl⟩, hval, rfl⟩ := hv
  refine k_istore C (i := 6) (lv := (6, _) :: (5, _) :: lw_LS b x y o c) (Nat.le_of_ble_eq_true rfl) rfl dL_law_1921 ?_
  have hcd : _ < 2 ^ 31 := lw_of hA (by
    repeat' refine lw_lt ?_ ?_
    all_goals decide)
  exact lw_tail (k := k + 1) (n := n + 6) C hy ho am_up_eq hcd (fun q => (hA q).1.trans (congrArg Int32.toInt64 (Value.int.inj (Option.some.inj (hval q))).symm)) dL_law_1923 dL_law_1924 dL_law_1927 dL_law_1929 dL_law_1934 dL_law_1936 dL_law_1939 dL_law_1940 dL_law_1941 dL_law_1942 dL_law_1944 dL_law_1945 dL_law_1946 dL_law_1951 (by decide) (show k + 1 ≤ 601024 ∧ n + 6 ≤ 7293034 by omega) (kk _ _ (k + 1) (n + 6) (LInv_q hR hM hO hxy) (by omega) (by omega))
set_option maxHeartbeats 4000000 in
set_option maxRecDepth 100000 in
theorem lw_c39 {G : am_G} {X : am_X} {tz : List ExceptionTableEntry} {Q : State → Prop} {Λ : am_L} {I : am_I} {J : am_J} {k n b x y o c L : Nat} {xs : Nat → Int32} (C : am_Cx G X RL cL_law 9 (some .boolean) tz Q) (S : LSc G X b L xs) (hL : L ≤ 3072) (hc : 6 * c + 6 ≤ L) (D : LL Λ x y o) (V : LInv I x y) (hk : k + 8 ≤ 601024 ∧ n + 40 ≤ 7293034) (kk : ∀ (I' : am_I) (J' : am_J) (k' n' : Nat), LInv I' x y → k' ≤ k + 8 → n' ≤ n + 40 → am_K G X room_1 9 Λ I' J' k' n' 2922 (lw_LS b x y o c) []) : am_K G X room_1 9 Λ I J k n 1954 (lw_LS b x y o c) [] := by
  obtain ⟨hx, hy, ho, hxy, hyo⟩ := D
  obtain ⟨tb, n0, err, r, ct, hs, kp, sn, w, hR, hM, hO⟩ := V
  refine k_aload_n C (f := 1) (i := 1) (p := 1) rfl rfl dL_law_1954 ?_
  have hM1 := hM
  refine k_callVp C s_L_290 h_X5_carriedValue (L5_s hx) rfl (ct_X5_carriedValue hx (RR_r hR)) rfl rfl (Nat.le_of_ble_eq_true rfl) ⟨Nat.le_of_ble_eq_true rfl, Nat.le_of_ble_eq_true rfl⟩ (show k + 0 ≤ 601024 ∧ n + 0 ≤ 7293034 by omega) ⟨rfl, rfl⟩ dL_law_1955 ?_
  refine k_aload_n C (f := 2) (i := 2) (p := 2) rfl rfl dL_law_1958 ?_
  refine k_callVg C s_L_293 h_X6_carriedValue (L6_s hy) rfl (ct_X6_carriedValue hy (MM_r hM1) hO.1) rfl rfl (Nat.le_of_ble_eq_true rfl) ⟨Nat.le_of_ble_eq_true rfl, Nat.le_of_ble_eq_true rfl⟩ (show k + 0 ≤ 601024 ∧ n + 0 ≤ 7293034 by omega) ⟨rfl, rfl⟩ dL_law_1959 ?_
  intro v I2 hv
  obtain ⟨⟨bb, rfl⟩, hval, rfl⟩ := hv
  exact k_icmp_eq C (tgt := 2922) (by decide) dL_law_1962 (fun _ => (kk _ _ k n (LInv_q hR hM hO hxy) (by omega) (by omega))) (fun h => absurd (Value.int.inj (Option.some.inj (hval rfl))).symm h)
set_option maxHeartbeats 4000000 in
set_option maxRecDepth 100000 in
theorem lw_c40 {G : am_G} {X : am_X} {tz : List ExceptionTableEntry} {Q : State → Prop} {Λ : am_L} {I : am_I} {J : am_J} {k n b x y o c L : Nat} {xs : Nat → Int32} (C : am_Cx G X RL cL_law 9 (some .boolean) tz Q) (S : LSc G X b L xs) (hL : L ≤ 3072) (hc : 6 * c + 6 ≤ L) (D : LL Λ x y o) (V : LInv I x y) (hk : k + 8 ≤ 601024 ∧ n + 40 ≤ 7293034) (kk : ∀ (I' : am_I) (J' : am_J) (k' n' : Nat), LInv I' x y → k' ≤ k + 8 → n' ≤ n + 40 → am_K G X room_1 9 Λ I' J' k' n' 2922 (lw_LS b x y o c) []) : am_K G X room_1 9 Λ I J k n 1967 (lw_LS b x y o c) [] := by
  obtain ⟨hx, hy, ho, hxy, hyo⟩ := D
  obtain ⟨tb, n0, err, r, ct, hs, kp, sn, w, hR, hM, hO⟩ := V
  refine k_aload_n C (f := 1) (i := 1) (p := 1) rfl rfl dL_law_1967 ?_
  have hM1 := hM
  refine k_callVp C s_L_294 h_X5_meanWater (L5_s hx) rfl (ct_X5_meanWater hx (RR_r hR) hO.1) rfl rfl (Nat.le_of_ble_eq_true rfl) ⟨Nat.le_of_ble_eq_true rfl, Nat.le_of_ble_eq_true rfl⟩ (show k + 0 ≤ 601024 ∧ n + 0 ≤ 7293034 by omega) ⟨rfl, rfl⟩ dL_law_1968 ?_
  refine k_dstore C (i := 5) (lv := (5, _) :: lw_LS b x y o c) (Nat.le_of_ble_eq_true rfl) rfl dL_law_1971 ?_
  refine k_aload_n C (f := 2) (i := 2) (p := 3) rfl rfl dL_law_1973 ?_
  refine k_callVg C s_L_298 h_X6_meanWater (L6_s hy) rfl (ct_X6_meanWater hy (MM_r hM1) hO.1) rfl rfl (Nat.le_of_ble_eq_true rfl) ⟨Nat.le_of_ble_eq_true rfl, Nat.le_of_ble_eq_true rfl⟩ (show k + 0 ≤ 601024 ∧ n + 0 ≤ 7293034 by omega) ⟨rfl, rfl⟩ dL_law_1974 ?_
  intro v I2 hv
  obtain ⟨rfl, rfl⟩ := hv
  refine k_dstore C (i := 7) (lv := (7, _) :: (5, _) :: lw_LS b x y o c) (Nat.le_of_ble_eq_true rfl) rfl dL_law_1977 ?_
  exact lw_taild C dL_law_1979 dL_law_1981 dL_law_1983 dL_law_1984 dL_law_1987 dL_law_1989 dL_law_1991 dL_law_1992 dL_law_1995 dL_law_1997 dL_law_1999 dL_law_2000 dL_law_2005 (by decide) (kk _ _ k n (LInv_q hR hM hO hxy) (by omega) (by omega))
set_option maxHeartbeats 4000000 in
set_option maxRecDepth 100000 in
theorem lw_c41 {G : am_G} {X : am_X} {tz : List ExceptionTableEntry} {Q : State → Prop} {Λ : am_L} {I : am_I} {J : am_J} {k n b x y o c L : Nat} {xs : Nat → Int32} (C : am_Cx G X RL cL_law 9 (some .boolean) tz Q) (S : LSc G X b L xs) (hL : L ≤ 3072) (hc : 6 * c + 6 ≤ L) (D : LL Λ x y o) (V : LInv I x y) (hk : k + 8 ≤ 601024 ∧ n + 40 ≤ 7293034) (kk : ∀ (I' : am_I) (J' : am_J) (k' n' : Nat), LInv I' x y → k' ≤ k + 8 → n' ≤ n + 40 → am_K G X room_1 9 Λ I' J' k' n' 2922 (lw_LS b x y o c) []) : am_K G X room_1 9 Λ I J k n 2008 (lw_LS b x y o c) [] := by
  obtain ⟨hx, hy, ho, hxy, hyo⟩ := D
  obtain ⟨tb, n0, err, r, ct, hs, kp, sn, w, hR, hM, hO⟩ := V
  refine k_aload_n C (f := 1) (i := 1) (p := 1) rfl rfl dL_law_2008 ?_
  obtain ⟨L0, km, hLL, hk0, hL10, hL9, hkL, -⟩ := RK_L hO.1
  have hM1 := hM
  refine k_callVp C s_L_299 h_X5_progress (L5_s hx) rfl (ct_X5_progress hx (RR_r hR) hLL hk0 (show 0 < L0 by omega) hL9 hkL) rfl rfl (Nat.le_of_ble_eq_true rfl) ⟨Nat.le_of_ble_eq_true rfl, Nat.le_of_ble_eq_true rfl⟩ (show k + 0 ≤ 601024 ∧ n + 0 ≤ 7293034 by omega) ⟨rfl, rfl⟩ dL_law_2009 ?_
  refine k_f2d C (fp_f2d (fp_fdiv (a := km) (b := L0) (by omega) (by omega) (by omega)).2) dL_law_2012 ?_
  refine k_dstore C (i := 5) (lv := (5, _) :: lw_LS b x y o c) (Nat.le_of_ble_eq_true rfl) rfl dL_law_2013 ?_
  refine k_aload_n C (f := 2) (i := 2) (p := 3) rfl rfl dL_law_2015 ?_
  refine k_callVg C s_L_303 h_X6_progress (L6_s hy) rfl (ct_X6_progress hy (MM_r hM1) hO.1 hLL hk0 (show 0 < L0 by omega) hL9 hkL) rfl rfl (Nat.le_of_ble_eq_true rfl) ⟨Nat.le_of_ble_eq_true rfl, Nat.le_of_ble_eq_true rfl⟩ (show k + 0 ≤ 601024 ∧ n + 0 ≤ 7293034 by omega) ⟨rfl, rfl⟩ dL_law_2016 ?_
  intro v I2 hv
  obtain ⟨rfl, rfl⟩ := hv
  refine k_f2d C (fp_f2d (fp_fdiv (a := km) (b := L0) (by omega) (by omega) (by omega)).2) dL_law_2019 ?_
  refine k_dstore C (i := 7) (lv := (7, _) :: (5, _) :: lw_LS b x y o c) (Nat.le_of_ble_eq_true rfl) rfl dL_law_2020 ?_
  exact lw_taild C dL_law_2022 dL_law_2024 dL_law_2026 dL_law_2027 dL_law_2030 dL_law_2032 dL_law_2034 dL_law_2035 dL_law_2038 dL_law_2040 dL_law_2042 dL_law_2043 dL_law_2048 (by decide) (kk _ _ k n (LInv_q hR hM hO hxy) (by omega) (by omega))
set_option maxHeartbeats 4000000 in
set_option maxRecDepth 100000 in
theorem lw_c42 {G : am_G} {X : am_X} {tz : List ExceptionTableEntry} {Q : State → Prop} {Λ : am_L} {I : am_I} {J : am_J} {k n b x y o c L : Nat} {xs : Nat → Int32} (C : am_Cx G X RL cL_law 9 (some .boolean) tz Q) (S : LSc G X b L xs) (hL : L ≤ 3072) (hc : 6 * c + 6 ≤ L) (D : LL Λ x y o) (V : LInv I x y) (hk : k + 8 ≤ 601024 ∧ n + 40 ≤ 7293034) (kk : ∀ (I' : am_I) (J' : am_J) (k' n' : Nat), LInv I' x y → k' ≤ k + 8 → n' ≤ n + 40 → am_K G X room_1 9 Λ I' J' k' n' 2922 (lw_LS b x y o c) []) : am_K G X room_1 9 Λ I J k n 2051 (lw_LS b x y o c) [] := by
  obtain ⟨hx, hy, ho, hxy, hyo⟩ := D
  obtain ⟨tb, n0, err, r, ct, hs, kp, sn, w, hR, hM, hO⟩ := V
  refine k_aload_n C (f := 1) (i := 1) (p := 1) rfl rfl dL_law_2051 ?_
  obtain ⟨ld, hld, hlc⟩ := RK_ld hO.1
  have hM1 := hM
  refine k_callVp C s_L_304 h_X5_distanceToday (L5_s hx) rfl (ct_X5_distanceToday hx (RR_r hR) hld hlc (RK_3 hO.1) (RK_w hO.1)) rfl rfl (Nat.le_of_ble_eq_true rfl) ⟨Nat.le_of_ble_eq_true rfl, Nat.le_of_ble_eq_true rfl⟩ (show k + 0 ≤ 601024 ∧ n + 0 ≤ 7293034 by omega) ⟨rfl, rfl⟩ dL_law_2052 ?_
  refine k_aload_n C (f := 2) (i := 2) (p := 2) rfl rfl dL_law_2055 ?_
  refine k_callVg C s_L_307 h_X6_distanceToday (L6_s hy) rfl (ct_X6_distanceToday hy (MM_r hM1) hO.1 hld hlc) rfl rfl (Nat.le_of_ble_eq_true rfl) ⟨Nat.le_of_ble_eq_true rfl, Nat.le_of_ble_eq_true rfl⟩ (show k + 0 ≤ 601024 ∧ n + 0 ≤ 7293034 by omega) ⟨rfl, rfl⟩ dL_law_2056 ?_
  intro v I2 hv
  obtain ⟨⟨bb, rfl⟩, hval, rfl⟩ := hv
  exact k_icmp_eq C (tgt := 2922) (by decide) dL_law_2059 (fun _ => (kk _ _ k n (LInv_q hR hM hO hxy) (by omega) (by omega))) (fun h => absurd (Value.int.inj (Option.some.inj (hval rfl))).symm h)
set_option maxHeartbeats 4000000 in
set_option maxRecDepth 100000 in
theorem lw_c43 {G : am_G} {X : am_X} {tz : List ExceptionTableEntry} {Q : State → Prop} {Λ : am_L} {I : am_I} {J : am_J} {k n b x y o c L : Nat} {xs : Nat → Int32} (C : am_Cx G X RL cL_law 9 (some .boolean) tz Q) (S : LSc G X b L xs) (hL : L ≤ 3072) (hc : 6 * c + 6 ≤ L) (D : LL Λ x y o) (V : LInv I x y) (hk : k + 8 ≤ 601024 ∧ n + 40 ≤ 7293034) (kk : ∀ (I' : am_I) (J' : am_J) (k' n' : Nat), LInv I' x y → k' ≤ k + 8 → n' ≤ n + 40 → am_K G X room_1 9 Λ I' J' k' n' 2922 (lw_LS b x y o c) []) : am_K G X room_1 9 Λ I J k n 2064 (lw_LS b x y o c) [] := by
  obtain ⟨hx, hy, ho, hxy, hyo⟩ := D
  obtain ⟨tb, n0, err, r, ct, hs, kp, sn, w, hR, hM, hO⟩ := V
  refine k_aload_n C (f := 1) (i := 1) (p := 1) rfl rfl dL_law_2064 ?_
  refine k_aload_n C (f := 0) (i := 0) (p := 0) rfl rfl dL_law_2065 ?_
  refine k_iload C (i := 4) (p := 4) rfl dL_law_2066 ?_
  refine k_iconst C ic_1 dL_law_2068 ?_
  refine k_iadd C dL_law_2069 ?_
  refine k_sld C S hL (nI_add (6 * c) 1) (by omega) dL_law_2070 ?_
  refine k_aload_n C (f := 3) (i := 3) (p := 3) rfl rfl dL_law_2071 ?_
  refine k_callSH C s_L_308 h_L_needToday (ct_L_needToday hx (RR_r hR) ho) rfl rfl (Nat.le_of_ble_eq_true rfl) ⟨Nat.le_of_ble_eq_true rfl, Nat.le_of_ble_eq_true rfl⟩ (show k + 1 ≤ 601024 ∧ n + 6 ≤ 7293034 by omega) dL_law_2072 (fun v Λ1 I1 J1 hv => ?_) (fun _ _ _ _ h => h.elim)
  obtain ⟨rfl, rfl, hJ1, hA, hB⟩ := hv
  have e1 : I1 = I := Classical.byCases (fun q => (hA q).2) (fun q => hB q)
  subst e1
  have hM1 := hM
  refine k_istore C (i := 5) (lv := (5, _) :: lw_LS b x y o c) (Nat.le_of_ble_eq_true rfl) rfl dL_law_2075 ?_
  refine k_aload_n C (f := 2) (i := 2) (p := 3) rfl rfl dL_law_2077 ?_
  refine k_aload_n C (f := 0) (i := 0) (p := 1) rfl rfl dL_law_2078 ?_
  refine k_iload C (i := 4) (p := 5) rfl dL_law_2079 ?_
  refine k_iconst C ic_1 dL_law_2081 ?_
  refine k_iadd C dL_law_2082 ?_
  refine k_sld C S hL (nI_add (6 * c) 1) (by omega) dL_law_2083 ?_
  refine k_callVg C s_L_310 h_X6_needToday (L6_s hy) rfl (ct_X6_needToday hy (MM_r hM1) hO.1) rfl rfl (Nat.le_of_ble_eq_true rfl) ⟨Nat.le_of_ble_eq_true rfl, Nat.le_of_ble_eq_true rfl⟩ (show k + 1 ≤ 601024 ∧ n + 6 ≤ 7293034 by omega) ⟨rfl, rfl⟩ dL_law_2084 ?_
  intro v I2 hv
  obtain ⟨⟨bb, rfl⟩, hval, rfl⟩ := hv
  refine k_istore C (i := 6) (lv := (6, _) :: (5, _) :: lw_LS b x y o c) (Nat.le_of_ble_eq_true rfl) rfl dL_law_2087 ?_
  have hcd : _ < 2 ^ 31 := lw_of hA (by
    repeat' refine lw_lt ?_ ?_
    all_goals decide)
  exact lw_tail (k := k + 1) (n := n + 6) C hy ho am_up_eq hcd (fun q => (hA q).1.trans (congrArg Int32.toInt64 (Value.int.inj (Option.some.inj (hval q))).symm)) dL_law_2089 dL_law_2090 dL_law_2093 dL_law_2095 dL_law_2100 dL_law_2102 dL_law_2105 dL_law_2106 dL_law_2107 dL_law_2108 dL_law_2110 dL_law_2111 dL_law_2112 dL_law_2117 (by decide) (show k + 1 ≤ 601024 ∧ n + 6 ≤ 7293034 by omega) (kk _ _ (k + 1) (n + 6) (LInv_q hR hM hO hxy) (by omega) (by omega))
set_option maxHeartbeats 4000000 in
set_option maxRecDepth 100000 in
theorem lw_c44 {G : am_G} {X : am_X} {tz : List ExceptionTableEntry} {Q : State → Prop} {Λ : am_L} {I : am_I} {J : am_J} {k n b x y o c L : Nat} {xs : Nat → Int32} (C : am_Cx G X RL cL_law 9 (some .boolean) tz Q) (S : LSc G X b L xs) (hL : L ≤ 3072) (hc : 6 * c + 6 ≤ L) (D : LL Λ x y o) (V : LInv I x y) (hk : k + 8 ≤ 601024 ∧ n + 40 ≤ 7293034) (kk : ∀ (I' : am_I) (J' : am_J) (k' n' : Nat), LInv I' x y → k' ≤ k + 8 → n' ≤ n + 40 → am_K G X room_1 9 Λ I' J' k' n' 2922 (lw_LS b x y o c) []) : am_K G X room_1 9 Λ I J k n 2120 (lw_LS b x y o c) [] := by
  obtain ⟨hx, hy, ho, hxy, hyo⟩ := D
  obtain ⟨tb, n0, err, r, ct, hs, kp, sn, w, hR, hM, hO⟩ := V
  refine k_aload_n C (f := 1) (i := 1) (p := 1) rfl rfl dL_law_2120 ?_
  refine k_aload_n C (f := 0) (i := 0) (p := 0) rfl rfl dL_law_2121 ?_
  refine k_iload C (i := 4) (p := 4) rfl dL_law_2122 ?_
  refine k_iconst C ic_1 dL_law_2124 ?_
  refine k_iadd C dL_law_2125 ?_
  refine k_sld C S hL (nI_add (6 * c) 1) (by omega) dL_law_2126 ?_
  refine k_aload_n C (f := 3) (i := 3) (p := 3) rfl rfl dL_law_2127 ?_
  refine k_callSH C s_L_311 h_L_livingAfter (ct_L_livingAfter hx hR hO.1 ho) rfl rfl (Nat.le_of_ble_eq_true rfl) ⟨Nat.le_of_ble_eq_true rfl, Nat.le_of_ble_eq_true rfl⟩ (show k + 1 ≤ 601024 ∧ n + 6 ≤ 7293034 by omega) dL_law_2128 (fun v Λ1 I1 J1 hv => ?_) (fun _ _ _ _ h => h.elim)
  obtain ⟨rfl, rfl, hJ1, hA, hB⟩ := hv
  have hf1 : RFr x I I1 := Classical.byCases (fun q => (hA q).2.2) (fun q => by rw [hB q]; exact fun _ _ => rfl)
  have hM1 := MM_out hM hf1 hxy
  refine k_istore C (i := 5) (lv := (5, _) :: lw_LS b x y o c) (Nat.le_of_ble_eq_true rfl) rfl dL_law_2131 ?_
  refine k_aload_n C (f := 2) (i := 2) (p := 3) rfl rfl dL_law_2133 ?_
  refine k_aload_n C (f := 0) (i := 0) (p := 1) rfl rfl dL_law_2134 ?_
  refine k_iload C (i := 4) (p := 5) rfl dL_law_2135 ?_
  refine k_iconst C ic_1 dL_law_2137 ?_
  refine k_iadd C dL_law_2138 ?_
  refine k_sld C S hL (nI_add (6 * c) 1) (by omega) dL_law_2139 ?_
  refine k_callVg C s_L_313 h_X6_livingAfter (L6_s hy) rfl (ct_X6_livingAfter hy hM1 hO.1) rfl rfl (Nat.le_of_ble_eq_true rfl) ⟨Nat.le_of_ble_eq_true rfl, Nat.le_of_ble_eq_true rfl⟩ (show k + 1 ≤ 601024 ∧ n + 6 ≤ 7293034 by omega) ⟨rfl, rfl⟩ dL_law_2140 ?_
  intro v I2 hv
  obtain ⟨⟨bb, rfl⟩, h10, hF, hN, hD⟩ := hv
  refine k_istore C (i := 6) (lv := (6, _) :: (5, _) :: lw_LS b x y o c) (Nat.le_of_ble_eq_true rfl) rfl dL_law_2143 ?_
  have hcd : _ < 2 ^ 31 := lw_of hA (by
    repeat' refine lw_lt ?_ ?_
    all_goals decide)
  exact lw_tail (k := k + 1) (n := n + 6) C hy ho h10 hcd (fun q => (hA q).1.trans (congrArg Int32.toInt64 (Value.int.inj (Option.some.inj (hN q).1)).symm)) dL_law_2145 dL_law_2146 dL_law_2149 dL_law_2151 dL_law_2156 dL_law_2158 dL_law_2161 dL_law_2162 dL_law_2163 dL_law_2164 dL_law_2166 dL_law_2167 dL_law_2168 dL_law_2173 (by decide) (show k + 1 ≤ 601024 ∧ n + 6 ≤ 7293034 by omega) (kk _ _ (k + 1) (n + 6) (LInv_c hxy hF (fun q => (hA q).2.1) (fun q => by rw [hB q]; exact hR) (fun q => (hN q).2) hD (fun _ => hO) hO) (by omega) (by omega))
