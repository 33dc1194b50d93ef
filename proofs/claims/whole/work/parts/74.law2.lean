set_option maxHeartbeats 4000000 in
set_option maxRecDepth 100000 in
theorem lw_c15 {G : am_G} {X : am_X} {tz : List ExceptionTableEntry} {Q : State → Prop} {Λ : am_L} {I : am_I} {J : am_J} {k n b x y o c L : Nat} {xs : Nat → Int32} (C : am_Cx G X RL cL_law 9 (some .boolean) tz Q) (S : LSc G X b L xs) (hL : L ≤ 3072) (hc : 6 * c + 6 ≤ L) (D : LL Λ x y o) (V : LInv I x y) (hk : k + 8 ≤ 601024 ∧ n + 40 ≤ 7293034) (kk : ∀ (I' : am_I) (J' : am_J) (k' n' : Nat), LInv I' x y → k' ≤ k + 8 → n' ≤ n + 40 → am_K G X room_1 9 Λ I' J' k' n' 2922 (lw_LS b x y o c) []) : am_K G X room_1 9 Λ I J k n 859 (lw_LS b x y o c) [] := by
  obtain ⟨hx, hy, ho, hxy, hyo⟩ := D
  obtain ⟨tb, n0, err, r, ct, hs, kp, sn, w, hR, hM, hO⟩ := V
  refine k_aload_n C (f := 1) (i := 1) (p := 1) rfl rfl dL_law_859 ?_
  refine k_aload_n C (f := 3) (i := 3) (p := 3) rfl rfl dL_law_860 ?_
  refine k_callSH C s_L_213 h_L_wellHere (ct_L_wellHere hx (RR_r hR) ho) rfl rfl (Nat.le_of_ble_eq_true rfl) ⟨Nat.le_of_ble_eq_true rfl, Nat.le_of_ble_eq_true rfl⟩ (show k + 1 ≤ 601024 ∧ n + 6 ≤ 7293034 by omega) dL_law_861 (fun v Λ1 I1 J1 hv => ?_) (fun _ _ _ _ h => h.elim)
  obtain ⟨rfl, rfl, hJ1, hA, hB⟩ := hv
  have e1 : I1 = I := Classical.byCases (fun q => (hA q).2) (fun q => hB q)
  subst e1
  have hM1 := hM
  refine k_istore C (i := 5) (lv := (5, _) :: lw_LS b x y o c) (Nat.le_of_ble_eq_true rfl) rfl dL_law_864 ?_
  refine k_aload_n C (f := 2) (i := 2) (p := 3) rfl rfl dL_law_866 ?_
  refine k_callVg C s_L_215 h_X6_wellHere (L6_s hy) rfl (ct_X6_wellHere hy (MM_r hM1) hO.1) rfl rfl (Nat.le_of_ble_eq_true rfl) ⟨Nat.le_of_ble_eq_true rfl, Nat.le_of_ble_eq_true rfl⟩ (show k + 1 ≤ 601024 ∧ n + 6 ≤ 7293034 by omega) ⟨rfl, rfl⟩ dL_law_867 ?_
  intro v I2 hv
  obtain ⟨⟨bb, rfl⟩, hval, rfl⟩ := hv
  refine k_istore C (i := 6) (lv := (6, _) :: (5, _) :: lw_LS b x y o c) (Nat.le_of_ble_eq_true rfl) rfl dL_law_870 ?_
  have hcd : _ < 2 ^ 31 := lw_of hA (by
    repeat' refine lw_lt ?_ ?_
    all_goals decide)
  exact lw_tail (k := k + 1) (n := n + 6) C hy ho am_up_eq hcd (fun q => (hA q).1.trans (congrArg Int32.toInt64 (Value.int.inj (Option.some.inj (hval q))).symm)) dL_law_872 dL_law_873 dL_law_876 dL_law_878 dL_law_883 dL_law_885 dL_law_888 dL_law_889 dL_law_890 dL_law_891 dL_law_893 dL_law_894 dL_law_895 dL_law_900 (by decide) (show k + 1 ≤ 601024 ∧ n + 6 ≤ 7293034 by omega) (kk _ _ (k + 1) (n + 6) (LInv_q hR hM hO hxy) (by omega) (by omega))
set_option maxHeartbeats 4000000 in
set_option maxRecDepth 100000 in
theorem lw_c16 {G : am_G} {X : am_X} {tz : List ExceptionTableEntry} {Q : State → Prop} {Λ : am_L} {I : am_I} {J : am_J} {k n b x y o c L : Nat} {xs : Nat → Int32} (C : am_Cx G X RL cL_law 9 (some .boolean) tz Q) (S : LSc G X b L xs) (hL : L ≤ 3072) (hc : 6 * c + 6 ≤ L) (D : LL Λ x y o) (V : LInv I x y) (hk : k + 8 ≤ 601024 ∧ n + 40 ≤ 7293034) (kk : ∀ (I' : am_I) (J' : am_J) (k' n' : Nat), LInv I' x y → k' ≤ k + 8 → n' ≤ n + 40 → am_K G X room_1 9 Λ I' J' k' n' 2922 (lw_LS b x y o c) []) : am_K G X room_1 9 Λ I J k n 903 (lw_LS b x y o c) [] := by
  obtain ⟨hx, hy, ho, hxy, hyo⟩ := D
  obtain ⟨tb, n0, err, r, ct, hs, kp, sn, w, hR, hM, hO⟩ := V
  refine k_aload_n C (f := 1) (i := 1) (p := 1) rfl rfl dL_law_903 ?_
  refine k_aload_n C (f := 3) (i := 3) (p := 3) rfl rfl dL_law_904 ?_
  refine k_callSH C s_L_216 h_L_nextWell (ct_L_nextWell hx (RR_r hR) (RK_w hO.1) ho) rfl rfl (Nat.le_of_ble_eq_true rfl) ⟨Nat.le_of_ble_eq_true rfl, Nat.le_of_ble_eq_true rfl⟩ (show k + 1 ≤ 601024 ∧ n + 6 ≤ 7293034 by omega) dL_law_905 (fun v Λ1 I1 J1 hv => ?_) (fun _ _ _ _ h => h.elim)
  obtain ⟨rfl, rfl, hJ1, hA, hB⟩ := hv
  have e1 : I1 = I := Classical.byCases (fun q => (hA q).2) (fun q => hB q)
  subst e1
  have hM1 := hM
  refine k_istore C (i := 5) (lv := (5, _) :: lw_LS b x y o c) (Nat.le_of_ble_eq_true rfl) rfl dL_law_908 ?_
  refine k_aload_n C (f := 2) (i := 2) (p := 3) rfl rfl dL_law_910 ?_
  refine k_callVg C s_L_218 h_X6_nextWell (L6_s hy) rfl (ct_X6_nextWell hy (MM_r hM1) hO.1) rfl rfl (Nat.le_of_ble_eq_true rfl) ⟨Nat.le_of_ble_eq_true rfl, Nat.le_of_ble_eq_true rfl⟩ (show k + 1 ≤ 601024 ∧ n + 6 ≤ 7293034 by omega) ⟨rfl, rfl⟩ dL_law_911 ?_
  intro v I2 hv
  obtain ⟨⟨bb, rfl⟩, hval, rfl⟩ := hv
  refine k_istore C (i := 6) (lv := (6, _) :: (5, _) :: lw_LS b x y o c) (Nat.le_of_ble_eq_true rfl) rfl dL_law_914 ?_
  have hcd : _ < 2 ^ 31 := lw_of hA (by
    repeat' refine lw_lt ?_ ?_
    all_goals decide)
  exact lw_tail (k := k + 1) (n := n + 6) C hy ho am_up_eq hcd (fun q => (hA q).1.trans (congrArg Int32.toInt64 (Value.int.inj (Option.some.inj (hval q))).symm)) dL_law_916 dL_law_917 dL_law_920 dL_law_922 dL_law_927 dL_law_929 dL_law_932 dL_law_933 dL_law_934 dL_law_935 dL_law_937 dL_law_938 dL_law_939 dL_law_944 (by decide) (show k + 1 ≤ 601024 ∧ n + 6 ≤ 7293034 by omega) (kk _ _ (k + 1) (n + 6) (LInv_q hR hM hO hxy) (by omega) (by omega))
set_option maxHeartbeats 4000000 in
set_option maxRecDepth 100000 in
theorem lw_c17 {G : am_G} {X : am_X} {tz : List ExceptionTableEntry} {Q : State → Prop} {Λ : am_L} {I : am_I} {J : am_J} {k n b x y o c L : Nat} {xs : Nat → Int32} (C : am_Cx G X RL cL_law 9 (some .boolean) tz Q) (S : LSc G X b L xs) (hL : L ≤ 3072) (hc : 6 * c + 6 ≤ L) (D : LL Λ x y o) (V : LInv I x y) (hk : k + 8 ≤ 601024 ∧ n + 40 ≤ 7293034) (kk : ∀ (I' : am_I) (J' : am_J) (k' n' : Nat), LInv I' x y → k' ≤ k + 8 → n' ≤ n + 40 → am_K G X room_1 9 Λ I' J' k' n' 2922 (lw_LS b x y o c) []) : am_K G X room_1 9 Λ I J k n 947 (lw_LS b x y o c) [] := by
  obtain ⟨hx, hy, ho, hxy, hyo⟩ := D
  obtain ⟨tb, n0, err, r, ct, hs, kp, sn, w, hR, hM, hO⟩ := V
  refine k_aload_n C (f := 1) (i := 1) (p := 1) rfl rfl dL_law_947 ?_
  have hM1 := hM
  refine k_callVp C s_L_219 h_X5_drunk (L5_s hx) rfl (ct_X5_drunk hx (RR_r hR)) rfl rfl (Nat.le_of_ble_eq_true rfl) ⟨Nat.le_of_ble_eq_true rfl, Nat.le_of_ble_eq_true rfl⟩ (show k + 0 ≤ 601024 ∧ n + 0 ≤ 7293034 by omega) ⟨rfl, rfl⟩ dL_law_948 ?_
  refine k_aload_n C (f := 2) (i := 2) (p := 2) rfl rfl dL_law_951 ?_
  refine k_callVg C s_L_222 h_X6_drunk (L6_s hy) rfl (ct_X6_drunk hy (MM_r hM1) hO.1) rfl rfl (Nat.le_of_ble_eq_true rfl) ⟨Nat.le_of_ble_eq_true rfl, Nat.le_of_ble_eq_true rfl⟩ (show k + 0 ≤ 601024 ∧ n + 0 ≤ 7293034 by omega) ⟨rfl, rfl⟩ dL_law_952 ?_
  intro v I2 hv
  obtain ⟨⟨bb, rfl⟩, hval, rfl⟩ := hv
  exact k_icmp_eq C (tgt := 2922) (by decide) dL_law_955 (fun _ => (kk _ _ k n (LInv_q hR hM hO hxy) (by omega) (by omega))) (fun h => absurd (Value.int.inj (Option.some.inj (hval rfl))).symm h)
set_option maxHeartbeats 4000000 in
set_option maxRecDepth 100000 in
theorem lw_c18 {G : am_G} {X : am_X} {tz : List ExceptionTableEntry} {Q : State → Prop} {Λ : am_L} {I : am_I} {J : am_J} {k n b x y o c L : Nat} {xs : Nat → Int32} (C : am_Cx G X RL cL_law 9 (some .boolean) tz Q) (S : LSc G X b L xs) (hL : L ≤ 3072) (hc : 6 * c + 6 ≤ L) (D : LL Λ x y o) (V : LInv I x y) (hk : k + 8 ≤ 601024 ∧ n + 40 ≤ 7293034) (kk : ∀ (I' : am_I) (J' : am_J) (k' n' : Nat), LInv I' x y → k' ≤ k + 8 → n' ≤ n + 40 → am_K G X room_1 9 Λ I' J' k' n' 2922 (lw_LS b x y o c) []) : am_K G X room_1 9 Λ I J k n 960 (lw_LS b x y o c) [] := by
  obtain ⟨hx, hy, ho, hxy, hyo⟩ := D
  obtain ⟨tb, n0, err, r, ct, hs, kp, sn, w, hR, hM, hO⟩ := V
  refine k_aload_n C (f := 1) (i := 1) (p := 1) rfl rfl dL_law_960 ?_
  have hM1 := hM
  refine k_callVp C s_L_223 h_X5_camelCount (L5_s hx) rfl (ct_X5_camelCount hx (RR_r hR)) rfl rfl (Nat.le_of_ble_eq_true rfl) ⟨Nat.le_of_ble_eq_true rfl, Nat.le_of_ble_eq_true rfl⟩ (show k + 0 ≤ 601024 ∧ n + 0 ≤ 7293034 by omega) ⟨rfl, rfl⟩ dL_law_961 ?_
  refine k_aload_n C (f := 2) (i := 2) (p := 2) rfl rfl dL_law_964 ?_
  refine k_callVg C s_L_226 h_X6_camelCount (L6_s hy) rfl (ct_X6_camelCount hy (MM_r hM1) hO.1) rfl rfl (Nat.le_of_ble_eq_true rfl) ⟨Nat.le_of_ble_eq_true rfl, Nat.le_of_ble_eq_true rfl⟩ (show k + 0 ≤ 601024 ∧ n + 0 ≤ 7293034 by omega) ⟨rfl, rfl⟩ dL_law_965 ?_
  intro v I2 hv
  obtain ⟨⟨bb, rfl⟩, hval, rfl⟩ := hv
  exact k_icmp_eq C (tgt := 2922) (by decide) dL_law_968 (fun _ => (kk _ _ k n (LInv_q hR hM hO hxy) (by omega) (by omega))) (fun h => absurd (Value.int.inj (Option.some.inj (hval rfl))).symm h)
set_option maxHeartbeats 4000000 in
set_option maxRecDepth 100000 in
theorem lw_c19 {G : am_G} {X : am_X} {tz : List ExceptionTableEntry} {Q : State → Prop} {Λ : am_L} {I : am_I} {J : am_J} {k n b x y o c L : Nat} {xs : Nat → Int32} (C : am_Cx G X RL cL_law 9 (some .boolean) tz Q) (S : LSc G X b L xs) (hL : L ≤ 3072) (hc : 6 * c + 6 ≤ L) (D : LL Λ x y o) (V : LInv I x y) (hk : k + 8 ≤ 601024 ∧ n + 40 ≤ 7293034) (kk : ∀ (I' : am_I) (J' : am_J) (k' n' : Nat), LInv I' x y → k' ≤ k + 8 → n' ≤ n + 40 → am_K G X room_1 9 Λ I' J' k' n' 2922 (lw_LS b x y o c) []) : am_K G X room_1 9 Λ I J k n 973 (lw_LS b x y o c) [] := by
  obtain ⟨hx, hy, ho, hxy, hyo⟩ := D
  obtain ⟨tb, n0, err, r, ct, hs, kp, sn, w, hR, hM, hO⟩ := V
  refine k_aload_n C (f := 1) (i := 1) (p := 1) rfl rfl dL_law_973 ?_
  have hM1 := hM
  refine k_callVp C s_L_227 h_X5_livingCamels (L5_s hx) rfl (ct_X5_livingCamels hx (RR_r hR)) rfl rfl (Nat.le_of_ble_eq_true rfl) ⟨Nat.le_of_ble_eq_true rfl, Nat.le_of_ble_eq_true rfl⟩ (show k + 0 ≤ 601024 ∧ n + 0 ≤ 7293034 by omega) ⟨rfl, rfl⟩ dL_law_974 ?_
  refine k_aload_n C (f := 2) (i := 2) (p := 2) rfl rfl dL_law_977 ?_
  refine k_callVg C s_L_230 h_X6_livingCamels (L6_s hy) rfl (ct_X6_livingCamels hy (MM_r hM1) hO.1) rfl rfl (Nat.le_of_ble_eq_true rfl) ⟨Nat.le_of_ble_eq_true rfl, Nat.le_of_ble_eq_true rfl⟩ (show k + 0 ≤ 601024 ∧ n + 0 ≤ 7293034 by omega) ⟨rfl, rfl⟩ dL_law_978 ?_
  intro v I2 hv
  obtain ⟨⟨bb, rfl⟩, hval, rfl⟩ := hv
  exact k_icmp_eq C (tgt := 2922) (by decide) dL_law_981 (fun _ => (kk _ _ k n (LInv_q hR hM hO hxy) (by omega) (by omega))) (fun h => absurd (Value.int.inj (Option.some.inj (hval rfl))).symm h)
set_option maxHeartbeats 4000000 in
set_option maxRecDepth 100000 in
theorem lw_c20 {G : am_G} {X : am_X} {tz : List ExceptionTableEntry} {Q : State → Prop} {Λ : am_L} {I : am_I} {J : am_J} {k n b x y o c L : Nat} {xs : Nat → Int32} (C : am_Cx G X RL cL_law 9 (some .boolean) tz Q) (S : LSc G X b L xs) (hL : L ≤ 3072) (hc : 6 * c + 6 ≤ L) (D : LL Λ x y o) (V : LInv I x y) (hk : k + 8 ≤ 601024 ∧ n + 40 ≤ 7293034) (kk : ∀ (I' : am_I) (J' : am_J) (k' n' : Nat), LInv I' x y → k' ≤ k + 8 → n' ≤ n + 40 → am_K G X room_1 9 Λ I' J' k' n' 2922 (lw_LS b x y o c) []) : am_K G X room_1 9 Λ I J k n 986 (lw_LS b x y o c) [] := by
  obtain ⟨hx, hy, ho, hxy, hyo⟩ := D
  obtain ⟨tb, n0, err, r, ct, hs, kp, sn, w, hR, hM, hO⟩ := V
  refine k_aload_n C (f := 1) (i := 1) (p := 1) rfl rfl dL_law_986 ?_
  have hM1 := hM
  refine k_callVp C s_L_231 h_X5_leader (L5_s hx) rfl (ct_X5_leader hx (RR_r hR)) rfl rfl (Nat.le_of_ble_eq_true rfl) ⟨Nat.le_of_ble_eq_true rfl, Nat.le_of_ble_eq_true rfl⟩ (show k + 0 ≤ 601024 ∧ n + 0 ≤ 7293034 by omega) ⟨rfl, rfl⟩ dL_law_987 ?_
  refine k_aload_n C (f := 2) (i := 2) (p := 2) rfl rfl dL_law_990 ?_
  refine k_callVg C s_L_234 h_X6_leader (L6_s hy) rfl (ct_X6_leader hy (MM_r hM1) hO.1) rfl rfl (Nat.le_of_ble_eq_true rfl) ⟨Nat.le_of_ble_eq_true rfl, Nat.le_of_ble_eq_true rfl⟩ (show k + 0 ≤ 601024 ∧ n + 0 ≤ 7293034 by omega) ⟨rfl, rfl⟩ dL_law_991 ?_
  intro v I2 hv
  obtain ⟨⟨bb, rfl⟩, hval, rfl⟩ := hv
  exact k_icmp_eq C (tgt := 2922) (by decide) dL_law_994 (fun _ => (kk _ _ k n (LInv_q hR hM hO hxy) (by omega) (by omega))) (fun h => absurd (Value.int.inj (Option.some.inj (hval rfl))).symm h)
set_option maxHeartbeats 4000000 in
set_option maxRecDepth 100000 in
theorem lw_c21 {G : am_G} {X : am_X} {tz : List ExceptionTableEntry} {Q : State → Prop} {Λ : am_L} {I : am_I} {J : am_J} {k n b x y o c L : Nat} {xs : Nat → Int32} (C : am_Cx G X RL cL_law 9 (some .boolean) tz Q) (S : LSc G X b L xs) (hL : L ≤ 3072) (hc : 6 * c + 6 ≤ L) (D : LL Λ x y o) (V : LInv I x y) (hk : k + 8 ≤ 601024 ∧ n + 40 ≤ 7293034) (kk : ∀ (I' : am_I) (J' : am_J) (k' n' : Nat), LInv I' x y → k' ≤ k + 8 → n' ≤ n + 40 → am_K G X room_1 9 Λ I' J' k' n' 2922 (lw_LS b x y o c) []) : am_K G X room_1 9 Λ I J k n 999 (lw_LS b x y o c) [] := by
  obtain ⟨hx, hy, ho, hxy, hyo⟩ := D
  obtain ⟨tb, n0, err, r, ct, hs, kp, sn, w, hR, hM, hO⟩ := V
  refine k_aload_n C (f := 1) (i := 1) (p := 1) rfl rfl dL_law_999 ?_
  refine k_aload_n C (f := 0) (i := 0) (p := 0) rfl rfl dL_law_1000 ?_
  refine k_iload C (i := 4) (p := 4) rfl dL_law_1001 ?_
  refine k_iconst C ic_1 dL_law_1003 ?_
  refine k_iadd C dL_law_1004 ?_
  refine k_sld C S hL (nI_add (6 * c) 1) (by omega) dL_law_1005 ?_
  refine k_aload_n C (f := 3) (i := 3) (p := 3) rfl rfl dL_law_1006 ?_
  refine k_callSH C s_L_235 h_L_isDead (ct_L_isDead hx (RR_r hR) ho) rfl rfl (Nat.le_of_ble_eq_true rfl) ⟨Nat.le_of_ble_eq_true rfl, Nat.le_of_ble_eq_true rfl⟩ (show k + 1 ≤ 601024 ∧ n + 6 ≤ 7293034 by omega) dL_law_1007 (fun v Λ1 I1 J1 hv => ?_) (fun _ _ _ _ h => h.elim)
  obtain ⟨rfl, rfl, hJ1, hA, hB⟩ := hv
  have e1 : I1 = I := Classical.byCases (fun q => (hA q).2) (fun q => hB q)
  subst e1
  have hM1 := hM
  refine k_istore C (i := 5) (lv := (5, _) :: lw_LS b x y o c) (Nat.le_of_ble_eq_true rfl) rfl dL_law_1010 ?_
  refine k_aload_n C (f := 2) (i := 2) (p := 3) rfl rfl dL_law_1012 ?_
  refine k_aload_n C (f := 0) (i := 0) (p := 1) rfl rfl dL_law_1013 ?_
  refine k_iload C (i := 4) (p := 5) rfl dL_law_1014 ?_
  refine k_iconst C ic_1 dL_law_1016 ?_
  refine k_iadd C dL_law_1017 ?_
  refine k_sld C S hL (nI_add (6 * c) 1) (by omega) dL_law_1018 ?_
  refine k_callVg C s_L_237 h_X6_isDead (L6_s hy) rfl (ct_X6_isDead hy (MM_r hM1) hO.1) rfl rfl (Nat.le_of_ble_eq_true rfl) ⟨Nat.le_of_ble_eq_true rfl, Nat.le_of_ble_eq_true rfl⟩ (show k + 1 ≤ 601024 ∧ n + 6 ≤ 7293034 by omega) ⟨rfl, rfl⟩ dL_law_1019 ?_
  intro v I2 hv
  obtain ⟨⟨bb, rfl⟩, hval, rfl⟩ := hv
  refine k_istore C (i := 6) (lv := (6, _) :: (5, _) :: lw_LS b x y o c) (Nat.le_of_ble_eq_true rfl) rfl dL_law_1022 ?_
  have hcd : _ < 2 ^ 31 := lw_of hA (by
    repeat' refine lw_lt ?_ ?_
    all_goals decide)
  exact lw_tailb (k := k + 1) (n := n + 6) C hy ho am_up_eq hcd (fun q => ⟨(hA q).1, Value.int.inj (Option.some.inj (hval q))⟩) dL_law_1024 dL_law_1025 dL_law_1028 dL_law_1030 dL_law_1035 dL_law_1037 dL_law_1040 dL_law_1041 dL_law_1042 dL_law_1043 dL_law_1045 dL_law_1048 dL_law_1049 dL_law_1052 dL_law_1053 dL_law_1054 dL_law_1059 (by decide) (show k + 1 ≤ 601024 ∧ n + 6 ≤ 7293034 by omega) (kk _ _ (k + 1) (n + 6) (LInv_q hR hM hO hxy) (by omega) (by omega))
set_option maxHeartbeats 4000000 in
set_option maxRecDepth 100000 in
theorem lw_c22 {G : am_G} {X : am_X} {tz : List ExceptionTableEntry} {Q : State → Prop} {Λ : am_L} {I : am_I} {J : am_J} {k n b x y o c L : Nat} {xs : Nat → Int32} (C : am_Cx G X RL cL_law 9 (some .boolean) tz Q) (S : LSc G X b L xs) (hL : L ≤ 3072) (hc : 6 * c + 6 ≤ L) (D : LL Λ x y o) (V : LInv I x y) (hk : k + 8 ≤ 601024 ∧ n + 40 ≤ 7293034) (kk : ∀ (I' : am_I) (J' : am_J) (k' n' : Nat), LInv I' x y → k' ≤ k + 8 → n' ≤ n + 40 → am_K G X room_1 9 Λ I' J' k' n' 2922 (lw_LS b x y o c) []) : am_K G X room_1 9 Λ I J k n 1062 (lw_LS b x y o c) [] := by
  obtain ⟨hx, hy, ho, hxy, hyo⟩ := D
  obtain ⟨tb, n0, err, r, ct, hs, kp, sn, w, hR, hM, hO⟩ := V
  refine k_aload_n C (f := 1) (i := 1) (p := 1) rfl rfl dL_law_1062 ?_
  refine k_aload_n C (f := 0) (i := 0) (p := 0) rfl rfl dL_law_1063 ?_
  refine k_iload C (i := 4) (p := 4) rfl dL_law_1064 ?_
  refine k_iconst C ic_1 dL_law_1066 ?_
  refine k_iadd C dL_law_1067 ?_
  refine k_sld C S hL (nI_add (6 * c) 1) (by omega) dL_law_1068 ?_
  refine k_aload_n C (f := 3) (i := 3) (p := 3) rfl rfl dL_law_1069 ?_
  refine k_callSH C s_L_238 h_L_pace (ct_L_pace hx (RR_r hR) ho) rfl rfl (Nat.le_of_ble_eq_true rfl) ⟨Nat.le_of_ble_eq_true rfl, Nat.le_of_ble_eq_true rfl⟩ (show k + 1 ≤ 601024 ∧ n + 6 ≤ 7293034 by omega) dL_law_1070 (fun v Λ1 I1 J1 hv => ?_) (fun _ _ _ _ h => h.elim)
  obtain ⟨rfl, rfl, hJ1, hA, hB⟩ := hv
  have e1 : I1 = I := Classical.byCases (fun q => (hA q).2) (fun q => hB q)
  subst e1
  have hM1 := hM
  refine k_istore C (i := 5) (lv := (5, _) :: lw_LS b x y o c) (Nat.le_of_ble_eq_true rfl) rfl dL_law_1073 ?_
  refine k_aload_n C (f := 2) (i := 2) (p := 3) rfl rfl dL_law_1075 ?_
  refine k_aload_n C (f := 0) (i := 0) (p := 1) rfl rfl dL_law_1076 ?_
  refine k_iload C (i := 4) (p := 5) rfl dL_law_1077 ?_
  refine k_iconst C ic_1 dL_law_1079 ?_
  refine k_iadd C dL_law_1080 ?_
  refine k_sld C S hL (nI_add (6 * c) 1) (by omega) dL_law_1081 ?_
  refine k_callVg C s_L_240 h_X6_pace (L6_s hy) rfl (ct_X6_pace hy (MM_r hM1) hO.1) rfl rfl (Nat.le_of_ble_eq_true rfl) ⟨Nat.le_of_ble_eq_true rfl, Nat.le_of_ble_eq_true rfl⟩ (show k + 1 ≤ 601024 ∧ n + 6 ≤ 7293034 by omega) ⟨rfl, rfl⟩ dL_law_1082 ?_
  intro v I2 hv
  obtain ⟨⟨bb, rfl⟩, hval, rfl⟩ := hv
  refine k_istore C (i := 6) (lv := (6, _) :: (5, _) :: lw_LS b x y o c) (Nat.le_of_ble_eq_true rfl) rfl dL_law_1085 ?_
  have hcd : _ < 2 ^ 31 := lw_of hA (by
    repeat' refine lw_lt ?_ ?_
    all_goals decide)
  exact lw_tail (k := k + 1) (n := n + 6) C hy ho am_up_eq hcd (fun q => (hA q).1.trans (congrArg Int32.toInt64 (Value.int.inj (Option.some.inj (hval q))).symm)) dL_law_1087 dL_law_1088 dL_law_1091 dL_law_1093 dL_law_1098 dL_law_1100 dL_law_1103 dL_law_1104 dL_law_1105 dL_law_1106 dL_law_1108 dL_law_1109 dL_law_1110 dL_law_1115 (by decide) (show k + 1 ≤ 601024 ∧ n + 6 ≤ 7293034 by omega) (kk _ _ (k + 1) (n + 6) (LInv_q hR hM hO hxy) (by omega) (by omega))
set_option maxHeartbeats 4000000 in
set_option maxRecDepth 100000 in
theorem lw_c23 {G : am_G} {X : am_X} {tz : List ExceptionTableEntry} {Q : State → Prop} {Λ : am_L} {I : am_I} {J : am_J} {k n b x y o c L : Nat} {xs : Nat → Int32} (C : am_Cx G X RL cL_law 9 (some .boolean) tz Q) (S : LSc G X b L xs) (hL : L ≤ 3072) (hc : 6 * c + 6 ≤ L) (D : LL Λ x y o) (V : LInv I x y) (hk : k + 8 ≤ 601024 ∧ n + 40 ≤ 7293034) (kk : ∀ (I' : am_I) (J' : am_J) (k' n' : Nat), LInv I' x y → k' ≤ k + 8 → n' ≤ n + 40 → am_K G X room_1 9 Λ I' J' k' n' 2922 (lw_LS b x y o c) []) : am_K G X room_1 9 Λ I J k n 1118 (lw_LS b x y o c) [] := by
  obtain ⟨hx, hy, ho, hxy, hyo⟩ := D
  obtain ⟨tb, n0, err, r, ct, hs, kp, sn, w, hR, hM, hO⟩ := V
  refine k_aload_n C (f := 1) (i := 1) (p := 1) rfl rfl dL_law_1118 ?_
  refine k_aload_n C (f := 0) (i := 0) (p := 0) rfl rfl dL_law_1119 ?_
  refine k_iload C (i := 4) (p := 4) rfl dL_law_1120 ?_
  refine k_iconst C ic_1 dL_law_1122 ?_
  refine k_iadd C dL_law_1123 ?_
  refine k_sld C S hL (nI_add (6 * c) 1) (by omega) dL_law_1124 ?_
  refine k_aload_n C (f := 3) (i := 3) (p := 3) rfl rfl dL_law_1125 ?_
  refine k_callSH C s_L_241 h_L_speed (ct_L_speed hx (RR_r hR) ho) rfl rfl (Nat.le_of_ble_eq_true rfl) ⟨Nat.le_of_ble_eq_true rfl, Nat.le_of_ble_eq_true rfl⟩ (show k + 1 ≤ 601024 ∧ n + 6 ≤ 7293034 by omega) dL_law_1126 (fun v Λ1 I1 J1 hv => ?_) (fun _ _ _ _ h => h.elim)
  obtain ⟨rfl, rfl, hJ1, hA, hB⟩ := hv
  have e1 : I1 = I := Classical.byCases (fun q => (hA q).2) (fun q => hB q)
  subst e1
  have hM1 := hM
  refine k_istore C (i := 5) (lv := (5, _) :: lw_LS b x y o c) (Nat.le_of_ble_eq_true rfl) rfl dL_law_1129 ?_
  refine k_aload_n C (f := 2) (i := 2) (p := 3) rfl rfl dL_law_1131 ?_
  refine k_aload_n C (f := 0) (i := 0) (p := 1) rfl rfl dL_law_1132 ?_
  refine k_iload C (i := 4) (p := 5) rfl dL_law_1133 ?_
  refine k_iconst C ic_1 dL_law_1135 ?_
  refine k_iadd C dL_law_1136 ?_
  refine k_sld C S hL (nI_add (6 * c) 1) (by omega) dL_law_1137 ?_
  refine k_callVg C s_L_243 h_X6_speed (L6_s hy) rfl (ct_X6_speed hy (MM_r hM1) hO.1) rfl rfl (Nat.le_of_ble_eq_true rfl) ⟨Nat.le_of_ble_eq_true rfl, Nat.le_of_ble_eq_true rfl⟩ (show k + 1 ≤ 601024 ∧ n + 6 ≤ 7293034 by omega) ⟨rfl, rfl⟩ dL_law_1138 ?_
  intro v I2 hv
  obtain ⟨⟨bb, rfl⟩, hval, rfl⟩ := hv
  refine k_istore C (i := 6) (lv := (6, _) :: (5, _) :: lw_LS b x y o c) (Nat.le_of_ble_eq_true rfl) rfl dL_law_1141 ?_
  have hcd : _ < 2 ^ 31 := lw_of hA (by
    repeat' refine lw_lt ?_ ?_
    all_goals decide)
  exact lw_tail (k := k + 1) (n := n + 6) C hy ho am_up_eq hcd (fun q => (hA q).1.trans (congrArg Int32.toInt64 (Value.int.inj (Option.some.inj (hval q))).symm)) dL_law_1143 dL_law_1144 dL_law_1147 dL_law_1149 dL_law_1154 dL_law_1156 dL_law_1159 dL_law_1160 dL_law_1161 dL_law_1162 dL_law_1164 dL_law_1165 dL_law_1166 dL_law_1171 (by decide) (show k + 1 ≤ 601024 ∧ n + 6 ≤ 7293034 by omega) (kk _ _ (k + 1) (n + 6) (LInv_q hR hM hO hxy) (by omega) (by omega))
set_option maxHeartbeats 4000000 in
set_option maxRecDepth 100000 in
theorem lw_c24 {G : am_G} {X : am_X} {tz : List ExceptionTableEntry} {Q : State → Prop} {Λ : am_L} {I : am_I} {J : am_J} {k n b x y o c L : Nat} {xs : Nat → Int32} (C : am_Cx G X RL cL_law 9 (some .boolean) tz Q) (S : LSc G X b L xs) (hL : L ≤ 3072) (hc : 6 * c + 6 ≤ L) (D : LL Λ x y o) (V : LInv I x y) (hk : k + 8 ≤ 601024 ∧ n + 40 ≤ 7293034) (kk : ∀ (I' : am_I) (J' : am_J) (k' n' : Nat), LInv I' x y → k' ≤ k + 8 → n' ≤ n + 40 → am_K G X room_1 9 Λ I' J' k' n' 2922 (lw_LS b x y o c) []) : am_K G X room_1 9 Λ I J k n 1174 (lw_LS b x y o c) [] := by
  obtain ⟨hx, hy, ho, hxy, hyo⟩ := D
  obtain ⟨tb, n0, err, r, ct, hs, kp, sn, w, hR, hM, hO⟩ := V
  refine k_aload_n C (f := 1) (i := 1) (p := 1) rfl rfl dL_law_1174 ?_
  refine k_aload_n C (f := 0) (i := 0) (p := 0) rfl rfl dL_law_1175 ?_
  refine k_iload C (i := 4) (p := 4) rfl dL_law_1176 ?_
  refine k_iconst C ic_1 dL_law_1178 ?_
  refine k_iadd C dL_law_1179 ?_
  refine k_sld C S hL (nI_add (6 * c) 1) (by omega) dL_law_1180 ?_
  refine k_aload_n C (f := 3) (i := 3) (p := 3) rfl rfl dL_law_1181 ?_
  refine k_callSH C s_L_244 h_L_water (ct_L_water hx (RR_r hR) ho) rfl rfl (Nat.le_of_ble_eq_true rfl) ⟨Nat.le_of_ble_eq_true rfl, Nat.le_of_ble_eq_true rfl⟩ (show k + 1 ≤ 601024 ∧ n + 6 ≤ 7293034 by omega) dL_law_1182 (fun v Λ1 I1 J1 hv => ?_) (fun _ _ _ _ h => h.elim)
  obtain ⟨rfl, rfl, hJ1, hA, hB⟩ := hv
  have e1 : I1 = I := Classical.byCases (fun q => (hA q).2) (fun q => hB q)
  subst e1
  have hM1 := hM
  refine k_istore C (i := 5) (lv := (5, _) :: lw_LS b x y o c) (Nat.le_of_ble_eq_true rfl) rfl dL_law_1185 ?_
  refine k_aload_n C (f := 2) (i := 2) (p := 3) rfl rfl dL_law_1187 ?_
  refine k_aload_n C (f := 0) (i := 0) (p := 1) rfl rfl dL_law_1188 ?_
  refine k_iload C (i := 4) (p := 5) rfl dL_law_1189 ?_
  refine k_iconst C ic_1 dL_law_1191 ?_
  refine k_iadd C dL_law_1192 ?_
  refine k_sld C S hL (nI_add (6 * c) 1) (by omega) dL_law_1193 ?_
  refine k_callVg C s_L_246 h_X6_water (L6_s hy) rfl (ct_X6_water hy (MM_r hM1) hO.1) rfl rfl (Nat.le_of_ble_eq_true rfl) ⟨Nat.le_of_ble_eq_true rfl, Nat.le_of_ble_eq_true rfl⟩ (show k + 1 ≤ 601024 ∧ n + 6 ≤ 7293034 by omega) ⟨rfl, rfl⟩ dL_law_1194 ?_
  intro v I2 hv
  obtain ⟨⟨bb, rfl⟩, hval, rfl⟩ := hv
  refine k_istore C (i := 6) (lv := (6, _) :: (5, _) :: lw_LS b x y o c) (Nat.le_of_ble_eq_true rfl) rfl dL_law_1197 ?_
  have hcd : _ < 2 ^ 31 := lw_of hA (by
    repeat' refine lw_lt ?_ ?_
    all_goals decide)
  exact lw_tail (k := k + 1) (n := n + 6) C hy ho am_up_eq hcd (fun q => (hA q).1.trans (congrArg Int32.toInt64 (Value.int.inj (Option.some.inj (hval q))).symm)) dL_law_1199 dL_law_1200 dL_law_1203 dL_law_1205 dL_law_1210 dL_law_1212 dL_law_1215 dL_law_1216 dL_law_1217 dL_law_1218 dL_law_1220 dL_law_1221 dL_law_1222 dL_law_1227 (by decide) (show k + 1 ≤ 601024 ∧ n + 6 ≤ 7293034 by omega) (kk _ _ (k + 1) (n + 6) (LInv_q hR hM hO hxy) (by omega) (by omega))
set_option maxHeartbeats 4000000 in
set_option maxRecDepth 100000 in
theorem lw_c25 {G : am_G} {X : am_X} {tz : List ExceptionTableEntry} {Q : State → Prop} {Λ : am_L} {I : am_I} {J : am_J} {k n b x y o c L : Nat} {xs : Nat → Int32} (C : am_Cx G X RL cL_law 9 (some .boolean) tz Q) (S : LSc G X b L xs) (hL : L ≤ 3072) (hc : 6 * c + 6 ≤ L) (D : LL Λ x y o) (V : LInv I x y) (hk : k + 8 ≤ 601024 ∧ n + 40 ≤ 7293034) (kk : ∀ (I' : am_I) (J' : am_J) (k' n' : Nat), LInv I' x y → k' ≤ k + 8 → n' ≤ n + 40 → am_K G X room_1 9 Λ I' J' k' n' 2922 (lw_LS b x y o c) []) : am_K G X room_1 9 Λ I J k n 1230 (lw_LS b x y o c) [] := by
  obtain ⟨hx, hy, ho, hxy, hyo⟩ := D
  obtain ⟨tb, n0, err, r, ct, hs, kp, sn, w, hR, hM, hO⟩ := V
  refine k_aload_n C (f := 1) (i := 1) (p := 1) rfl rfl dL_law_1230 ?_
  refine k_aload_n C (f := 0) (i := 0) (p := 0) rfl rfl dL_law_1231 ?_
  refine k_iload C (i := 4) (p := 4) rfl dL_law_1232 ?_
  refine k_iconst C ic_1 dL_law_1234 ?_
  refine k_iadd C dL_law_1235 ?_
  refine k_sld C S hL (nI_add (6 * c) 1) (by omega) dL_law_1236 ?_
  refine k_aload_n C (f := 3) (i := 3) (p := 3) rfl rfl dL_law_1237 ?_
  refine k_callSH C s_L_247 h_L_tank (ct_L_tank hx (RR_r hR) ho) rfl rfl (Nat.le_of_ble_eq_true rfl) ⟨Nat.le_of_ble_eq_true rfl, Nat.le_of_ble_eq_true rfl⟩ (show k + 1 ≤ 601024 ∧ n + 6 ≤ 7293034 by omega) dL_law_1238 (fun v Λ1 I1 J1 hv => ?_) (fun _ _ _ _ h => h.elim)
  obtain ⟨rfl, rfl, hJ1, hA, hB⟩ := hv
  have e1 : I1 = I := Classical.byCases (fun q => (hA q).2) (fun q => hB q)
  subst e1
  have hM1 := hM
  refine k_istore C (i := 5) (lv := (5, _) :: lw_LS b x y o c) (Nat.le_of_ble_eq_true rfl) rfl dL_law_1241 ?_
  refine k_aload_n C (f := 2) (i := 2) (p := 3) rfl rfl dL_law_1243 ?_
  refine k_aload_n C (f := 0) (i := 0) (p := 1) rfl rfl dL_law_1244 ?_
  refine k_iload C (i := 4) (p := 5) rfl dL_law_1245 ?_
  refine k_iconst C ic_1 dL_law_1247 ?_
  refine k_iadd C dL_law_1248 ?_
  refine k_sld C S hL (nI_add (6 * c) 1) (by omega) dL_law_1249 ?_
  refine k_callVg C s_L_249 h_X6_tank (L6_s hy) rfl (ct_X6_tank hy (MM_r hM1) hO.1) rfl rfl (Nat.le_of_ble_eq_true rfl) ⟨Nat.le_of_ble_eq_true rfl, Nat.le_of_ble_eq_true rfl⟩ (show k + 1 ≤ 601024 ∧ n + 6 ≤ 7293034 by omega) ⟨rfl, rfl⟩ dL_law_1250 ?_
  intro v I2 hv
  obtain ⟨⟨bb, rfl⟩, hval, rfl⟩ := hv
  refine k_istore C (i := 6) (lv := (6, _) :: (5, _) :: lw_LS b x y o c) (Nat.le_of_ble_eq_true rfl) rfl dL_law_1253 ?_
  have hcd : _ < 2 ^ 31 := lw_of hA (by
    repeat' refine lw_lt ?_ ?_
    all_goals decide)
  exact lw_tail (k := k + 1) (n := n + 6) C hy ho am_up_eq hcd (fun q => (hA q).1.trans (congrArg Int32.toInt64 (Value.int.inj (Option.some.inj (hval q))).symm)) dL_law_1255 dL_law_1256 dL_law_1259 dL_law_1261 dL_law_1266 dL_law_1268 dL_law_1271 dL_law_1272 dL_law_1273 dL_law_1274 dL_law_1276 dL_law_1277 dL_law_1278 dL_law_1283 (by decide) (show k + 1 ≤ 601024 ∧ n + 6 ≤ 7293034 by omega) (kk _ _ (k + 1) (n + 6) (LInv_q hR hM hO hxy) (by omega) (by omega))
set_option maxHeartbeats 4000000 in
set_option maxRecDepth 100000 in
theorem lw_c26 {G : am_G} {X : am_X} {tz : List ExceptionTableEntry} {Q : State → Prop} {Λ : am_L} {I : am_I} {J : am_J} {k n b x y o c L : Nat} {xs : Nat → Int32} (C : am_Cx G X RL cL_law 9 (some .boolean) tz Q) (S : LSc G X b L xs) (hL : L ≤ 3072) (hc : 6 * c + 6 ≤ L) (D : LL Λ x y o) (V : LInv I x y) (hk : k + 8 ≤ 601024 ∧ n + 40 ≤ 7293034) (kk : ∀ (I' : am_I) (J' : am_J) (k' n' : Nat), LInv I' x y → k' ≤ k + 8 → n' ≤ n + 40 → am_K G X room_1 9 Λ I' J' k' n' 2922 (lw_LS b x y o c) []) : am_K G X room_1 9 Λ I J k n 1286 (lw_LS b x y o c) [] := by
  obtain ⟨hx, hy, ho, hxy, hyo⟩ := D
  obtain ⟨tb, n0, err, r, ct, hs, kp, sn, w, hR, hM, hO⟩ := V
  refine k_aload_n C (f := 1) (i := 1) (p := 1) rfl rfl dL_law_1286 ?_
  refine k_aload_n C (f := 0) (i := 0) (p := 0) rfl rfl dL_law_1287 ?_
  refine k_iload C (i := 4) (p := 4) rfl dL_law_1288 ?_
  refine k_iconst C ic_1 dL_law_1290 ?_
  refine k_iadd C dL_law_1291 ?_
  refine k_sld C S hL (nI_add (6 * c) 1) (by omega) dL_law_1292 ?_
  refine k_aload_n C (f := 3) (i := 3) (p := 3) rfl rfl dL_law_1293 ?_
  refine k_callSH C s_L_250 h_L_strain (ct_L_strain hx (RR_r hR) ho) rfl rfl (Nat.le_of_ble_eq_true rfl) ⟨Nat.le_of_ble_eq_true rfl, Nat.le_of_ble_eq_true rfl⟩ (show k + 1 ≤ 601024 ∧ n + 6 ≤ 7293034 by omega) dL_law_1294 (fun v Λ1 I1 J1 hv => ?_) (fun _ _ _ _ h => h.elim)
  obtain ⟨rfl, rfl, hJ1, hA, hB⟩ := hv
  have e1 : I1 = I := Classical.byCases (fun q => (hA q).2) (fun q => hB q)
  subst e1
  have hM1 := hM
  refine k_istore C (i := 5) (lv := (5, _) :: lw_LS b x y o c) (Nat.le_of_ble_eq_true rfl) rfl dL_law_1297 ?_
  refine k_aload_n C (f := 2) (i := 2) (p := 3) rfl rfl dL_law_1299 ?_
  refine k_aload_n C (f := 0) (i := 0) (p := 1) rfl rfl dL_law_1300 ?_
  refine k_iload C (i := 4) (p := 5) rfl dL_law_1301 ?_
  refine k_iconst C ic_1 dL_law_1303 ?_
  refine k_iadd C dL_law_1304 ?_
  refine k_sld C S hL (nI_add (6 * c) 1) (by omega) dL_law_1305 ?_
  refine k_callVg C s_L_252 h_X6_strain (L6_s hy) rfl (ct_X6_strain hy (MM_r hM1) hO.1) rfl rfl (Nat.le_of_ble_eq_true rfl) ⟨Nat.le_of_ble_eq_true rfl, Nat.le_of_ble_eq_true rfl⟩ (show k + 1 ≤ 601024 ∧ n + 6 ≤ 7293034 by omega) ⟨rfl, rfl⟩ dL_law_1306 ?_
  intro v I2 hv
  obtain ⟨⟨bb, rfl⟩, hval, rfl⟩ := hv
  refine k_istore C (i := 6) (lv := (6, _) :: (5, _) :: lw_LS b x y o c) (Nat.le_of_ble_eq_true rfl) rfl dL_law_1309 ?_
  have hcd : _ < 2 ^ 31 := lw_of hA (by
    repeat' refine lw_lt ?_ ?_
    all_goals decide)
  exact lw_tail (k := k + 1) (n := n + 6) C hy ho am_up_eq hcd (fun q => (hA q).1.trans (congrArg Int32.toInt64 (Value.int.inj (Option.some.inj (hval q))).symm)) dL_law_1311 dL_law_1312 dL_law_1315 dL_law_1317 dL_law_1322 dL_law_1324 dL_law_1327 dL_law_1328 dL_law_1329 dL_law_1330 dL_law_1332 dL_law_1333 dL_law_1334 dL_law_1339 (by decide) (show k + 1 ≤ 601024 ∧ n + 6 ≤ 7293034 by omega) (kk _ _ (k + 1) (n + 6) (LInv_q hR hM hO hxy) (by omega) (by omega))
set_option maxHeartbeats 4000000 in
set_option maxRecDepth 100000 in
theorem lw_c27 {G : am_G} {X : am_X} {tz : List ExceptionTableEntry} {Q : State → Prop} {Λ : am_L} {I : am_I} {J : am_J} {k n b x y o c L : Nat} {xs : Nat → Int32} (C : am_Cx G X RL cL_law 9 (some .boolean) tz Q) (S : LSc G X b L xs) (hL : L ≤ 3072) (hc : 6 * c + 6 ≤ L) (D : LL Λ x y o) (V : LInv I x y) (hk : k + 8 ≤ 601024 ∧ n + 40 ≤ 7293034) (kk : ∀ (I' : am_I) (J' : am_J) (k' n' : Nat), LInv I' x y → k' ≤ k + 8 → n' ≤ n + 40 → am_K G X room_1 9 Λ I' J' k' n' 2922 (lw_LS b x y o c) []) : am_K G X room_1 9 Λ I J k n 1342 (lw_LS b x y o c) [] := by
  obtain ⟨hx, hy, ho, hxy, hyo⟩ := D
  obtain ⟨tb, n0, err, r, ct, hs, kp, sn, w, hR, hM, hO⟩ := V
  refine k_aload_n C (f := 1) (i := 1) (p := 1) rfl rfl dL_law_1342 ?_
  refine k_aload_n C (f := 0) (i := 0) (p := 0) rfl rfl dL_law_1343 ?_
  refine k_iload C (i := 4) (p := 4) rfl dL_law_1344 ?_
  refine k_iconst C ic_1 dL_law_1346 ?_
  refine k_iadd C dL_law_1347 ?_
  refine k_sld C S hL (nI_add (6 * c) 1) (by omega) dL_law_1348 ?_
  refine k_aload_n C (f := 3) (i := 3) (p := 3) rfl rfl dL_law_1349 ?_
  refine k_callSH C s_L_253 h_L_lameDays (ct_L_lameDays hx (RR_r hR) ho) rfl rfl (Nat.le_of_ble_eq_true rfl) ⟨Nat.le_of_ble_eq_true rfl, Nat.le_of_ble_eq_true rfl⟩ (show k + 1 ≤ 601024 ∧ n + 6 ≤ 7293034 by omega) dL_law_1350 (fun v Λ1 I1 J1 hv => ?_) (fun _ _ _ _ h => h.elim)
  obtain ⟨rfl, rfl, hJ1, hA, hB⟩ := hv
  have e1 : I1 = I := Classical.byCases (fun q => (hA q).2) (fun q => hB q)
  subst e1
  have hM1 := hM
  refine k_istore C (i := 5) (lv := (5, _) :: lw_LS b x y o c) (Nat.le_of_ble_eq_true rfl) rfl dL_law_1353 ?_
  refine k_aload_n C (f := 2) (i := 2) (p := 3) rfl rfl dL_law_1355 ?_
  refine k_aload_n C (f := 0) (i := 0) (p := 1) rfl rfl dL_law_1356 ?_
  refine k_iload C (i := 4) (p := 5) rfl dL_law_1357 ?_
  refine k_iconst C ic_1 dL_law_1359 ?_
  refine k_iadd C dL_law_1360 ?_
  refine k_sld C S hL (nI_add (6 * c) 1) (by omega) dL_law_1361 ?_
  refine k_callVg C s_L_255 h_X6_lameDays (L6_s hy) rfl (ct_X6_lameDays hy (MM_r hM1) hO.1) rfl rfl (Nat.le_of_ble_eq_true rfl) ⟨Nat.le_of_ble_eq_true rfl, Nat.le_of_ble_eq_true rfl⟩ (show k + 1 ≤ 601024 ∧ n + 6 ≤ 7293034 by omega) ⟨rfl, rfl⟩ dL_law_1362 ?_
  intro v I2 hv
  obtain ⟨⟨bb, rfl⟩, hval, rfl⟩ := hv
  refine k_istore C (i := 6) (lv := (6, _) :: (5, _) :: lw_LS b x y o c) (Nat.le_of_ble_eq_true rfl) rfl dL_law_1365 ?_
  have hcd : _ < 2 ^ 31 := lw_of hA (by
    repeat' refine lw_lt ?_ ?_
    all_goals decide)
  exact lw_tail (k := k + 1) (n := n + 6) C hy ho am_up_eq hcd (fun q => (hA q).1.trans (congrArg Int32.toInt64 (Value.int.inj (Option.some.inj (hval q))).symm)) dL_law_1367 dL_law_1368 dL_law_1371 dL_law_1373 dL_law_1378 dL_law_1380 dL_law_1383 dL_law_1384 dL_law_1385 dL_law_1386 dL_law_1388 dL_law_1389 dL_law_1390 dL_law_1395 (by decide) (show k + 1 ≤ 601024 ∧ n + 6 ≤ 7293034 by omega) (kk _ _ (k + 1) (n + 6) (LInv_q hR hM hO hxy) (by omega) (by omega))
set_option maxHeartbeats 4000000 in
set_option maxRecDepth 100000 in
theorem lw_c28 {G : am_G} {X : am_X} {tz : List ExceptionTableEntry} {Q : State → Prop} {Λ : am_L} {I : am_I} {J : am_J} {k n b x y o c L : Nat} {xs : Nat → Int32} (C : am_Cx G X RL cL_law 9 (some .boolean) tz Q) (S : LSc G X b L xs) (hL : L ≤ 3072) (hc : 6 * c + 6 ≤ L) (D : LL Λ x y o) (V : LInv I x y) (hk : k + 8 ≤ 601024 ∧ n + 40 ≤ 7293034) (kk : ∀ (I' : am_I) (J' : am_J) (k' n' : Nat), LInv I' x y → k' ≤ k + 8 → n' ≤ n + 40 → am_K G X room_1 9 Λ I' J' k' n' 2922 (lw_LS b x y o c) []) : am_K G X room_1 9 Λ I J k n 1398 (lw_LS b x y o c) [] := by
  obtain ⟨hx, hy, ho, hxy, hyo⟩ := D
  obtain ⟨tb, n0, err, r, ct, hs, kp, sn, w, hR, hM, hO⟩ := V
  refine k_aload_n C (f := 1) (i := 1) (p := 1) rfl rfl dL_law_1398 ?_
  refine k_aload_n C (f := 0) (i := 0) (p := 0) rfl rfl dL_law_1399 ?_
  refine k_iload C (i := 4) (p := 4) rfl dL_law_1400 ?_
  refine k_iconst C ic_1 dL_law_1402 ?_
  refine k_iadd C dL_law_1403 ?_
  refine k_sld C S hL (nI_add (6 * c) 1) (by omega) dL_law_1404 ?_
  refine k_aload_n C (f := 3) (i := 3) (p := 3) rfl rfl dL_law_1405 ?_
  refine k_callSH C s_L_256 h_L_dryDays (ct_L_dryDays hx (RR_r hR) ho) rfl rfl (Nat.le_of_ble_eq_true rfl) ⟨Nat.le_of_ble_eq_true rfl, Nat.le_of_ble_eq_true rfl⟩ (show k + 1 ≤ 601024 ∧ n + 6 ≤ 7293034 by omega) dL_law_1406 (fun v Λ1 I1 J1 hv => ?_) (fun _ _ _ _ h => h.elim)
  obtain ⟨rfl, rfl, hJ1, hA, hB⟩ := hv
  have e1 : I1 = I := Classical.byCases (fun q => (hA q).2) (fun q => hB q)
  subst e1
  have hM1 := hM
  refine k_istore C (i := 5) (lv := (5, _) :: lw_LS b x y o c) (Nat.le_of_ble_eq_true rfl) rfl dL_law_1409 ?_
  refine k_aload_n C (f := 2) (i := 2) (p := 3) rfl rfl dL_law_1411 ?_
  refine k_aload_n C (f := 0) (i := 0) (p := 1) rfl rfl dL_law_1412 ?_
  refine k_iload C (i := 4) (p := 5) rfl dL_law_1413 ?_
  refine k_iconst C ic_1 dL_law_1415 ?_
  refine k_iadd C dL_law_1416 ?_
  refine k_sld C S hL (nI_add (6 * c) 1) (by omega) dL_law_1417 ?_
  refine k_callVg C s_L_258 h_X6_dryDays (L6_s hy) rfl (ct_X6_dryDays hy (MM_r hM1) hO.1) rfl rfl (Nat.le_of_ble_eq_true rfl) ⟨Nat.le_of_ble_eq_true rfl, Nat.le_of_ble_eq_true rfl⟩ (show k + 1 ≤ 601024 ∧ n + 6 ≤ 7293034 by omega) ⟨rfl, rfl⟩ dL_law_1418 ?_
  intro v I2 hv
  obtain ⟨⟨bb, rfl⟩, hval, rfl⟩ := hv
  refine k_istore C (i := 6) (lv := (6, _) :: (5, _) :: lw_LS b x y o c) (Nat.le_of_ble_eq_true rfl) rfl dL_law_1421 ?_
  have hcd : _ < 2 ^ 31 := lw_of hA (by
    repeat' refine lw_lt ?_ ?_
    all_goals decide)
  exact lw_tail (k := k + 1) (n := n + 6) C hy ho am_up_eq hcd (fun q => (hA q).1.trans (congrArg Int32.toInt64 (Value.int.inj (Option.some.inj (hval q))).symm)) dL_law_1423 dL_law_1424 dL_law_1427 dL_law_1429 dL_law_1434 dL_law_1436 dL_law_1439 dL_law_1440 dL_law_1441 dL_law_1442 dL_law_1444 dL_law_1445 dL_law_1446 dL_law_1451 (by decide) (show k + 1 ≤ 601024 ∧ n + 6 ≤ 7293034 by omega) (kk _ _ (k + 1) (n + 6) (LInv_q hR hM hO hxy) (by omega) (by omega))
set_option maxHeartbeats 4000000 in
set_option maxRecDepth 100000 in
theorem lw_c29 {G : am_G} {X : am_X} {tz : List ExceptionTableEntry} {Q : State → Prop} {Λ : am_L} {I : am_I} {J : am_J} {k n b x y o c L : Nat} {xs : Nat → Int32} (C : am_Cx G X RL cL_law 9 (some .boolean) tz Q) (S : LSc G X b L xs) (hL : L ≤ 3072) (hc : 6 * c + 6 ≤ L) (D : LL Λ x y o) (V : LInv I x y) (hk : k + 8 ≤ 601024 ∧ n + 40 ≤ 7293034) (kk : ∀ (I' : am_I) (J' : am_J) (k' n' : Nat), LInv I' x y → k' ≤ k + 8 → n' ≤ n + 40 → am_K G X room_1 9 Λ I' J' k' n' 2922 (lw_LS b x y o c) []) : am_K G X room_1 9 Λ I J k n 1454 (lw_LS b x y o c) [] := by
  obtain ⟨hx, hy, ho, hxy, hyo⟩ := D
  obtain ⟨tb, n0, err, r, ct, hs, kp, sn, w, hR, hM, hO⟩ := V
  refine k_aload_n C (f := 1) (i := 1) (p := 1) rfl rfl dL_law_1454 ?_
  refine k_aload_n C (f := 0) (i := 0) (p := 0) rfl rfl dL_law_1455 ?_
  refine k_iload C (i := 4) (p := 4) rfl dL_law_1456 ?_
  refine k_iconst C ic_1 dL_law_1458 ?_
  refine k_iadd C dL_law_1459 ?_
  refine k_sld C S hL (nI_add (6 * c) 1) (by omega) dL_law_1460 ?_
  refine k_aload_n C (f := 3) (i := 3) (p := 3) rfl rfl dL_law_1461 ?_
  refine k_callSH C s_L_259 h_L_carried (ct_L_carried hx (RR_r hR) ho) rfl rfl (Nat.le_of_ble_eq_true rfl) ⟨Nat.le_of_ble_eq_true rfl, Nat.le_of_ble_eq_true rfl⟩ (show k + 1 ≤ 601024 ∧ n + 6 ≤ 7293034 by omega) dL_law_1462 (fun v Λ1 I1 J1 hv => ?_) (fun _ _ _ _ h => h.elim)
  obtain ⟨rfl, rfl, hJ1, hA, hB⟩ := hv
  have e1 : I1 = I := Classical.byCases (fun q => (hA q).2) (fun q => hB q)
  subst e1
  have hM1 := hM
  refine k_istore C (i := 5) (lv := (5, _) :: lw_LS b x y o c) (Nat.le_of_ble_eq_true rfl) rfl dL_law_1465 ?_
  refine k_aload_n C (f := 2) (i := 2) (p := 3) rfl rfl dL_law_1467 ?_
  refine k_aload_n C (f := 0) (i := 0) (p := 1) rfl rfl dL_law_1468 ?_
  refine k_iload C (i := 4) (p := 5) rfl dL_law_1469 ?_
  refine k_iconst C ic_1 dL_law_1471 ?_
  refine k_iadd C dL_law_1472 ?_
  refine k_sld C S hL (nI_add (6 * c) 1) (by omega) dL_law_1473 ?_
  refine k_callVg C s_L_261 h_X6_carried (L6_s hy) rfl (ct_X6_carried hy (MM_r hM1) hO.1) rfl rfl (Nat.le_of_ble_eq_true rfl) ⟨Nat.le_of_ble_eq_true rfl, Nat.le_of_ble_eq_true rfl⟩ (show k + 1 ≤ 601024 ∧ n + 6 ≤ 7293034 by omega) ⟨rfl, rfl⟩ dL_law_1474 ?_
  intro v I2 hv
  obtain ⟨⟨bb, rfl⟩, hval, rfl⟩ := hv
  refine k_istore C (i := 6) (lv := (6, _) :: (5, _) :: lw_LS b x y o c) (Nat.le_of_ble_eq_true rfl) rfl dL_law_1477 ?_
  have hcd : _ < 2 ^ 31 := lw_of hA (by
    repeat' refine lw_lt ?_ ?_
    all_goals decide)
  exact lw_tail (k := k + 1) (n := n + 6) C hy ho am_up_eq hcd (fun q => (hA q).1.trans (congrArg Int32.toInt64 (Value.int.inj (Option.some.inj (hval q))).symm)) dL_law_1479 dL_law_1480 dL_law_1483 dL_law_1485 dL_law_1490 dL_law_1492 dL_law_1495 dL_law_1496 dL_law_1497 dL_law_1498 dL_law_1500 dL_law_1501 dL_law_1502 dL_law_1507 (by decide) (show k + 1 ≤ 601024 ∧ n + 6 ≤ 7293034 by omega) (kk _ _ (k + 1) (n + 6) (LInv_q hR hM hO hxy) (by omega) (by omega))
