/-! ===== the law's loop ===== -/
theorem lw_and63 (a : Int32) : ∃ m : Nat, m < 64 ∧ (a &&& nI 63) = nI m := by
  refine ⟨(a.toBitVec &&& (nI 63).toBitVec).toNat, ?_, ?_⟩
  · rw [BitVec.toNat_and, show (nI 63).toBitVec.toNat = 63 from by decide]
    exact Nat.lt_succ_of_le Nat.and_le_right
  · apply Int32.toBitVec_inj.mp
    rw [Int32.toBitVec_and]
    show _ = BitVec.ofNat 32 _
    rw [BitVec.ofNat_toNat, BitVec.setWidth_eq]
theorem lw_more {L c : Nat} (hL : L ≤ 3072) (hc : 6 * c ≤ L) (h : ¬ nI L - nI 6 < nI (6 * c)) : 6 * c + 6 ≤ L := by
  rw [Int32.lt_iff_toInt_lt, pk_sub_toInt (by omega) (by decide), nI_toInt (by omega)] at h
  omega
set_option maxHeartbeats 4000000 in
set_option maxRecDepth 100000 in
theorem lw_disp {G : am_G} {X : am_X} {tz : List ExceptionTableEntry} {Q : State → Prop} {Λ : am_L} {I : am_I} {J : am_J} {k n b x y o c L : Nat} {xs : Nat → Int32} (C : am_Cx G X RL cL_law 9 (some .boolean) tz Q) (S : LSc G X b L xs) (hL : L ≤ 3072) (hc : 6 * c + 6 ≤ L) (D : LL Λ x y o) (V : LInv I x y) (hk : k + 8 ≤ 601024 ∧ n + 40 ≤ 7293034) (kk : ∀ (I' : am_I) (J' : am_J) (k' n' : Nat), LInv I' x y → k' ≤ k + 8 → n' ≤ n + 40 → am_K G X room_1 9 Λ I' J' k' n' 2922 (lw_LS b x y o c) []) : am_K G X room_1 9 Λ I J k n 33 (lw_LS b x y o c) [] := by
  refine k_aload_n C (f := 0) (i := 0) (p := 0) rfl rfl dL_law_33 ?_
  refine k_iload C (i := 4) (p := 4) rfl dL_law_34 ?_
  refine k_sld C S hL (j := 6 * c) rfl (by omega) dL_law_36 ?_
  refine k_bipush C bc_63 dL_law_37 ?_
  refine k_iand C dL_law_39 ?_
  obtain ⟨m, hm, e⟩ := lw_and63 (xs (6 * c))
  rw [e]
  by_cases h0 : m = 0
  · subst h0
    exact k_tabI C dL_law_40 (off := 256) (tgt := 296) (by decide) (by decide) (by decide) (by decide) (lw_c0 C S hL hc D V hk kk)
  by_cases h1 : m = 1
  · subst h1
    exact k_tabI C dL_law_40 (off := 360) (tgt := 400) (by decide) (by decide) (by decide) (by decide) (lw_c1 C S hL hc D V hk kk)
  by_cases h2 : m = 2
  · subst h2
    exact k_tabI C dL_law_40 (off := 416) (tgt := 456) (by decide) (by decide) (by decide) (by decide) (lw_c2 C S hL hc D V hk kk)
  by_cases h3 : m = 3
  · subst h3
    exact k_tabI C dL_law_40 (off := 460) (tgt := 500) (by decide) (by decide) (by decide) (by decide) (lw_c3 C S hL hc D V hk kk)
  by_cases h4 : m = 4
  · subst h4
    exact k_tabI C dL_law_40 (off := 473) (tgt := 513) (by decide) (by decide) (by decide) (by decide) (lw_c4 C S hL hc D V hk kk)
  by_cases h5 : m = 5
  · subst h5
    exact k_tabI C dL_law_40 (off := 517) (tgt := 557) (by decide) (by decide) (by decide) (by decide) (lw_c5 C S hL hc D V hk kk)
  by_cases h6 : m = 6
  · subst h6
    exact k_tabI C dL_law_40 (off := 530) (tgt := 570) (by decide) (by decide) (by decide) (by decide) (lw_c6 C S hL hc D V hk kk)
  by_cases h7 : m = 7
  · subst h7
    exact k_tabI C dL_law_40 (off := 543) (tgt := 583) (by decide) (by decide) (by decide) (by decide) (lw_c7 C S hL hc D V hk kk)
  by_cases h8 : m = 8
  · subst h8
    exact k_tabI C dL_law_40 (off := 556) (tgt := 596) (by decide) (by decide) (by decide) (by decide) (lw_c8 C S hL hc D V hk kk)
  by_cases h9 : m = 9
  · subst h9
    exact k_tabI C dL_law_40 (off := 569) (tgt := 609) (by decide) (by decide) (by decide) (by decide) (lw_c9 C S hL hc D V hk kk)
  by_cases h10 : m = 10
  · subst h10
    exact k_tabI C dL_law_40 (off := 625) (tgt := 665) (by decide) (by decide) (by decide) (by decide) (lw_c10 C S hL hc D V hk kk)
  by_cases h11 : m = 11
  · subst h11
    exact k_tabI C dL_law_40 (off := 638) (tgt := 678) (by decide) (by decide) (by decide) (by decide) (lw_c11 C S hL hc D V hk kk)
  by_cases h12 : m = 12
  · subst h12
    exact k_tabI C dL_law_40 (off := 651) (tgt := 691) (by decide) (by decide) (by decide) (by decide) (lw_c12 C S hL hc D V hk kk)
  by_cases h13 : m = 13
  · subst h13
    exact k_tabI C dL_law_40 (off := 707) (tgt := 747) (by decide) (by decide) (by decide) (by decide) (lw_c13 C S hL hc D V hk kk)
  by_cases h14 : m = 14
  · subst h14
    exact k_tabI C dL_law_40 (off := 763) (tgt := 803) (by decide) (by decide) (by decide) (by decide) (lw_c14 C S hL hc D V hk kk)
  by_cases h15 : m = 15
  · subst h15
    exact k_tabI C dL_law_40 (off := 819) (tgt := 859) (by decide) (by decide) (by decide) (by decide) (lw_c15 C S hL hc D V hk kk)
  by_cases h16 : m = 16
  · subst h16
    exact k_tabI C dL_law_40 (off := 863) (tgt := 903) (by decide) (by decide) (by decide) (by decide) (lw_c16 C S hL hc D V hk kk)
  by_cases h17 : m = 17
  · subst h17
    exact k_tabI C dL_law_40 (off := 907) (tgt := 947) (by decide) (by decide) (by decide) (by decide) (lw_c17 C S hL hc D V hk kk)
  by_cases h18 : m = 18
  · subst h18
    exact k_tabI C dL_law_40 (off := 920) (tgt := 960) (by decide) (by decide) (by decide) (by decide) (lw_c18 C S hL hc D V hk kk)
  by_cases h19 : m = 19
  · subst h19
    exact k_tabI C dL_law_40 (off := 933) (tgt := 973) (by decide) (by decide) (by decide) (by decide) (lw_c19 C S hL hc D V hk kk)
  by_cases h20 : m = 20
  · subst h20
    exact k_tabI C dL_law_40 (off := 946) (tgt := 986) (by decide) (by decide) (by decide) (by decide) (lw_c20 C S hL hc D V hk kk)
  by_cases h21 : m = 21
  · subst h21
    exact k_tabI C dL_law_40 (off := 959) (tgt := 999) (by decide) (by decide) (by decide) (by decide) (lw_c21 C S hL hc D V hk kk)
  by_cases h22 : m = 22
  · subst h22
    exact k_tabI C dL_law_40 (off := 1022) (tgt := 1062) (by decide) (by decide) (by decide) (by decide) (lw_c22 C S hL hc D V hk kk)
  by_cases h23 : m = 23
  · subst h23
    exact k_tabI C dL_law_40 (off := 1078) (tgt := 1118) (by decide) (by decide) (by decide) (by decide) (lw_c23 C S hL hc D V hk kk)
  by_cases h24 : m = 24
  · subst h24
    exact k_tabI C dL_law_40 (off := 1134) (tgt := 1174) (by decide) (by decide) (by decide) (by decide) (lw_c24 C S hL hc D V hk kk)
  by_cases h25 : m = 25
  · subst h25
    exact k_tabI C dL_law_40 (off := 1190) (tgt := 1230) (by decide) (by decide) (by decide) (by decide) (lw_c25 C S hL hc D V hk kk)
  by_cases h26 : m = 26
  · subst h26
    exact k_tabI C dL_law_40 (off := 1246) (tgt := 1286) (by decide) (by decide) (by decide) (by decide) (lw_c26 C S hL hc D V hk kk)
  by_cases h27 : m = 27
  · subst h27
    exact k_tabI C dL_law_40 (off := 1302) (tgt := 1342) (by decide) (by decide) (by decide) (by decide) (lw_c27 C S hL hc D V hk kk)
  by_cases h28 : m = 28
  · subst h28
    exact k_tabI C dL_law_40 (off := 1358) (tgt := 1398) (by decide) (by decide) (by decide) (by decide) (lw_c28 C S hL hc D V hk kk)
  by_cases h29 : m = 29
  · subst h29
    exact k_tabI C dL_law_40 (off := 1414) (tgt := 1454) (by decide) (by decide) (by decide) (by decide) (lw_c29 C S hL hc D V hk kk)
  by_cases h30 : m = 30
  · subst h30
    exact k_tabI C dL_law_40 (off := 1470) (tgt := 1510) (by decide) (by decide) (by decide) (by decide) (lw_c30 C S hL hc D V hk kk)
  by_cases h31 : m = 31
  · subst h31
    exact k_tabI C dL_law_40 (off := 1526) (tgt := 1566) (by decide) (by decide) (by decide) (by decide) (lw_c31 C S hL hc D V hk kk)
  by_cases h32 : m = 32
  · subst h32
    exact k_tabI C dL_law_40 (off := 1570) (tgt := 1610) (by decide) (by decide) (by decide) (by decide) (lw_c32 C S hL hc D V hk kk)
  by_cases h33 : m = 33
  · subst h33
    exact k_tabI C dL_law_40 (off := 1614) (tgt := 1654) (by decide) (by decide) (by decide) (by decide) (lw_c33 C S hL hc D V hk kk)
  by_cases h34 : m = 34
  · subst h34
    exact k_tabI C dL_law_40 (off := 1627) (tgt := 1667) (by decide) (by decide) (by decide) (by decide) (lw_c34 C S hL hc D V hk kk)
  by_cases h35 : m = 35
  · subst h35
    exact k_tabI C dL_law_40 (off := 1683) (tgt := 1723) (by decide) (by decide) (by decide) (by decide) (lw_c35 C S hL hc D V hk kk)
  by_cases h36 : m = 36
  · subst h36
    exact k_tabI C dL_law_40 (off := 1739) (tgt := 1779) (by decide) (by decide) (by decide) (by decide) (lw_c36 C S hL hc D V hk kk)
  by_cases h37 : m = 37
  · subst h37
    exact k_tabI C dL_law_40 (off := 1802) (tgt := 1842) (by decide) (by decide) (by decide) (by decide) (lw_c37 C S hL hc D V hk kk)
  by_cases h38 : m = 38
  · subst h38
    exact k_tabI C dL_law_40 (off := 1858) (tgt := 1898) (by decide) (by decide) (by decide) (by decide) (lw_c38 C S hL hc D V hk kk)
  by_cases h39 : m = 39
  · subst h39
    exact k_tabI C dL_law_40 (off := 1914) (tgt := 1954) (by decide) (by decide) (by decide) (by decide) (lw_c39 C S hL hc D V hk kk)
  by_cases h40 : m = 40
  · subst h40
    exact k_tabI C dL_law_40 (off := 1927) (tgt := 1967) (by decide) (by decide) (by decide) (by decide) (lw_c40 C S hL hc D V hk kk)
  by_cases h41 : m = 41
  · subst h41
    exact k_tabI C dL_law_40 (off := 1968) (tgt := 2008) (by decide) (by decide) (by decide) (by decide) (lw_c41 C S hL hc D V hk kk)
  by_cases h42 : m = 42
  · subst h42
    exact k_tabI C dL_law_40 (off := 2011) (tgt := 2051) (by decide) (by decide) (by decide) (by decide) (lw_c42 C S hL hc D V hk kk)
  by_cases h43 : m = 43
  · subst h43
    exact k_tabI C dL_law_40 (off := 2024) (tgt := 2064) (by decide) (by decide) (by decide) (by decide) (lw_c43 C S hL hc D V hk kk)
  by_cases h44 : m = 44
  · subst h44
    exact k_tabI C dL_law_40 (off := 2080) (tgt := 2120) (by decide) (by decide) (by decide) (by decide) (lw_c44 C S hL hc D V hk kk)
  by_cases h45 : m = 45
  · subst h45
    exact k_tabI C dL_law_40 (off := 2136) (tgt := 2176) (by decide) (by decide) (by decide) (by decide) (lw_c45 C S hL hc D V hk kk)
  by_cases h46 : m = 46
  · subst h46
    exact k_tabI C dL_law_40 (off := 2180) (tgt := 2220) (by decide) (by decide) (by decide) (by decide) (lw_c46 C S hL hc D V hk kk)
  by_cases h47 : m = 47
  · subst h47
    exact k_tabI C dL_law_40 (off := 2236) (tgt := 2276) (by decide) (by decide) (by decide) (by decide) (lw_c47 C S hL hc D V hk kk)
  by_cases h48 : m = 48
  · subst h48
    exact k_tabI C dL_law_40 (off := 2280) (tgt := 2320) (by decide) (by decide) (by decide) (by decide) (lw_c48 C S hL hc D V hk kk)
  by_cases h49 : m = 49
  · subst h49
    exact k_tabI C dL_law_40 (off := 2324) (tgt := 2364) (by decide) (by decide) (by decide) (by decide) (lw_c49 C S hL hc D V hk kk)
  by_cases h50 : m = 50
  · subst h50
    exact k_tabI C dL_law_40 (off := 2368) (tgt := 2408) (by decide) (by decide) (by decide) (by decide) (lw_c50 C S hL hc D V hk kk)
  by_cases h51 : m = 51
  · subst h51
    exact k_tabI C dL_law_40 (off := 2424) (tgt := 2464) (by decide) (by decide) (by decide) (by decide) (lw_c51 C S hL hc D V hk kk)
  by_cases h52 : m = 52
  · subst h52
    exact k_tabI C dL_law_40 (off := 2465) (tgt := 2505) (by decide) (by decide) (by decide) (by decide) (lw_c52 C S hL hc D V hk kk)
  by_cases h53 : m = 53
  · subst h53
    exact k_tabI C dL_law_40 (off := 2533) (tgt := 2573) (by decide) (by decide) (by decide) (by decide) (lw_c53 C S hL hc D V hk kk)
  by_cases h54 : m = 54
  · subst h54
    exact k_tabI C dL_law_40 (off := 2589) (tgt := 2629) (by decide) (by decide) (by decide) (by decide) (lw_c54 C S hL hc D V hk kk)
  by_cases h55 : m = 55
  · subst h55
    exact k_tabI C dL_law_40 (off := 2657) (tgt := 2697) (by decide) (by decide) (by decide) (by decide) (lw_c55 C S hL hc D V hk kk)
  by_cases h56 : m = 56
  · subst h56
    exact k_tabI C dL_law_40 (off := 2701) (tgt := 2741) (by decide) (by decide) (by decide) (by decide) (lw_c56 C S hL hc D V hk kk)
  by_cases h57 : m = 57
  · subst h57
    exact k_tabI C dL_law_40 (off := 2757) (tgt := 2797) (by decide) (by decide) (by decide) (by decide) (lw_c57 C S hL hc D V hk kk)
  by_cases h58 : m = 58
  · subst h58
    exact k_tabI C dL_law_40 (off := 2813) (tgt := 2853) (by decide) (by decide) (by decide) (by decide) (lw_c58 C S hL hc D V hk kk)
  by_cases h59 : m = 59
  · subst h59
    exact k_tabI C dL_law_40 (off := 2826) (tgt := 2866) (by decide) (by decide) (by decide) (by decide) (lw_c59 C S hL hc D V hk kk)
  exact k_tabO C dL_law_40 (tgt := 2922) (Or.inr (by rw [nI_toInt (by omega)]; omega)) (by decide) (kk _ _ _ _ V (by omega) (by omega))
section LOOP
variable {G : am_G} {X : am_X} {tz : List ExceptionTableEntry} {Q : State → Prop} {Λ : am_L} {b x y o L : Nat} {xs : Nat → Int32}
set_option maxHeartbeats 4000000 in
theorem lw_loop (C : am_Cx G X RL cL_law 9 (some .boolean) tz Q) (S : LSc G X b L xs) (hL : L ≤ 3072) (D : LL Λ x y o) (kend : ∀ (c : Nat) (I : am_I) (J : am_J) (k n : Nat), k ≤ 6000 → n ≤ 60000 → am_K G X room_1 9 Λ I J k n 2928 (lw_LS b x y o c) []) : ∀ (f c : Nat) (I : am_I) (J : am_J) (k n : Nat), LInv I x y → 6 * c ≤ L → k ≤ 200 + 8 * c → n ≤ 8000 + 40 * c → 600 - c < f → am_K G X room_1 9 Λ I J k n 23 (lw_LS b x y o c) [] := by
  intro f
  induction f with
  | zero => intro c I J k n _ _ _ _ hf; exact absurd hf (Nat.not_lt_zero _)
  | succ f ih =>
    intro c I J k n V hc hk hn hf
    refine k_iload C (i := 4) (p := 4) rfl dL_law_23 ?_
    refine k_aload_n C (f := 0) (i := 0) (p := 0) rfl rfl dL_law_25 ?_
    refine k_slenA C S dL_law_26 ?_
    refine k_bipush C bc_6 dL_law_27 ?_
    refine k_isub C dL_law_29 ?_
    refine k_icmp_gt C (tgt := 2928) (by decide) dL_law_30 (fun _ => kend c I J k n (by omega) (by omega)) (fun h => ?_)
    have h6 := lw_more hL hc h
    refine lw_disp C S hL h6 D V ⟨by omega, by omega⟩ (fun I' J' k' n' V' g1 g2 => ?_)
    refine k_iinc C (i := 4) (p := 4) (v := nI (6 * (c + 1))) (lv := [(4, _), (0, _), (1, _), (2, _), (3, _)]) (Nat.le_of_ble_eq_true rfl) rfl (by rw [show Int32.ofInt 6 = nI 6 from by decide, nI_add]; rfl) rfl dL_law_2922 ?_
    refine k_goto C (tgt := 23) (by decide) dL_law_2925 ?_
    refine k_sub [1, 2, 3, 4, 0] rfl ?_
    exact ih (c + 1) I' J' k' n' V' (by omega) (by omega) (by omega) (by omega)
end LOOP
