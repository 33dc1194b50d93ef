set_option maxHeartbeats 4000000 in
set_option maxRecDepth 100000 in
theorem lw_c45 {G : am_G} {X : am_X} {tz : List ExceptionTableEntry} {Q : State → Prop} {Λ : am_L} {I : am_I} {J : am_J} {k n b x y o c L : Nat} {xs : Nat → Int32} (C : am_Cx G X RL cL_law 9 (some .boolean) tz Q) (S : LSc G X b L xs) (hL : L ≤ 3072) (hc : 6 * c + 6 ≤ L) (D : LL Λ x y o) (V : LInv I x y) (hk : k + 8 ≤ 601024 ∧ n + 40 ≤ 7293034) (kk : ∀ (I' : am_I) (J' : am_J) (k' n' : Nat), LInv I' x y → k' ≤ k + 8 → n' ≤ n + 40 → am_K G X room_1 9 Λ I' J' k' n' 2922 (lw_LS b x y o c) []) : am_K G X room_1 9 Λ I J k n 2176 (lw_LS b x y o c) [] := by
  obtain ⟨hx, hy, ho, hxy, hyo⟩ := D
  obtain ⟨tb, n0, err, r, ct, hs, kp, sn, w, hR, hM, hO⟩ := V
  refine k_aload_n C (f := 1) (i := 1) (p := 1) rfl rfl dL_law_2176 ?_
  refine k_aload_n C (f := 3) (i := 3) (p := 3) rfl rfl dL_law_2177 ?_
  refine k_callSH C s_L_314 h_L_daysToArrival (ct_L_daysToArrival hx hR hO.1 ho) rfl rfl (Nat.le_of_ble_eq_true rfl) ⟨Nat.le_of_ble_eq_true rfl, Nat.le_of_ble_eq_true rfl⟩ (show k + 1 ≤ 601024 ∧ n + 6 ≤ 7293034 by omega) dL_law_2178 (fun v Λ1 I1 J1 hv => ?_) (fun _ _ _ _ h => h.elim)
  obtain ⟨rfl, rfl, hJ1, hA, hB⟩ := hv
  have hf1 : RFr x I I1 := Classical.byCases (fun q => (hA q).2.2) (fun q => (hB q).2)
  have hM1 := MM_out hM hf1 hxy
  refine k_istore C (i := 5) (lv := (5, _) :: lw_LS b x y o c) (Nat.le_of_ble_eq_true rfl) rfl dL_law_2181 ?_
  refine k_aload_n C (f := 2) (i := 2) (p := 3) rfl rfl dL_law_2183 ?_
  refine k_callVg C s_L_316 h_X6_daysToArrival (L6_s hy) rfl (ct_X6_daysToArrival hy hM1 hO.1) rfl rfl (Nat.le_of_ble_eq_true rfl) ⟨Nat.le_of_ble_eq_true rfl, Nat.le_of_ble_eq_true rfl⟩ (show k + 1 ≤ 601024 ∧ n + 6 ≤ 7293034 by omega) ⟨rfl, rfl⟩ dL_law_2184 ?_
  intro v I2 hv
  obtain ⟨⟨bb, rfl⟩, h10, hF, hN, hD⟩ := hv
  refine k_istore C (i := 6) (lv := (6, _) :: (5, _) :: lw_LS b x y o c) (Nat.le_of_ble_eq_true rfl) rfl dL_law_2187 ?_
  have hcd : _ < 2 ^ 31 := lw_of hA (by
    repeat' refine lw_lt ?_ ?_
    all_goals decide)
  exact lw_tail (k := k + 1) (n := n + 6) C hy ho h10 hcd (fun q => (hA q).1.trans (congrArg Int32.toInt64 (Value.int.inj (Option.some.inj (hN q).1)).symm)) dL_law_2189 dL_law_2190 dL_law_2193 dL_law_2195 dL_law_2200 dL_law_2202 dL_law_2205 dL_law_2206 dL_law_2207 dL_law_2208 dL_law_2210 dL_law_2211 dL_law_2212 dL_law_2217 (by decide) (show k + 1 ≤ 601024 ∧ n + 6 ≤ 7293034 by omega) (kk _ _ (k + 1) (n + 6) (LInv_c hxy hF (fun q => (hA q).2.1) (fun q => (hB q).1) (fun q => (hN q).2) hD (fun _ => hO) hO) (by omega) (by omega))
set_option maxHeartbeats 4000000 in
set_option maxRecDepth 100000 in
theorem lw_c46 {G : am_G} {X : am_X} {tz : List ExceptionTableEntry} {Q : State → Prop} {Λ : am_L} {I : am_I} {J : am_J} {k n b x y o c L : Nat} {xs : Nat → Int32} (C : am_Cx G X RL cL_law 9 (some .boolean) tz Q) (S : LSc G X b L xs) (hL : L ≤ 3072) (hc : 6 * c + 6 ≤ L) (D : LL Λ x y o) (V : LInv I x y) (hk : k + 8 ≤ 601024 ∧ n + 40 ≤ 7293034) (kk : ∀ (I' : am_I) (J' : am_J) (k' n' : Nat), LInv I' x y → k' ≤ k + 8 → n' ≤ n + 40 → am_K G X room_1 9 Λ I' J' k' n' 2922 (lw_LS b x y o c) []) : am_K G X room_1 9 Λ I J k n 2220 (lw_LS b x y o c) [] := by
  obtain ⟨hx, hy, ho, hxy, hyo⟩ := D
  obtain ⟨tb, n0, err, r, ct, hs, kp, sn, w, hR, hM, hO⟩ := V
  refine k_aload_n C (f := 1) (i := 1) (p := 1) rfl rfl dL_law_2220 ?_
  refine k_aload_n C (f := 0) (i := 0) (p := 0) rfl rfl dL_law_2221 ?_
  refine k_iload C (i := 4) (p := 4) rfl dL_law_2222 ?_
  refine k_iconst C ic_1 dL_law_2224 ?_
  refine k_iadd C dL_law_2225 ?_
  refine k_sld C S hL (nI_add (6 * c) 1) (by omega) dL_law_2226 ?_
  refine k_aload_n C (f := 3) (i := 3) (p := 3) rfl rfl dL_law_2227 ?_
  refine k_callSH C s_L_317 h_L_wouldDrink (ct_L_wouldDrink hx hR hO.1 ho) rfl rfl (Nat.le_of_ble_eq_true rfl) ⟨Nat.le_of_ble_eq_true rfl, Nat.le_of_ble_eq_true rfl⟩ (show k + 2 ≤ 601024 ∧ n + 12 ≤ 7293034 by omega) dL_law_2228 (fun v Λ1 I1 J1 hv => ?_) (fun _ _ _ _ h => h.elim)
  obtain ⟨rfl, rfl, hJ1, hA, hB⟩ := hv
  have hf1 : RFr x I I1 := Classical.byCases (fun q => (hA q).2.2) (fun q => by rw [hB q]; exact fun _ _ => rfl)
  have hM1 := MM_out hM hf1 hxy
  refine k_istore C (i := 5) (lv := (5, _) :: lw_LS b x y o c) (Nat.le_of_ble_eq_true rfl) rfl dL_law_2231 ?_
  refine k_aload_n C (f := 2) (i := 2) (p := 3) rfl rfl dL_law_2233 ?_
  refine k_aload_n C (f := 0) (i := 0) (p := 1) rfl rfl dL_law_2234 ?_
  refine k_iload C (i := 4) (p := 5) rfl dL_law_2235 ?_
  refine k_iconst C ic_1 dL_law_2237 ?_
  refine k_iadd C dL_law_2238 ?_
  refine k_sld C S hL (nI_add (6 * c) 1) (by omega) dL_law_2239 ?_
  refine k_callVg C s_L_319 h_X6_wouldDrink (L6_s hy) rfl (ct_X6_wouldDrink hy hM1 hO.1) rfl rfl (Nat.le_of_ble_eq_true rfl) ⟨Nat.le_of_ble_eq_true rfl, Nat.le_of_ble_eq_true rfl⟩ (show k + 2 ≤ 601024 ∧ n + 12 ≤ 7293034 by omega) ⟨rfl, rfl⟩ dL_law_2240 ?_
  intro v I2 hv
  obtain ⟨⟨bb, rfl⟩, h10, hF, hN, hD⟩ := hv
  refine k_istore C (i := 6) (lv := (6, _) :: (5, _) :: lw_LS b x y o c) (Nat.le_of_ble_eq_true rfl) rfl dL_law_2243 ?_
  have hcd : _ < 2 ^ 31 := lw_of hA (by
    repeat' refine lw_lt ?_ ?_
    all_goals decide)
  exact lw_tail (k := k + 2) (n := n + 12) C hy ho h10 hcd (fun q => (hA q).1.trans (congrArg Int32.toInt64 (Value.int.inj (Option.some.inj (hN q).1)).symm)) dL_law_2245 dL_law_2246 dL_law_2249 dL_law_2251 dL_law_2256 dL_law_2258 dL_law_2261 dL_law_2262 dL_law_2263 dL_law_2264 dL_law_2266 dL_law_2267 dL_law_2268 dL_law_2273 (by decide) (show k + 2 ≤ 601024 ∧ n + 12 ≤ 7293034 by omega) (kk _ _ (k + 2) (n + 12) (LInv_c hxy hF (fun q => (hA q).2.1) (fun q => by rw [hB q]; exact hR) (fun q => (hN q).2) hD (fun _ => hO) hO) (by omega) (by omega))
set_option maxHeartbeats 4000000 in
set_option maxRecDepth 100000 in
theorem lw_c47 {G : am_G} {X : am_X} {tz : List ExceptionTableEntry} {Q : State → Prop} {Λ : am_L} {I : am_I} {J : am_J} {k n b x y o c L : Nat} {xs : Nat → Int32} (C : am_Cx G X RL cL_law 9 (some .boolean) tz Q) (S : LSc G X b L xs) (hL : L ≤ 3072) (hc : 6 * c + 6 ≤ L) (D : LL Λ x y o) (V : LInv I x y) (hk : k + 8 ≤ 601024 ∧ n + 40 ≤ 7293034) (kk : ∀ (I' : am_I) (J' : am_J) (k' n' : Nat), LInv I' x y → k' ≤ k + 8 → n' ≤ n + 40 → am_K G X room_1 9 Λ I' J' k' n' 2922 (lw_LS b x y o c) []) : am_K G X room_1 9 Λ I J k n 2276 (lw_LS b x y o c) [] := by
  obtain ⟨hx, hy, ho, hxy, hyo⟩ := D
  obtain ⟨tb, n0, err, r, ct, hs, kp, sn, w, hR, hM, hO⟩ := V
  refine k_aload_n C (f := 1) (i := 1) (p := 1) rfl rfl dL_law_2276 ?_
  refine k_aload_n C (f := 3) (i := 3) (p := 3) rfl rfl dL_law_2277 ?_
  obtain ⟨ld, hld, hlc⟩ := RK_ld hO.1
  refine k_callSH C s_L_320 h_L_travel (ct_L_travel hx hR hO.1 hld hlc ho) rfl rfl (Nat.le_of_ble_eq_true rfl) ⟨Nat.le_of_ble_eq_true rfl, Nat.le_of_ble_eq_true rfl⟩ (show k + 1 ≤ 601024 ∧ n + 6 ≤ 7293034 by omega) dL_law_2278 (fun v Λ1 I1 J1 hv => ?_) (fun _ _ _ _ h => h.elim)
  obtain ⟨rfl, rfl, hJ1, hA, hB⟩ := hv
  have hf1 : RFr x I I1 := Classical.byCases (fun q => (hA q).2.2) (fun q => by rw [hB q]; exact fun _ _ => rfl)
  have hM1 := MM_out hM hf1 hxy
  refine k_istore C (i := 5) (lv := (5, _) :: lw_LS b x y o c) (Nat.le_of_ble_eq_true rfl) rfl dL_law_2281 ?_
  refine k_aload_n C (f := 2) (i := 2) (p := 3) rfl rfl dL_law_2283 ?_
  refine k_callVg C s_L_322 h_X6_travel (L6_s hy) rfl (ct_X6_travel hy hM1 hO.1 hld hlc) rfl rfl (Nat.le_of_ble_eq_true rfl) ⟨Nat.le_of_ble_eq_true rfl, Nat.le_of_ble_eq_true rfl⟩ (show k + 1 ≤ 601024 ∧ n + 6 ≤ 7293034 by omega) ⟨rfl, rfl⟩ dL_law_2284 ?_
  intro v I2 hv
  obtain ⟨⟨bb, rfl⟩, h10, hF, hN, hD⟩ := hv
  refine k_istore C (i := 6) (lv := (6, _) :: (5, _) :: lw_LS b x y o c) (Nat.le_of_ble_eq_true rfl) rfl dL_law_2287 ?_
  have hcd : _ < 2 ^ 31 := lw_of hA (by
    repeat' refine lw_lt ?_ ?_
    all_goals decide)
  exact lw_tail (k := k + 1) (n := n + 6) C hy ho h10 hcd (fun q => (hA q).1.trans (congrArg Int32.toInt64 (Value.int.inj (Option.some.inj (hN q).1)).symm)) dL_law_2289 dL_law_2290 dL_law_2293 dL_law_2295 dL_law_2300 dL_law_2302 dL_law_2305 dL_law_2306 dL_law_2307 dL_law_2308 dL_law_2310 dL_law_2311 dL_law_2312 dL_law_2317 (by decide) (show k + 1 ≤ 601024 ∧ n + 6 ≤ 7293034 by omega) (kk _ _ (k + 1) (n + 6) (LInv_c hxy hF (fun q => (hA q).2.1) (fun q => by rw [hB q]; exact hR) (fun q => (hN q).2) hD (lo_travel hO hlc) hO) (by omega) (by omega))
set_option maxHeartbeats 4000000 in
set_option maxRecDepth 100000 in
theorem lw_c48 {G : am_G} {X : am_X} {tz : List ExceptionTableEntry} {Q : State → Prop} {Λ : am_L} {I : am_I} {J : am_J} {k n b x y o c L : Nat} {xs : Nat → Int32} (C : am_Cx G X RL cL_law 9 (some .boolean) tz Q) (S : LSc G X b L xs) (hL : L ≤ 3072) (hc : 6 * c + 6 ≤ L) (D : LL Λ x y o) (V : LInv I x y) (hk : k + 8 ≤ 601024 ∧ n + 40 ≤ 7293034) (kk : ∀ (I' : am_I) (J' : am_J) (k' n' : Nat), LInv I' x y → k' ≤ k + 8 → n' ≤ n + 40 → am_K G X room_1 9 Λ I' J' k' n' 2922 (lw_LS b x y o c) []) : am_K G X room_1 9 Λ I J k n 2320 (lw_LS b x y o c) [] := by
  obtain ⟨hx, hy, ho, hxy, hyo⟩ := D
  obtain ⟨tb, n0, err, r, ct, hs, kp, sn, w, hR, hM, hO⟩ := V
  refine k_aload_n C (f := 1) (i := 1) (p := 1) rfl rfl dL_law_2320 ?_
  refine k_aload_n C (f := 3) (i := 3) (p := 3) rfl rfl dL_law_2321 ?_
  obtain ⟨ld, hld, hlc⟩ := RK_ld hO.1
  refine k_callSH C s_L_323 h_L_rest (ct_L_rest hx hR hO.1 hld hlc ho) rfl rfl (Nat.le_of_ble_eq_true rfl) ⟨Nat.le_of_ble_eq_true rfl, Nat.le_of_ble_eq_true rfl⟩ (show k + 1 ≤ 601024 ∧ n + 6 ≤ 7293034 by omega) dL_law_2322 (fun v Λ1 I1 J1 hv => ?_) (fun _ _ _ _ h => h.elim)
  obtain ⟨rfl, rfl, hJ1, hA, hB⟩ := hv
  have hf1 : RFr x I I1 := Classical.byCases (fun q => (hA q).2.2) (fun q => by rw [hB q]; exact fun _ _ => rfl)
  have hM1 := MM_out hM hf1 hxy
  refine k_istore C (i := 5) (lv := (5, _) :: lw_LS b x y o c) (Nat.le_of_ble_eq_true rfl) rfl dL_law_2325 ?_
  refine k_aload_n C (f := 2) (i := 2) (p := 3) rfl rfl dL_law_2327 ?_
  refine k_callVg C s_L_325 h_X6_rest (L6_s hy) rfl (ct_X6_rest hy hM1 hO.1 hld hlc) rfl rfl (Nat.le_of_ble_eq_true rfl) ⟨Nat.le_of_ble_eq_true rfl, Nat.le_of_ble_eq_true rfl⟩ (show k + 1 ≤ 601024 ∧ n + 6 ≤ 7293034 by omega) ⟨rfl, rfl⟩ dL_law_2328 ?_
  intro v I2 hv
  obtain ⟨⟨bb, rfl⟩, h10, hF, hN, hD⟩ := hv
  refine k_istore C (i := 6) (lv := (6, _) :: (5, _) :: lw_LS b x y o c) (Nat.le_of_ble_eq_true rfl) rfl dL_law_2331 ?_
  have hcd : _ < 2 ^ 31 := lw_of hA (by
    repeat' refine lw_lt ?_ ?_
    all_goals decide)
  exact lw_tail (k := k + 1) (n := n + 6) C hy ho h10 hcd (fun q => (hA q).1.trans (congrArg Int32.toInt64 (Value.int.inj (Option.some.inj (hN q).1)).symm)) dL_law_2333 dL_law_2334 dL_law_2337 dL_law_2339 dL_law_2344 dL_law_2346 dL_law_2349 dL_law_2350 dL_law_2351 dL_law_2352 dL_law_2354 dL_law_2355 dL_law_2356 dL_law_2361 (by decide) (show k + 1 ≤ 601024 ∧ n + 6 ≤ 7293034 by omega) (kk _ _ (k + 1) (n + 6) (LInv_c hxy hF (fun q => (hA q).2.1) (fun q => by rw [hB q]; exact hR) (fun q => (hN q).2) hD (lo_rest hO) hO) (by omega) (by omega))
set_option maxHeartbeats 4000000 in
set_option maxRecDepth 100000 in
theorem lw_c49 {G : am_G} {X : am_X} {tz : List ExceptionTableEntry} {Q : State → Prop} {Λ : am_L} {I : am_I} {J : am_J} {k n b x y o c L : Nat} {xs : Nat → Int32} (C : am_Cx G X RL cL_law 9 (some .boolean) tz Q) (S : LSc G X b L xs) (hL : L ≤ 3072) (hc : 6 * c + 6 ≤ L) (D : LL Λ x y o) (V : LInv I x y) (hk : k + 8 ≤ 601024 ∧ n + 40 ≤ 7293034) (kk : ∀ (I' : am_I) (J' : am_J) (k' n' : Nat), LInv I' x y → k' ≤ k + 8 → n' ≤ n + 40 → am_K G X room_1 9 Λ I' J' k' n' 2922 (lw_LS b x y o c) []) : am_K G X room_1 9 Λ I J k n 2364 (lw_LS b x y o c) [] := by
  obtain ⟨hx, hy, ho, hxy, hyo⟩ := D
  obtain ⟨tb, n0, err, r, ct, hs, kp, sn, w, hR, hM, hO⟩ := V
  refine k_aload_n C (f := 1) (i := 1) (p := 1) rfl rfl dL_law_2364 ?_
  refine k_aload_n C (f := 3) (i := 3) (p := 3) rfl rfl dL_law_2365 ?_
  refine k_callSH C s_L_326 h_L_drink (ct_L_drink hx hR hO.1 ho) rfl rfl (Nat.le_of_ble_eq_true rfl) ⟨Nat.le_of_ble_eq_true rfl, Nat.le_of_ble_eq_true rfl⟩ (show k + 1 ≤ 601024 ∧ n + 6 ≤ 7293034 by omega) dL_law_2366 (fun v Λ1 I1 J1 hv => ?_) (fun _ _ _ _ h => h.elim)
  obtain ⟨rfl, rfl, hJ1, hA, hB⟩ := hv
  have hf1 : RFr x I I1 := Classical.byCases (fun q => (hA q).2.2) (fun q => by rw [hB q]; exact fun _ _ => rfl)
  have hM1 := MM_out hM hf1 hxy
  refine k_istore C (i := 5) (lv := (5, _) :: lw_LS b x y o c) (Nat.le_of_ble_eq_true rfl) rfl dL_law_2369 ?_
  refine k_aload_n C (f := 2) (i := 2) (p := 3) rfl rfl dL_law_2371 ?_
  refine k_callVg C s_L_328 h_X6_drink (L6_s hy) rfl (ct_X6_drink hy hM1 hO.1) rfl rfl (Nat.le_of_ble_eq_true rfl) ⟨Nat.le_of_ble_eq_true rfl, Nat.le_of_ble_eq_true rfl⟩ (show k + 1 ≤ 601024 ∧ n + 6 ≤ 7293034 by omega) ⟨rfl, rfl⟩ dL_law_2372 ?_
  intro v I2 hv
  obtain ⟨⟨bb, rfl⟩, h10, hF, hN, hD⟩ := hv
  refine k_istore C (i := 6) (lv := (6, _) :: (5, _) :: lw_LS b x y o c) (Nat.le_of_ble_eq_true rfl) rfl dL_law_2375 ?_
  have hcd : _ < 2 ^ 31 := lw_of hA (by
    repeat' refine lw_lt ?_ ?_
    all_goals decide)
  exact lw_tail (k := k + 1) (n := n + 6) C hy ho h10 hcd (fun q => (hA q).1.trans (congrArg Int32.toInt64 (Value.int.inj (Option.some.inj (hN q).1)).symm)) dL_law_2377 dL_law_2378 dL_law_2381 dL_law_2383 dL_law_2388 dL_law_2390 dL_law_2393 dL_law_2394 dL_law_2395 dL_law_2396 dL_law_2398 dL_law_2399 dL_law_2400 dL_law_2405 (by decide) (show k + 1 ≤ 601024 ∧ n + 6 ≤ 7293034 by omega) (kk _ _ (k + 1) (n + 6) (LInv_c hxy hF (fun q => (hA q).2.1) (fun q => by rw [hB q]; exact hR) (fun q => (hN q).2) hD (lo_drink hO) hO) (by omega) (by omega))
set_option maxHeartbeats 4000000 in
set_option maxRecDepth 100000 in
theorem lw_c50 {G : am_G} {X : am_X} {tz : List ExceptionTableEntry} {Q : State → Prop} {Λ : am_L} {I : am_I} {J : am_J} {k n b x y o c L : Nat} {xs : Nat → Int32} (C : am_Cx G X RL cL_law 9 (some .boolean) tz Q) (S : LSc G X b L xs) (hL : L ≤ 3072) (hc : 6 * c + 6 ≤ L) (D : LL Λ x y o) (V : LInv I x y) (hk : k + 8 ≤ 601024 ∧ n + 40 ≤ 7293034) (kk : ∀ (I' : am_I) (J' : am_J) (k' n' : Nat), LInv I' x y → k' ≤ k + 8 → n' ≤ n + 40 → am_K G X room_1 9 Λ I' J' k' n' 2922 (lw_LS b x y o c) []) : am_K G X room_1 9 Λ I J k n 2408 (lw_LS b x y o c) [] := by
  obtain ⟨hx, hy, ho, hxy, hyo⟩ := D
  obtain ⟨tb, n0, err, r, ct, hs, kp, sn, w, hR, hM, hO⟩ := V
  refine k_aload_n C (f := 1) (i := 1) (p := 1) rfl rfl dL_law_2408 ?_
  refine k_aload_n C (f := 0) (i := 0) (p := 0) rfl rfl dL_law_2409 ?_
  refine k_iload C (i := 4) (p := 4) rfl dL_law_2410 ?_
  refine k_iconst C ic_1 dL_law_2412 ?_
  refine k_iadd C dL_law_2413 ?_
  refine k_sld C S hL (nI_add (6 * c) 1) (by omega) dL_law_2414 ?_
  refine k_aload_n C (f := 3) (i := 3) (p := 3) rfl rfl dL_law_2415 ?_
  refine k_callSH C s_L_329 h_L_setLeader (ct_L_setLeader hx hR hO.1 ho) rfl rfl (Nat.le_of_ble_eq_true rfl) ⟨Nat.le_of_ble_eq_true rfl, Nat.le_of_ble_eq_true rfl⟩ (show k + 2 ≤ 601024 ∧ n + 12 ≤ 7293034 by omega) dL_law_2416 (fun v Λ1 I1 J1 hv => ?_) (fun _ _ _ _ h => h.elim)
  obtain ⟨rfl, rfl, hJ1, hA, hB⟩ := hv
  have hf1 : RFr x I I1 := Classical.byCases (fun q => (hA q).2.2) (fun q => by rw [hB q]; exact fun _ _ => rfl)
  have hM1 := MM_out hM hf1 hxy
  refine k_istore C (i := 5) (lv := (5, _) :: lw_LS b x y o c) (Nat.le_of_ble_eq_true rfl) rfl dL_law_2419 ?_
  refine k_aload_n C (f := 2) (i := 2) (p := 3) rfl rfl dL_law_2421 ?_
  refine k_aload_n C (f := 0) (i := 0) (p := 1) rfl rfl dL_law_2422 ?_
  refine k_iload C (i := 4) (p := 5) rfl dL_law_2423 ?_
  refine k_iconst C ic_1 dL_law_2425 ?_
  refine k_iadd C dL_law_2426 ?_
  refine k_sld C S hL (nI_add (6 * c) 1) (by omega) dL_law_2427 ?_
  refine k_callVg C s_L_331 h_X6_setLeader (L6_s hy) rfl (ct_X6_setLeader hy hM1 hO.1) rfl rfl (Nat.le_of_ble_eq_true rfl) ⟨Nat.le_of_ble_eq_true rfl, Nat.le_of_ble_eq_true rfl⟩ (show k + 2 ≤ 601024 ∧ n + 12 ≤ 7293034 by omega) ⟨rfl, rfl⟩ dL_law_2428 ?_
  intro v I2 hv
  obtain ⟨⟨bb, rfl⟩, h10, hF, hN, hD⟩ := hv
  refine k_istore C (i := 6) (lv := (6, _) :: (5, _) :: lw_LS b x y o c) (Nat.le_of_ble_eq_true rfl) rfl dL_law_2431 ?_
  have hcd : _ < 2 ^ 31 := lw_of hA (by
    repeat' refine lw_lt ?_ ?_
    all_goals decide)
  exact lw_tail (k := k + 2) (n := n + 12) C hy ho h10 hcd (fun q => (hA q).1.trans (congrArg Int32.toInt64 (Value.int.inj (Option.some.inj (hN q).1)).symm)) dL_law_2433 dL_law_2434 dL_law_2437 dL_law_2439 dL_law_2444 dL_law_2446 dL_law_2449 dL_law_2450 dL_law_2451 dL_law_2452 dL_law_2454 dL_law_2455 dL_law_2456 dL_law_2461 (by decide) (show k + 2 ≤ 601024 ∧ n + 12 ≤ 7293034 by omega) (kk _ _ (k + 2) (n + 12) (LInv_c hxy hF (fun q => (hA q).2.1) (fun q => by rw [hB q]; exact hR) (fun q => (hN q).2) hD (lo_lead hO) hO) (by omega) (by omega))
set_option maxHeartbeats 4000000 in
set_option maxRecDepth 100000 in
theorem lw_c51 {G : am_G} {X : am_X} {tz : List ExceptionTableEntry} {Q : State → Prop} {Λ : am_L} {I : am_I} {J : am_J} {k n b x y o c L : Nat} {xs : Nat → Int32} (C : am_Cx G X RL cL_law 9 (some .boolean) tz Q) (S : LSc G X b L xs) (hL : L ≤ 3072) (hc : 6 * c + 6 ≤ L) (D : LL Λ x y o) (V : LInv I x y) (hk : k + 8 ≤ 601024 ∧ n + 40 ≤ 7293034) (kk : ∀ (I' : am_I) (J' : am_J) (k' n' : Nat), LInv I' x y → k' ≤ k + 8 → n' ≤ n + 40 → am_K G X room_1 9 Λ I' J' k' n' 2922 (lw_LS b x y o c) []) : am_K G X room_1 9 Λ I J k n 2464 (lw_LS b x y o c) [] := by
  obtain ⟨hx, hy, ho, hxy, hyo⟩ := D
  obtain ⟨tb, n0, err, r, ct, hs, kp, sn, w, hR, hM, hO⟩ := V
  refine k_aload_n C (f := 1) (i := 1) (p := 1) rfl rfl dL_law_2464 ?_
  refine k_aload_n C (f := 0) (i := 0) (p := 0) rfl rfl dL_law_2465 ?_
  refine k_iload C (i := 4) (p := 4) rfl dL_law_2466 ?_
  refine k_iconst C ic_1 dL_law_2468 ?_
  refine k_iadd C dL_law_2469 ?_
  refine k_sld C S hL (nI_add (6 * c) 1) (by omega) dL_law_2470 ?_
  refine k_if_eq C (tgt := 2478) (by decide) dL_law_2471 (fun h0 => ?_) (fun h0 => ?_)
  · skip
    refine k_iconst C ic_0 dL_law_2478 ?_
    refine k_callV C s_L_332 h_X5_setStopping (L5_s hx) rfl (ct_X5_setStopping (b := nI 0) hx hR hO.1 (show nI 0 = 0 ∨ nI 0 = 1 from by decide)) rfl rfl (Nat.le_of_ble_eq_true rfl) ⟨Nat.le_of_ble_eq_true rfl, Nat.le_of_ble_eq_true rfl⟩ (show k + 0 ≤ 601024 ∧ n + 0 ≤ 7293034 by omega) dL_law_2479 (fun v Λ1 I1 J1 hv => ?_) (fun _ _ _ _ h => h.elim)
    obtain ⟨rfl, -, rfl, rfl, hR1, hf1⟩ := hv
    have hM1 := MM_out hM hf1 hxy
    refine k_aload_n C (f := 2) (i := 2) (p := 2) rfl rfl dL_law_2482 ?_
    refine k_aload_n C (f := 0) (i := 0) (p := 0) rfl rfl dL_law_2483 ?_
    refine k_iload C (i := 4) (p := 4) rfl dL_law_2484 ?_
    refine k_iconst C ic_1 dL_law_2486 ?_
    refine k_iadd C dL_law_2487 ?_
    refine k_sld C S hL (nI_add (6 * c) 1) (by omega) dL_law_2488 ?_
    refine k_if_eq C (tgt := 2496) (by decide) dL_law_2489 (fun h3 => ?_) (fun h3 => ?_)
    · skip
      refine k_iconst C ic_0 dL_law_2496 ?_
      refine k_callVg C s_L_336 h_X6_setStopping (L6_s hy) rfl (ct_X6_setStopping (b := nI 0) hy hM1 hO.1 (show nI 0 = 0 ∨ nI 0 = 1 from by decide)) rfl rfl (Nat.le_of_ble_eq_true rfl) ⟨Nat.le_of_ble_eq_true rfl, Nat.le_of_ble_eq_true rfl⟩ (show k + 0 ≤ 601024 ∧ n + 0 ≤ 7293034 by omega) ⟨rfl, rfl⟩ dL_law_2497 ?_
      intro v I2 hv
      obtain ⟨⟨bb, rfl⟩, h10, hF, hN, -⟩ := hv
      obtain ⟨hb, hM2⟩ := hN rfl
      exact k_icmp_eq C (tgt := 2922) (by decide) dL_law_2500 (fun _ => kk _ _ k n (LInv_c (cd := 0) (tb := tb) (n := n0) (w := w) hxy hF (fun _ => hR1) (fun h => absurd rfl h) (fun _ => hM2) (fun h => absurd rfl h) (fun _ => hO.to (RU_stop hO.1 (show nI 0 = 0 ∨ nI 0 = 1 from by decide))) hO) (by omega) (by omega)) (fun h => absurd (Value.int.inj (Option.some.inj hb)).symm h)
    · skip
      exact absurd h0 h3
  · skip
    refine k_iconst C ic_1 dL_law_2474 ?_
    refine k_goto C (tgt := 2479) (by decide) dL_law_2475 ?_
    refine k_callV C s_L_332 h_X5_setStopping (L5_s hx) rfl (ct_X5_setStopping (b := nI 1) hx hR hO.1 (show nI 1 = 0 ∨ nI 1 = 1 from by decide)) rfl rfl (Nat.le_of_ble_eq_true rfl) ⟨Nat.le_of_ble_eq_true rfl, Nat.le_of_ble_eq_true rfl⟩ (show k + 0 ≤ 601024 ∧ n + 0 ≤ 7293034 by omega) dL_law_2479 (fun v Λ1 I1 J1 hv => ?_) (fun _ _ _ _ h => h.elim)
    obtain ⟨rfl, -, rfl, rfl, hR1, hf1⟩ := hv
    have hM1 := MM_out hM hf1 hxy
    refine k_aload_n C (f := 2) (i := 2) (p := 2) rfl rfl dL_law_2482 ?_
    refine k_aload_n C (f := 0) (i := 0) (p := 0) rfl rfl dL_law_2483 ?_
    refine k_iload C (i := 4) (p := 4) rfl dL_law_2484 ?_
    refine k_iconst C ic_1 dL_law_2486 ?_
    refine k_iadd C dL_law_2487 ?_
    refine k_sld C S hL (nI_add (6 * c) 1) (by omega) dL_law_2488 ?_
    refine k_if_eq C (tgt := 2496) (by decide) dL_law_2489 (fun h3 => ?_) (fun h3 => ?_)
    · skip
      exact absurd h3 h0
    · skip
      refine k_iconst C ic_1 dL_law_2492 ?_
      refine k_goto C (tgt := 2497) (by decide) dL_law_2493 ?_
      refine k_callVg C s_L_336 h_X6_setStopping (L6_s hy) rfl (ct_X6_setStopping (b := nI 1) hy hM1 hO.1 (show nI 1 = 0 ∨ nI 1 = 1 from by decide)) rfl rfl (Nat.le_of_ble_eq_true rfl) ⟨Nat.le_of_ble_eq_true rfl, Nat.le_of_ble_eq_true rfl⟩ (show k + 0 ≤ 601024 ∧ n + 0 ≤ 7293034 by omega) ⟨rfl, rfl⟩ dL_law_2497 ?_
      intro v I2 hv
      obtain ⟨⟨bb, rfl⟩, h10, hF, hN, -⟩ := hv
      obtain ⟨hb, hM2⟩ := hN rfl
      exact k_icmp_eq C (tgt := 2922) (by decide) dL_law_2500 (fun _ => kk _ _ k n (LInv_c (cd := 0) (tb := tb) (n := n0) (w := w) hxy hF (fun _ => hR1) (fun h => absurd rfl h) (fun _ => hM2) (fun h => absurd rfl h) (fun _ => hO.to (RU_stop hO.1 (show nI 1 = 0 ∨ nI 1 = 1 from by decide))) hO) (by omega) (by omega)) (fun h => absurd (Value.int.inj (Option.some.inj hb)).symm h)
set_option maxHeartbeats 4000000 in
set_option maxRecDepth 100000 in
theorem lw_c52 {G : am_G} {X : am_X} {tz : List ExceptionTableEntry} {Q : State → Prop} {Λ : am_L} {I : am_I} {J : am_J} {k n b x y o c L : Nat} {xs : Nat → Int32} (C : am_Cx G X RL cL_law 9 (some .boolean) tz Q) (S : LSc G X b L xs) (hL : L ≤ 3072) (hc : 6 * c + 6 ≤ L) (D : LL Λ x y o) (V : LInv I x y) (hk : k + 8 ≤ 601024 ∧ n + 40 ≤ 7293034) (kk : ∀ (I' : am_I) (J' : am_J) (k' n' : Nat), LInv I' x y → k' ≤ k + 8 → n' ≤ n + 40 → am_K G X room_1 9 Λ I' J' k' n' 2922 (lw_LS b x y o c) []) : am_K G X room_1 9 Λ I J k n 2505 (lw_LS b x y o c) [] := by
  obtain ⟨hx, hy, ho, hxy, hyo⟩ := D
  obtain ⟨tb, n0, err, r, ct, hs, kp, sn, w, hR, hM, hO⟩ := V
  refine k_aload_n C (f := 1) (i := 1) (p := 1) rfl rfl dL_law_2505 ?_
  refine k_aload_n C (f := 0) (i := 0) (p := 0) rfl rfl dL_law_2506 ?_
  refine k_iload C (i := 4) (p := 4) rfl dL_law_2507 ?_
  refine k_iconst C ic_1 dL_law_2509 ?_
  refine k_iadd C dL_law_2510 ?_
  refine k_sld C S hL (nI_add (6 * c) 1) (by omega) dL_law_2511 ?_
  refine k_aload_n C (f := 0) (i := 0) (p := 0) rfl rfl dL_law_2512 ?_
  refine k_iload C (i := 4) (p := 4) rfl dL_law_2513 ?_
  refine k_iconst C ic_2 dL_law_2515 ?_
  refine k_iadd C dL_law_2516 ?_
  refine k_sld C S hL (nI_add (6 * c) 2) (by omega) dL_law_2517 ?_
  refine k_aload_n C (f := 3) (i := 3) (p := 3) rfl rfl dL_law_2518 ?_
  refine k_callSH C s_L_337 h_L_putOn (ct_L_putOn hx hR hO.1 ho) rfl rfl (Nat.le_of_ble_eq_true rfl) ⟨Nat.le_of_ble_eq_true rfl, Nat.le_of_ble_eq_true rfl⟩ (show k + 5 ≤ 601024 ∧ n + 30 ≤ 7293034 by omega) dL_law_2519 (fun v Λ1 I1 J1 hv => ?_) (fun _ _ _ _ h => h.elim)
  obtain ⟨rfl, rfl, hJ1, hA, hB⟩ := hv
  have hf1 : RFr x I I1 := Classical.byCases (fun q => (hA q).2.2) (fun q => by rw [hB q]; exact fun _ _ => rfl)
  have hM1 := MM_out hM hf1 hxy
  refine k_istore C (i := 5) (lv := (5, _) :: lw_LS b x y o c) (Nat.le_of_ble_eq_true rfl) rfl dL_law_2522 ?_
  refine k_aload_n C (f := 2) (i := 2) (p := 3) rfl rfl dL_law_2524 ?_
  refine k_aload_n C (f := 0) (i := 0) (p := 1) rfl rfl dL_law_2525 ?_
  refine k_iload C (i := 4) (p := 5) rfl dL_law_2526 ?_
  refine k_iconst C ic_1 dL_law_2528 ?_
  refine k_iadd C dL_law_2529 ?_
  refine k_sld C S hL (nI_add (6 * c) 1) (by omega) dL_law_2530 ?_
  refine k_aload_n C (f := 0) (i := 0) (p := 1) rfl rfl dL_law_2531 ?_
  refine k_iload C (i := 4) (p := 5) rfl dL_law_2532 ?_
  refine k_iconst C ic_2 dL_law_2534 ?_
  refine k_iadd C dL_law_2535 ?_
  refine k_sld C S hL (nI_add (6 * c) 2) (by omega) dL_law_2536 ?_
  refine k_callVg C s_L_340 h_X6_putOn (L6_s hy) rfl (ct_X6_putOn hy hM1 hO.1) rfl rfl (Nat.le_of_ble_eq_true rfl) ⟨Nat.le_of_ble_eq_true rfl, Nat.le_of_ble_eq_true rfl⟩ (show k + 5 ≤ 601024 ∧ n + 30 ≤ 7293034 by omega) ⟨rfl, rfl⟩ dL_law_2537 ?_
  intro v I2 hv
  obtain ⟨⟨bb, rfl⟩, h10, hF, hN, hD⟩ := hv
  refine k_istore C (i := 6) (lv := (6, _) :: (5, _) :: lw_LS b x y o c) (Nat.le_of_ble_eq_true rfl) rfl dL_law_2540 ?_
  have hcd : _ < 2 ^ 31 := lw_of hA (by
    repeat' refine lw_lt ?_ ?_
    all_goals decide)
  exact lw_tail (k := k + 5) (n := n + 30) C hy ho h10 hcd (fun q => (hA q).1.trans (congrArg Int32.toInt64 (Value.int.inj (Option.some.inj (hN q).1)).symm)) dL_law_2542 dL_law_2543 dL_law_2546 dL_law_2548 dL_law_2553 dL_law_2555 dL_law_2558 dL_law_2559 dL_law_2560 dL_law_2561 dL_law_2563 dL_law_2564 dL_law_2565 dL_law_2570 (by decide) (show k + 5 ≤ 601024 ∧ n + 30 ≤ 7293034 by omega) (kk _ _ (k + 5) (n + 30) (LInv_c hxy hF (fun q => rr_put hO.1 q (hA q).2.1) (fun q => by rw [hB q]; exact hR) (fun q => (hN q).2) hD (lo_put hO) hO) (by omega) (by omega))
set_option maxHeartbeats 4000000 in
set_option maxRecDepth 100000 in
theorem lw_c53 {G : am_G} {X : am_X} {tz : List ExceptionTableEntry} {Q : State → Prop} {Λ : am_L} {I : am_I} {J : am_J} {k n b x y o c L : Nat} {xs : Nat → Int32} (C : am_Cx G X RL cL_law 9 (some .boolean) tz Q) (S : LSc G X b L xs) (hL : L ≤ 3072) (hc : 6 * c + 6 ≤ L) (D : LL Λ x y o) (V : LInv I x y) (hk : k + 8 ≤ 601024 ∧ n + 40 ≤ 7293034) (kk : ∀ (I' : am_I) (J' : am_J) (k' n' : Nat), LInv I' x y → k' ≤ k + 8 → n' ≤ n + 40 → am_K G X room_1 9 Λ I' J' k' n' 2922 (lw_LS b x y o c) []) : am_K G X room_1 9 Λ I J k n 2573 (lw_LS b x y o c) [] := by
  obtain ⟨hx, hy, ho, hxy, hyo⟩ := D
  obtain ⟨tb, n0, err, r, ct, hs, kp, sn, w, hR, hM, hO⟩ := V
  refine k_aload_n C (f := 1) (i := 1) (p := 1) rfl rfl dL_law_2573 ?_
  refine k_aload_n C (f := 0) (i := 0) (p := 0) rfl rfl dL_law_2574 ?_
  refine k_iload C (i := 4) (p := 4) rfl dL_law_2575 ?_
  refine k_iconst C ic_1 dL_law_2577 ?_
  refine k_iadd C dL_law_2578 ?_
  refine k_sld C S hL (nI_add (6 * c) 1) (by omega) dL_law_2579 ?_
  refine k_aload_n C (f := 3) (i := 3) (p := 3) rfl rfl dL_law_2580 ?_
  refine k_callSH C s_L_341 h_L_takeOff (ct_L_takeOff hx hR hO.1 ho) rfl rfl (Nat.le_of_ble_eq_true rfl) ⟨Nat.le_of_ble_eq_true rfl, Nat.le_of_ble_eq_true rfl⟩ (show k + 2 ≤ 601024 ∧ n + 12 ≤ 7293034 by omega) dL_law_2581 (fun v Λ1 I1 J1 hv => ?_) (fun _ _ _ _ h => h.elim)
  obtain ⟨rfl, rfl, hJ1, hA, hB⟩ := hv
  have hf1 : RFr x I I1 := Classical.byCases (fun q => (hA q).2.2) (fun q => by rw [hB q]; exact fun _ _ => rfl)
  have hM1 := MM_out hM hf1 hxy
  refine k_istore C (i := 5) (lv := (5, _) :: lw_LS b x y o c) (Nat.le_of_ble_eq_true rfl) rfl dL_law_2584 ?_
  refine k_aload_n C (f := 2) (i := 2) (p := 3) rfl rfl dL_law_2586 ?_
  refine k_aload_n C (f := 0) (i := 0) (p := 1) rfl rfl dL_law_2587 ?_
  refine k_iload C (i := 4) (p := 5) rfl dL_law_2588 ?_
  refine k_iconst C ic_1 dL_law_2590 ?_
  refine k_iadd C dL_law_2591 ?_
  refine k_sld C S hL (nI_add (6 * c) 1) (by omega) dL_law_2592 ?_
  refine k_callVg C s_L_343 h_X6_takeOff (L6_s hy) rfl (ct_X6_takeOff hy hM1 hO.1) rfl rfl (Nat.le_of_ble_eq_true rfl) ⟨Nat.le_of_ble_eq_true rfl, Nat.le_of_ble_eq_true rfl⟩ (show k + 2 ≤ 601024 ∧ n + 12 ≤ 7293034 by omega) ⟨rfl, rfl⟩ dL_law_2593 ?_
  intro v I2 hv
  obtain ⟨⟨bb, rfl⟩, h10, hF, hN, hD⟩ := hv
  refine k_istore C (i := 6) (lv := (6, _) :: (5, _) :: lw_LS b x y o c) (Nat.le_of_ble_eq_true rfl) rfl dL_law_2596 ?_
  have hcd : _ < 2 ^ 31 := lw_of hA (by
    repeat' refine lw_lt ?_ ?_
    all_goals decide)
  exact lw_tail (k := k + 2) (n := n + 12) C hy ho h10 hcd (fun q => (hA q).1.trans (congrArg Int32.toInt64 (Value.int.inj (Option.some.inj (hN q).1)).symm)) dL_law_2598 dL_law_2599 dL_law_2602 dL_law_2604 dL_law_2609 dL_law_2611 dL_law_2614 dL_law_2615 dL_law_2616 dL_law_2617 dL_law_2619 dL_law_2620 dL_law_2621 dL_law_2626 (by decide) (show k + 2 ≤ 601024 ∧ n + 12 ≤ 7293034 by omega) (kk _ _ (k + 2) (n + 12) (LInv_c hxy hF (fun q => (hA q).2.1) (fun q => by rw [hB q]; exact hR) (fun q => (hN q).2) hD (lo_take hO) hO) (by omega) (by omega))
set_option maxHeartbeats 4000000 in
set_option maxRecDepth 100000 in
theorem lw_c54 {G : am_G} {X : am_X} {tz : List ExceptionTableEntry} {Q : State → Prop} {Λ : am_L} {I : am_I} {J : am_J} {k n b x y o c L : Nat} {xs : Nat → Int32} (C : am_Cx G X RL cL_law 9 (some .boolean) tz Q) (S : LSc G X b L xs) (hL : L ≤ 3072) (hc : 6 * c + 6 ≤ L) (D : LL Λ x y o) (V : LInv I x y) (hk : k + 8 ≤ 601024 ∧ n + 40 ≤ 7293034) (kk : ∀ (I' : am_I) (J' : am_J) (k' n' : Nat), LInv I' x y → k' ≤ k + 8 → n' ≤ n + 40 → am_K G X room_1 9 Λ I' J' k' n' 2922 (lw_LS b x y o c) []) : am_K G X room_1 9 Λ I J k n 2629 (lw_LS b x y o c) [] := by
  obtain ⟨hx, hy, ho, hxy, hyo⟩ := D
  obtain ⟨tb, n0, err, r, ct, hs, kp, sn, w, hR, hM, hO⟩ := V
  refine k_aload_n C (f := 1) (i := 1) (p := 1) rfl rfl dL_law_2629 ?_
  refine k_aload_n C (f := 0) (i := 0) (p := 0) rfl rfl dL_law_2630 ?_
  refine k_iload C (i := 4) (p := 4) rfl dL_law_2631 ?_
  refine k_iconst C ic_1 dL_law_2633 ?_
  refine k_iadd C dL_law_2634 ?_
  refine k_sld C S hL (nI_add (6 * c) 1) (by omega) dL_law_2635 ?_
  refine k_aload_n C (f := 0) (i := 0) (p := 0) rfl rfl dL_law_2636 ?_
  refine k_iload C (i := 4) (p := 4) rfl dL_law_2637 ?_
  refine k_iconst C ic_2 dL_law_2639 ?_
  refine k_iadd C dL_law_2640 ?_
  refine k_sld C S hL (nI_add (6 * c) 2) (by omega) dL_law_2641 ?_
  refine k_aload_n C (f := 3) (i := 3) (p := 3) rfl rfl dL_law_2642 ?_
  refine k_callSH C s_L_344 h_L_addLoad (ct_L_addLoad hx hR hO.1 ho) rfl rfl (Nat.le_of_ble_eq_true rfl) ⟨Nat.le_of_ble_eq_true rfl, Nat.le_of_ble_eq_true rfl⟩ (show k + 2 ≤ 601024 ∧ n + 12 ≤ 7293034 by omega) dL_law_2643 (fun v Λ1 I1 J1 hv => ?_) (fun _ _ _ _ h => h.elim)
  obtain ⟨rfl, rfl, hJ1, hA, hB⟩ := hv
  have hf1 : RFr x I I1 := Classical.byCases (fun q => (hA q).2.2) (fun q => by rw [hB q]; exact fun _ _ => rfl)
  have hM1 := MM_out hM hf1 hxy
  refine k_istore C (i := 5) (lv := (5, _) :: lw_LS b x y o c) (Nat.le_of_ble_eq_true rfl) rfl dL_law_2646 ?_
  refine k_aload_n C (f := 2) (i := 2) (p := 3) rfl rfl dL_law_2648 ?_
  refine k_aload_n C (f := 0) (i := 0) (p := 1) rfl rfl dL_law_2649 ?_
  refine k_iload C (i := 4) (p := 5) rfl dL_law_2650 ?_
  refine k_iconst C ic_1 dL_law_2652 ?_
  refine k_iadd C dL_law_2653 ?_
  refine k_sld C S hL (nI_add (6 * c) 1) (by omega) dL_law_2654 ?_
  refine k_aload_n C (f := 0) (i := 0) (p := 1) rfl rfl dL_law_2655 ?_
  refine k_iload C (i := 4) (p := 5) rfl dL_law_2656 ?_
  refine k_iconst C ic_2 dL_law_2658 ?_
  refine k_iadd C dL_law_2659 ?_
  refine k_sld C S hL (nI_add (6 * c) 2) (by omega) dL_law_2660 ?_
  refine k_callVg C s_L_346 h_X6_addLoad (L6_s hy) rfl (ct_X6_addLoad hy hM1 hO.1) rfl rfl (Nat.le_of_ble_eq_true rfl) ⟨Nat.le_of_ble_eq_true rfl, Nat.le_of_ble_eq_true rfl⟩ (show k + 2 ≤ 601024 ∧ n + 12 ≤ 7293034 by omega) ⟨rfl, rfl⟩ dL_law_2661 ?_
  intro v I2 hv
  obtain ⟨⟨bb, rfl⟩, h10, hF, hN, hD⟩ := hv
  refine k_istore C (i := 6) (lv := (6, _) :: (5, _) :: lw_LS b x y o c) (Nat.le_of_ble_eq_true rfl) rfl dL_law_2664 ?_
  have hcd : _ < 2 ^ 31 := lw_of hA (by
    repeat' refine lw_lt ?_ ?_
    all_goals decide)
  exact lw_tail (k := k + 2) (n := n + 12) C hy ho h10 hcd (fun q => (hA q).1.trans (congrArg Int32.toInt64 (Value.int.inj (Option.some.inj (hN q).1)).symm)) dL_law_2666 dL_law_2667 dL_law_2670 dL_law_2672 dL_law_2677 dL_law_2679 dL_law_2682 dL_law_2683 dL_law_2684 dL_law_2685 dL_law_2687 dL_law_2688 dL_law_2689 dL_law_2694 (by decide) (show k + 2 ≤ 601024 ∧ n + 12 ≤ 7293034 by omega) (kk _ _ (k + 2) (n + 12) (LInv_c hxy hF (fun q => (hA q).2.1) (fun q => by rw [hB q]; exact hR) (fun q => (hN q).2) hD (lo_bring hO) hO) (by omega) (by omega))
set_option maxHeartbeats 4000000 in
set_option maxRecDepth 100000 in
theorem lw_c55 {G : am_G} {X : am_X} {tz : List ExceptionTableEntry} {Q : State → Prop} {Λ : am_L} {I : am_I} {J : am_J} {k n b x y o c L : Nat} {xs : Nat → Int32} (C : am_Cx G X RL cL_law 9 (some .boolean) tz Q) (S : LSc G X b L xs) (hL : L ≤ 3072) (hc : 6 * c + 6 ≤ L) (D : LL Λ x y o) (V : LInv I x y) (hk : k + 8 ≤ 601024 ∧ n + 40 ≤ 7293034) (kk : ∀ (I' : am_I) (J' : am_J) (k' n' : Nat), LInv I' x y → k' ≤ k + 8 → n' ≤ n + 40 → am_K G X room_1 9 Λ I' J' k' n' 2922 (lw_LS b x y o c) []) : am_K G X room_1 9 Λ I J k n 2697 (lw_LS b x y o c) [] := by
  obtain ⟨hx, hy, ho, hxy, hyo⟩ := D
  obtain ⟨tb, n0, err, r, ct, hs, kp, sn, w, hR, hM, hO⟩ := V
  refine k_aload_n C (f := 1) (i := 1) (p := 1) rfl rfl dL_law_2697 ?_
  refine k_aload_n C (f := 3) (i := 3) (p := 3) rfl rfl dL_law_2698 ?_
  refine k_callSH C s_L_347 h_L_undo (ct_L_undo hx hR hO.1 ho) rfl rfl (Nat.le_of_ble_eq_true rfl) ⟨Nat.le_of_ble_eq_true rfl, Nat.le_of_ble_eq_true rfl⟩ (show k + 1 ≤ 601024 ∧ n + 6 ≤ 7293034 by omega) dL_law_2699 (fun v Λ1 I1 J1 hv => ?_) (fun _ _ _ _ h => h.elim)
  obtain ⟨rfl, rfl, hJ1, hA, hB⟩ := hv
  have hf1 : RFr x I I1 := Classical.byCases (fun q => (hA q).2.2) (fun q => by rw [hB q]; exact fun _ _ => rfl)
  have hM1 := MM_out hM hf1 hxy
  refine k_istore C (i := 5) (lv := (5, _) :: lw_LS b x y o c) (Nat.le_of_ble_eq_true rfl) rfl dL_law_2702 ?_
  refine k_aload_n C (f := 2) (i := 2) (p := 3) rfl rfl dL_law_2704 ?_
  refine k_callVg C s_L_349 h_X6_undo (L6_s hy) rfl (ct_X6_undo hy hM1 hO.1) rfl rfl (Nat.le_of_ble_eq_true rfl) ⟨Nat.le_of_ble_eq_true rfl, Nat.le_of_ble_eq_true rfl⟩ (show k + 1 ≤ 601024 ∧ n + 6 ≤ 7293034 by omega) ⟨rfl, rfl⟩ dL_law_2705 ?_
  intro v I2 hv
  obtain ⟨⟨bb, rfl⟩, h10, hF, hN, hD⟩ := hv
  refine k_istore C (i := 6) (lv := (6, _) :: (5, _) :: lw_LS b x y o c) (Nat.le_of_ble_eq_true rfl) rfl dL_law_2708 ?_
  have hcd : _ < 2 ^ 31 := lw_of hA (by
    repeat' refine lw_lt ?_ ?_
    all_goals decide)
  exact lw_tail (k := k + 1) (n := n + 6) C hy ho h10 hcd (fun q => (hA q).1.trans (congrArg Int32.toInt64 (Value.int.inj (Option.some.inj (hN q).1)).symm)) dL_law_2710 dL_law_2711 dL_law_2714 dL_law_2716 dL_law_2721 dL_law_2723 dL_law_2726 dL_law_2727 dL_law_2728 dL_law_2729 dL_law_2731 dL_law_2732 dL_law_2733 dL_law_2738 (by decide) (show k + 1 ≤ 601024 ∧ n + 6 ≤ 7293034 by omega) (kk _ _ (k + 1) (n + 6) (LInv_c hxy hF (fun q => (hA q).2.1) (fun q => by rw [hB q]; exact hR) (fun q => (hN q).2) hD (lo_undo hO) hO) (by omega) (by omega))
set_option maxHeartbeats 4000000 in
set_option maxRecDepth 100000 in
theorem lw_c56 {G : am_G} {X : am_X} {tz : List ExceptionTableEntry} {Q : State → Prop} {Λ : am_L} {I : am_I} {J : am_J} {k n b x y o c L : Nat} {xs : Nat → Int32} (C : am_Cx G X RL cL_law 9 (some .boolean) tz Q) (S : LSc G X b L xs) (hL : L ≤ 3072) (hc : 6 * c + 6 ≤ L) (D : LL Λ x y o) (V : LInv I x y) (hk : k + 8 ≤ 601024 ∧ n + 40 ≤ 7293034) (kk : ∀ (I' : am_I) (J' : am_J) (k' n' : Nat), LInv I' x y → k' ≤ k + 8 → n' ≤ n + 40 → am_K G X room_1 9 Λ I' J' k' n' 2922 (lw_LS b x y o c) []) : am_K G X room_1 9 Λ I J k n 2741 (lw_LS b x y o c) [] := by
  obtain ⟨hx, hy, ho, hxy, hyo⟩ := D
  obtain ⟨tb, n0, err, r, ct, hs, kp, sn, w, hR, hM, hO⟩ := V
  refine k_aload_n C (f := 1) (i := 1) (p := 1) rfl rfl dL_law_2741 ?_
  refine k_aload_n C (f := 0) (i := 0) (p := 0) rfl rfl dL_law_2742 ?_
  refine k_iload C (i := 4) (p := 4) rfl dL_law_2743 ?_
  refine k_iconst C ic_1 dL_law_2745 ?_
  refine k_iadd C dL_law_2746 ?_
  refine k_sld C S hL (nI_add (6 * c) 1) (by omega) dL_law_2747 ?_
  refine k_aload_n C (f := 3) (i := 3) (p := 3) rfl rfl dL_law_2748 ?_
  refine k_callSH C s_L_350 h_L_saveSnapshot (ct_L_saveSnapshot hx hR hO.1 ho) rfl rfl (Nat.le_of_ble_eq_true rfl) ⟨Nat.le_of_ble_eq_true rfl, Nat.le_of_ble_eq_true rfl⟩ (show k + 1 ≤ 601024 ∧ n + 6 ≤ 7293034 by omega) dL_law_2749 (fun v Λ1 I1 J1 hv => ?_) (fun _ _ _ _ h => h.elim)
  obtain ⟨rfl, rfl, hJ1, hA, hB⟩ := hv
  have hf1 : RFr x I I1 := Classical.byCases (fun q => (hA q).2.2) (fun q => by rw [hB q]; exact fun _ _ => rfl)
  have hM1 := MM_out hM hf1 hxy
  refine k_istore C (i := 5) (lv := (5, _) :: lw_LS b x y o c) (Nat.le_of_ble_eq_true rfl) rfl dL_law_2752 ?_
  refine k_aload_n C (f := 2) (i := 2) (p := 3) rfl rfl dL_law_2754 ?_
  refine k_aload_n C (f := 0) (i := 0) (p := 1) rfl rfl dL_law_2755 ?_
  refine k_iload C (i := 4) (p := 5) rfl dL_law_2756 ?_
  refine k_iconst C ic_1 dL_law_2758 ?_
  refine k_iadd C dL_law_2759 ?_
  refine k_sld C S hL (nI_add (6 * c) 1) (by omega) dL_law_2760 ?_
  refine k_callVg C s_L_352 h_X6_saveSnapshot (L6_s hy) rfl (ct_X6_saveSnapshot hy hM1 hO.1) rfl rfl (Nat.le_of_ble_eq_true rfl) ⟨Nat.le_of_ble_eq_true rfl, Nat.le_of_ble_eq_true rfl⟩ (show k + 1 ≤ 601024 ∧ n + 6 ≤ 7293034 by omega) ⟨rfl, rfl⟩ dL_law_2761 ?_
  intro v I2 hv
  obtain ⟨⟨bb, rfl⟩, h10, hF, hN, hD⟩ := hv
  refine k_istore C (i := 6) (lv := (6, _) :: (5, _) :: lw_LS b x y o c) (Nat.le_of_ble_eq_true rfl) rfl dL_law_2764 ?_
  have hcd : _ < 2 ^ 31 := lw_of hA (by
    repeat' refine lw_lt ?_ ?_
    all_goals decide)
  exact lw_tail (k := k + 1) (n := n + 6) C hy ho h10 hcd (fun q => (hA q).1.trans (congrArg Int32.toInt64 (Value.int.inj (Option.some.inj (hN q).1)).symm)) dL_law_2766 dL_law_2767 dL_law_2770 dL_law_2772 dL_law_2777 dL_law_2779 dL_law_2782 dL_law_2783 dL_law_2784 dL_law_2785 dL_law_2787 dL_law_2788 dL_law_2789 dL_law_2794 (by decide) (show k + 1 ≤ 601024 ∧ n + 6 ≤ 7293034 by omega) (kk _ _ (k + 1) (n + 6) (LInv_c hxy hF (fun q => (hA q).2.1) (fun q => by rw [hB q]; exact hR) (fun q => (hN q).2) hD (fun _ => lo_save hO) hO) (by omega) (by omega))
set_option maxHeartbeats 4000000 in
set_option maxRecDepth 100000 in
theorem lw_c57 {G : am_G} {X : am_X} {tz : List ExceptionTableEntry} {Q : State → Prop} {Λ : am_L} {I : am_I} {J : am_J} {k n b x y o c L : Nat} {xs : Nat → Int32} (C : am_Cx G X RL cL_law 9 (some .boolean) tz Q) (S : LSc G X b L xs) (hL : L ≤ 3072) (hc : 6 * c + 6 ≤ L) (D : LL Λ x y o) (V : LInv I x y) (hk : k + 8 ≤ 601024 ∧ n + 40 ≤ 7293034) (kk : ∀ (I' : am_I) (J' : am_J) (k' n' : Nat), LInv I' x y → k' ≤ k + 8 → n' ≤ n + 40 → am_K G X room_1 9 Λ I' J' k' n' 2922 (lw_LS b x y o c) []) : am_K G X room_1 9 Λ I J k n 2797 (lw_LS b x y o c) [] := by
  obtain ⟨hx, hy, ho, hxy, hyo⟩ := D
  obtain ⟨tb, n0, err, r, ct, hs, kp, sn, w, hR, hM, hO⟩ := V
  refine k_aload_n C (f := 1) (i := 1) (p := 1) rfl rfl dL_law_2797 ?_
  refine k_aload_n C (f := 0) (i := 0) (p := 0) rfl rfl dL_law_2798 ?_
  refine k_iload C (i := 4) (p := 4) rfl dL_law_2799 ?_
  refine k_iconst C ic_1 dL_law_2801 ?_
  refine k_iadd C dL_law_2802 ?_
  refine k_sld C S hL (nI_add (6 * c) 1) (by omega) dL_law_2803 ?_
  refine k_aload_n C (f := 3) (i := 3) (p := 3) rfl rfl dL_law_2804 ?_
  refine k_callSH C s_L_353 h_L_restoreSnapshot (ct_L_restoreSnapshot hx hR hO.1 ho) rfl rfl (Nat.le_of_ble_eq_true rfl) ⟨Nat.le_of_ble_eq_true rfl, Nat.le_of_ble_eq_true rfl⟩ (show k + 2 ≤ 601024 ∧ n + 12 ≤ 7293034 by omega) dL_law_2805 (fun v Λ1 I1 J1 hv => ?_) (fun _ _ _ _ h => h.elim)
  obtain ⟨rfl, rfl, hJ1, hA, hB⟩ := hv
  have hf1 : RFr x I I1 := Classical.byCases (fun q => (hA q).2.2) (fun q => by rw [hB q]; exact fun _ _ => rfl)
  have hM1 := MM_out hM hf1 hxy
  refine k_istore C (i := 5) (lv := (5, _) :: lw_LS b x y o c) (Nat.le_of_ble_eq_true rfl) rfl dL_law_2808 ?_
  refine k_aload_n C (f := 2) (i := 2) (p := 3) rfl rfl dL_law_2810 ?_
  refine k_aload_n C (f := 0) (i := 0) (p := 1) rfl rfl dL_law_2811 ?_
  refine k_iload C (i := 4) (p := 5) rfl dL_law_2812 ?_
  refine k_iconst C ic_1 dL_law_2814 ?_
  refine k_iadd C dL_law_2815 ?_
  refine k_sld C S hL (nI_add (6 * c) 1) (by omega) dL_law_2816 ?_
  refine k_callVg C s_L_355 h_X6_restoreSnapshot (L6_s hy) rfl (ct_X6_restoreSnapshot hy hM1 hO.1) rfl rfl (Nat.le_of_ble_eq_true rfl) ⟨Nat.le_of_ble_eq_true rfl, Nat.le_of_ble_eq_true rfl⟩ (show k + 2 ≤ 601024 ∧ n + 12 ≤ 7293034 by omega) ⟨rfl, rfl⟩ dL_law_2817 ?_
  intro v I2 hv
  obtain ⟨⟨bb, rfl⟩, h10, hF, hN, hD⟩ := hv
  refine k_istore C (i := 6) (lv := (6, _) :: (5, _) :: lw_LS b x y o c) (Nat.le_of_ble_eq_true rfl) rfl dL_law_2820 ?_
  have hcd : _ < 2 ^ 31 := lw_of hA (by
    repeat' refine lw_lt ?_ ?_
    all_goals decide)
  exact lw_tail (k := k + 2) (n := n + 12) C hy ho h10 hcd (fun q => (hA q).1.trans (congrArg Int32.toInt64 (Value.int.inj (Option.some.inj (hN q).1)).symm)) dL_law_2822 dL_law_2823 dL_law_2826 dL_law_2828 dL_law_2833 dL_law_2835 dL_law_2838 dL_law_2839 dL_law_2840 dL_law_2841 dL_law_2843 dL_law_2844 dL_law_2845 dL_law_2850 (by decide) (show k + 2 ≤ 601024 ∧ n + 12 ≤ 7293034 by omega) (kk _ _ (k + 2) (n + 12) (LInv_c hxy hF (fun q => (hA q).2.1) (fun q => by rw [hB q]; exact hR) (fun q => (hN q).2) hD (lo_restore hO) hO) (by omega) (by omega))
set_option maxHeartbeats 4000000 in
set_option maxRecDepth 100000 in
theorem lw_c58 {G : am_G} {X : am_X} {tz : List ExceptionTableEntry} {Q : State → Prop} {Λ : am_L} {I : am_I} {J : am_J} {k n b x y o c L : Nat} {xs : Nat → Int32} (C : am_Cx G X RL cL_law 9 (some .boolean) tz Q) (S : LSc G X b L xs) (hL : L ≤ 3072) (hc : 6 * c + 6 ≤ L) (D : LL Λ x y o) (V : LInv I x y) (hk : k + 8 ≤ 601024 ∧ n + 40 ≤ 7293034) (kk : ∀ (I' : am_I) (J' : am_J) (k' n' : Nat), LInv I' x y → k' ≤ k + 8 → n' ≤ n + 40 → am_K G X room_1 9 Λ I' J' k' n' 2922 (lw_LS b x y o c) []) : am_K G X room_1 9 Λ I J k n 2853 (lw_LS b x y o c) [] := by
  obtain ⟨hx, hy, ho, hxy, hyo⟩ := D
  obtain ⟨tb, n0, err, r, ct, hs, kp, sn, w, hR, hM, hO⟩ := V
  refine k_aload_n C (f := 1) (i := 1) (p := 1) rfl rfl dL_law_2853 ?_
  have hM1 := hM
  refine k_callV C s_L_356 h_X5_writeCamels (L5_s hx) rfl (ct_X5_writeCamels hx hR hO.1) rfl rfl (Nat.le_of_ble_eq_true rfl) ⟨Nat.le_of_ble_eq_true rfl, Nat.le_of_ble_eq_true rfl⟩ (show k + 0 ≤ 601024 ∧ n + 0 ≤ 7293034 by omega) dL_law_2854 (fun v Λ1 I1 J1 hv => ?_) (fun _ _ _ _ h => h.elim)
  obtain ⟨rfl, -, rfl, rfl, hR1, hf1⟩ := hv
  have hM1 := MM_out hM hf1 hxy
  refine k_aload_n C (f := 2) (i := 2) (p := 2) rfl rfl dL_law_2857 ?_
  refine k_callVg C s_L_359 h_X6_writeCamels (L6_s hy) rfl (ct_X6_writeCamels hy hM1 hO.1) rfl rfl (Nat.le_of_ble_eq_true rfl) ⟨Nat.le_of_ble_eq_true rfl, Nat.le_of_ble_eq_true rfl⟩ (show k + 0 ≤ 601024 ∧ n + 0 ≤ 7293034 by omega) ⟨rfl, rfl⟩ dL_law_2858 ?_
  intro v I2 hv
  obtain ⟨⟨bb, rfl⟩, h10, hF, hN, -⟩ := hv
  obtain ⟨hb, hM2⟩ := hN rfl
  exact k_icmp_eq C (tgt := 2922) (by decide) dL_law_2861 (fun _ => kk _ _ k n (LInv_c (cd := 0) (tb := tb) (n := n0) (w := w) hxy hF (fun _ => hR1) (fun h => absurd rfl h) (fun _ => hM2) (fun h => absurd rfl h) (fun _ => hO) hO) (by omega) (by omega)) (fun h => absurd (Value.int.inj (Option.some.inj hb)).symm h)
set_option maxHeartbeats 4000000 in
set_option maxRecDepth 100000 in
theorem lw_c59 {G : am_G} {X : am_X} {tz : List ExceptionTableEntry} {Q : State → Prop} {Λ : am_L} {I : am_I} {J : am_J} {k n b x y o c L : Nat} {xs : Nat → Int32} (C : am_Cx G X RL cL_law 9 (some .boolean) tz Q) (S : LSc G X b L xs) (hL : L ≤ 3072) (hc : 6 * c + 6 ≤ L) (D : LL Λ x y o) (V : LInv I x y) (hk : k + 8 ≤ 601024 ∧ n + 40 ≤ 7293034) (kk : ∀ (I' : am_I) (J' : am_J) (k' n' : Nat), LInv I' x y → k' ≤ k + 8 → n' ≤ n + 40 → am_K G X room_1 9 Λ I' J' k' n' 2922 (lw_LS b x y o c) []) : am_K G X room_1 9 Λ I J k n 2866 (lw_LS b x y o c) [] := by
  obtain ⟨hx, hy, ho, hxy, hyo⟩ := D
  obtain ⟨tb, n0, err, r, ct, hs, kp, sn, w, hR, hM, hO⟩ := V
  refine k_aload_n C (f := 1) (i := 1) (p := 1) rfl rfl dL_law_2866 ?_
  refine k_aload_n C (f := 0) (i := 0) (p := 0) rfl rfl dL_law_2867 ?_
  refine k_iload C (i := 4) (p := 4) rfl dL_law_2868 ?_
  refine k_iconst C ic_1 dL_law_2870 ?_
  refine k_iadd C dL_law_2871 ?_
  refine k_sld C S hL (nI_add (6 * c) 1) (by omega) dL_law_2872 ?_
  refine k_aload_n C (f := 3) (i := 3) (p := 3) rfl rfl dL_law_2873 ?_
  refine k_callSH C s_L_360 h_L_writtenByte (ct_L_writtenByte hx ((RR_w hR).1) ((RR_w hR).2) ho) rfl rfl (Nat.le_of_ble_eq_true rfl) ⟨Nat.le_of_ble_eq_true rfl, Nat.le_of_ble_eq_true rfl⟩ (show k + 1 ≤ 601024 ∧ n + 6 ≤ 7293034 by omega) dL_law_2874 (fun v Λ1 I1 J1 hv => ?_) (fun _ _ _ _ h => h.elim)
  obtain ⟨rfl, rfl, hJ1, hA, hB⟩ := hv
  have e1 : I1 = I := Classical.byCases (fun q => (hA q).2) (fun q => hB q)
  subst e1
  have hM1 := hM
  refine k_istore C (i := 5) (lv := (5, _) :: lw_LS b x y o c) (Nat.le_of_ble_eq_true rfl) rfl dL_law_2877 ?_
  refine k_aload_n C (f := 2) (i := 2) (p := 3) rfl rfl dL_law_2879 ?_
  refine k_aload_n C (f := 0) (i := 0) (p := 1) rfl rfl dL_law_2880 ?_
  refine k_iload C (i := 4) (p := 5) rfl dL_law_2881 ?_
  refine k_iconst C ic_1 dL_law_2883 ?_
  refine k_iadd C dL_law_2884 ?_
  refine k_sld C S hL (nI_add (6 * c) 1) (by omega) dL_law_2885 ?_
  refine k_callVg C s_L_362 h_X6_writtenByte (L6_s hy) rfl (ct_X6_writtenByte hy (MM_r hM1) hO.1 (MM_w hM1)) rfl rfl (Nat.le_of_ble_eq_true rfl) ⟨Nat.le_of_ble_eq_true rfl, Nat.le_of_ble_eq_true rfl⟩ (show k + 1 ≤ 601024 ∧ n + 6 ≤ 7293034 by omega) ⟨rfl, rfl⟩ dL_law_2886 ?_
  intro v I2 hv
  obtain ⟨⟨bb, rfl⟩, hval, rfl⟩ := hv
  refine k_istore C (i := 6) (lv := (6, _) :: (5, _) :: lw_LS b x y o c) (Nat.le_of_ble_eq_true rfl) rfl dL_law_2889 ?_
  have hcd : _ < 2 ^ 31 := lw_of hA (by
    repeat' refine lw_lt ?_ ?_
    all_goals decide)
  exact lw_tail (k := k + 1) (n := n + 6) C hy ho am_up_eq hcd (fun q => (hA q).1.trans (congrArg Int32.toInt64 (Value.int.inj (Option.some.inj (hval q))).symm)) dL_law_2891 dL_law_2892 dL_law_2895 dL_law_2897 dL_law_2902 dL_law_2904 dL_law_2907 dL_law_2908 dL_law_2909 dL_law_2910 dL_law_2912 dL_law_2913 dL_law_2914 dL_law_2919 (by decide) (show k + 1 ≤ 601024 ∧ n + 6 ≤ 7293034 by omega) (kk _ _ (k + 1) (n + 6) (LInv_q hR hM hO hxy) (by omega) (by omega))
