/-! ===== the law: what a change leaves legal ===== -/
theorem lw_1_99 {a : Int32} (h1 : ¬ a < nI 1) (h2 : ¬ nI 99 < a) : ∃ m : Nat, a = nI m ∧ 1 ≤ m ∧ m ≤ 99 := by
  rw [Int32.lt_iff_toInt_lt, nI_toInt (by decide)] at h1 h2
  obtain ⟨j, hj, rfl⟩ := nI_of (x := a) (by rw [Int32.lt_iff_toInt_lt, show (0 : Int32).toInt = 0 from by decide]; omega)
  rw [nI_toInt hj] at h1 h2
  exact ⟨j, rfl, by omega, by omega⟩
section LOKS
variable {err : Int32} {r : Nat → Int32} {ct : Nat} {hs : Nat → Nat → Int32} {kp : Nat → Bool} {sn : Nat → Nat → Int32}
theorem lo_nc (h : RowOk r) : sp_nc r < 2 ^ 31 ∧ sp_nl r < 2 ^ 31 ∧ sp_nw r < 2 ^ 31 := by
  have := h.2.2.2.2.1
  omega
theorem lo_travel {ld : Nat} (h : LOk err r ct hs kp sn) (hl : ld < sp_nc r) (q : (if ¬ r 0 ≤ r 1 ∧ (r 2 < nI 200 ∧ 0 < sp_living r) then 0 else 1) = 0) : LOk err (sp_travel r ld) (min 8 (ct + 1)) (sp_push r hs) kp sn := h.to (rowok_travel h.1 hl (ite0 q (by decide)).2.1)
theorem lo_rest (h : LOk err r ct hs kp sn) (q : (if r 2 < nI 200 ∧ 0 < sp_living r then 0 else 1) = 0) : LOk err (sp_rest r) (min 8 (ct + 1)) (sp_push r hs) kp sn := h.to (rowok_restDay h.1 (ite0 q (by decide)).1)
theorem lo_lead {c : Int32} {P : Prop} [Decidable P] (h : LOk err r ct hs kp sn) (q : (if cdI (sp_nc r) c = 0 then (if P then 0 else 2) else 1) = 0) : LOk err (upd r 4 c) (min 8 (ct + 1)) (sp_push r hs) kp sn := by
  obtain ⟨j, hj, rfl⟩ := cdI_0 (ite1 q (by decide)).1 (lo_nc h.1).1
  exact h.to (RU_lead h.1 hj)
theorem lo_put {a c : Int32} {P : Prop} [Decidable P] (h : LOk err r ct hs kp sn) (q : (if cdI (sp_nl r) a = 0 ∧ cdI (sp_nc r) c = 0 then (if P then 0 else 2) else 1) = 0) : LOk err (sp_hang r a.toNatClampNeg c.toNatClampNeg) (min 8 (ct + 1)) (sp_push r hs) kp sn := by
  obtain ⟨q1, q2⟩ := (ite1 q (by decide)).1
  obtain ⟨i, hi, rfl⟩ := cdI_0 q1 (lo_nc h.1).2.1
  obtain ⟨j, hj, rfl⟩ := cdI_0 q2 (lo_nc h.1).1
  have := lo_nc h.1
  rw [nI_clamp (by omega), nI_clamp (by omega)]
  exact h.to (RU_car h.1 hi (Or.inr ⟨j, rfl, hj⟩))
theorem rr_put {I : am_I} {x n : Nat} {tb : Nat → Nat} {w : Nat × (Nat → Int32)} {a c : Int32} {P : Prop} [Decidable P] {ct' : Nat} {hs' : Nat → Nat → Int32} (h : RowOk r) (q : (if cdI (sp_nl r) a = 0 ∧ cdI (sp_nc r) c = 0 then (if P then 0 else 2) else 1) = 0) (hR : RouRel I x tb n err (sp_hang (sp_lay r a.toNatClampNeg) a.toNatClampNeg c.toNatClampNeg) ct' hs' kp sn w) : RouRel I x tb n err (sp_hang r a.toNatClampNeg c.toNatClampNeg) ct' hs' kp sn w := by
  obtain ⟨q1, q2⟩ := (ite1 q (by decide)).1
  obtain ⟨j, hj, e2⟩ := cdI_0 q2 (lo_nc h).1
  have := lo_nc h
  obtain ⟨a1, a2, a3, a4⟩ := hR
  rw [hang_lay] at a3
  exact ⟨a1, a2, CR_lies a3 (by unfold sp_hang; rw [upd_eq]; rw [e2, nI_clamp (by omega)]; exact nI_neg (by omega)), a4⟩
theorem lo_take {c : Int32} {P : Prop} [Decidable P] (h : LOk err r ct hs kp sn) (q : (if cdI (sp_nl r) c = 0 then (if P then 2 else 0) else 1) = 0) : LOk err (sp_lay r c.toNatClampNeg) (min 8 (ct + 1)) (sp_push r hs) kp sn := by
  obtain ⟨i, hi, rfl⟩ := cdI_0 (ite1 q (by decide)).1 (lo_nc h.1).2.1
  have := lo_nc h.1
  rw [nI_clamp (by omega)]
  exact h.to (rowok_lay h.1 hi)
theorem lo_bring {a b : Int32} (h : LOk err r ct hs kp sn) (q : (if (a < nI 1 ∨ nI 99 < a ∨ b < nI 1 ∨ nI 99 < b) then 1 else if 20 ≤ sp_nl r then 2 else 0) = 0) : LOk err (sp_bring r a b) (min 8 (ct + 1)) (sp_push r hs) kp sn := by
  obtain ⟨q1, q2⟩ := ite2 q (by decide)
  have q3 := (ite2 q2 (by decide)).1
  obtain ⟨i, rfl, hi⟩ := lw_1_99 (fun z => q1 (Or.inl z)) (fun z => q1 (Or.inr (Or.inl z)))
  exact h.to (rowok_bring h.1 (by omega) hi)
theorem lo_undo (h : LOk err r ct hs kp sn) (q : (if ct = 0 then 1 else 0) = 0) : LOk err (hs 0) (ct - 1) (fun s => hs (s + 1)) kp sn := by
  have q1 := (ite2 q (by decide)).1
  exact ⟨h.2.1 0 (by omega), fun s hs2 => h.2.1 (s + 1) (by omega), h.2.2⟩
theorem lo_save {m : Nat} (h : LOk err r ct hs kp sn) : LOk err r ct hs (fun i => if i = m then true else kp i) (fun i => if i = m then r else sn i) := by
  refine ⟨h.1, h.2.1, fun j hj hk => ?_, h.2.2.2⟩
  show RowOk (if j = m then r else sn j)
  by_cases e : j = m
  · rw [if_pos e]; exact h.1
  · rw [if_neg e]
    refine h.2.2.1 j hj ?_
    have hk2 : (if j = m then true else kp j) = true := hk
    rw [if_neg e] at hk2
    exact hk2
theorem lo_restore {c : Int32} (h : LOk err r ct hs kp sn) (q : (if cdI 2 c = 0 then (if kp c.toNatClampNeg = true then 0 else 2) else 1) = 0) : LOk err (sn c.toNatClampNeg) (min 8 (ct + 1)) (sp_push r hs) kp sn := by
  obtain ⟨q1, q2⟩ := ite1 q (by decide)
  have q3 := ite0 q2 (by decide)
  obtain ⟨i, hi, rfl⟩ := cdI_0 q1 (by decide)
  rw [nI_clamp (by omega)] at q3 ⊢
  exact h.to (h.2.2.1 i hi q3)
theorem lo_drink (h : LOk err r ct hs kp sn) (q : (if sp_wellOn r (r 1) = -1 then 1 else 0) = 0) : LOk err (sp_drink r (sp_drinks r (sp_wellOn r (r 1)).toNatClampNeg) (sp_wellOn r (r 1)).toNatClampNeg) (min 8 (ct + 1)) (sp_push r hs) kp sn := by
  have q1 := (ite2 q (by decide)).1
  rcases wellOn_or r (r 1) with e | ⟨j, e, hj⟩
  · exact absurd e q1
  · have := lo_nc h.1
    rw [e, nI_clamp (by omega)]
    exact h.to (rowok_drink h.1 hj)
end LOKS
theorem lw_of {cd : Nat} {P : Prop} (_ : cd = 0 → P) (h : cd < 2 ^ 31) : cd < 2 ^ 31 := h
set_option maxHeartbeats 4000000 in
set_option maxRecDepth 100000 in
theorem lw_c0 {G : am_G} {X : am_X} {tz : List ExceptionTableEntry} {Q : State → Prop} {Λ : am_L} {I : am_I} {J : am_J} {k n b x y o c L : Nat} {xs : Nat → Int32} (C : am_Cx G X RL cL_law 9 (some .boolean) tz Q) (S : LSc G X b L xs) (hL : L ≤ 3072) (hc : 6 * c + 6 ≤ L) (D : LL Λ x y o) (V : LInv I x y) (hk : k + 8 ≤ 601024 ∧ n + 40 ≤ 7293034) (kk : ∀ (I' : am_I) (J' : am_J) (k' n' : Nat), LInv I' x y → k' ≤ k + 8 → n' ≤ n + 40 → am_K G X room_1 9 Λ I' J' k' n' 2922 (lw_LS b x y o c) []) : am_K G X room_1 9 Λ I J k n 296 (lw_LS b x y o c) [] := by
  obtain ⟨hx, hy, ho, hxy, hyo⟩ := D
  obtain ⟨tb, n0, err, r, ct, hs, kp, sn, w, hR, hM, hO⟩ := V
  refine k_aload_n C (f := 1) (i := 1) (p := 1) rfl rfl dL_law_296 ?_
  refine k_aload_n C (f := 0) (i := 0) (p := 0) rfl rfl dL_law_297 ?_
  refine k_iload C (i := 4) (p := 4) rfl dL_law_298 ?_
  refine k_iconst C ic_1 dL_law_300 ?_
  refine k_iadd C dL_law_301 ?_
  refine k_sld C S hL (nI_add (6 * c) 1) (by omega) dL_law_302 ?_
  refine k_aload_n C (f := 0) (i := 0) (p := 0) rfl rfl dL_law_303 ?_
  refine k_iload C (i := 4) (p := 4) rfl dL_law_304 ?_
  refine k_iconst C ic_2 dL_law_306 ?_
  refine k_iadd C dL_law_307 ?_
  refine k_sld C S hL (nI_add (6 * c) 2) (by omega) dL_law_308 ?_
  refine k_aload_n C (f := 0) (i := 0) (p := 0) rfl rfl dL_law_309 ?_
  refine k_iload C (i := 4) (p := 4) rfl dL_law_310 ?_
  refine k_iconst C ic_3 dL_law_312 ?_
  refine k_iadd C dL_law_313 ?_
  refine k_sld C S hL (nI_add (6 * c) 3) (by omega) dL_law_314 ?_
  refine k_aload_n C (f := 0) (i := 0) (p := 0) rfl rfl dL_law_315 ?_
  refine k_iload C (i := 4) (p := 4) rfl dL_law_316 ?_
  refine k_iconst C ic_4 dL_law_318 ?_
  refine k_iadd C dL_law_319 ?_
  refine k_sld C S hL (nI_add (6 * c) 4) (by omega) dL_law_320 ?_
  refine k_aload_n C (f := 0) (i := 0) (p := 0) rfl rfl dL_law_321 ?_
  refine k_iload C (i := 4) (p := 4) rfl dL_law_322 ?_
  refine k_iconst C ic_5 dL_law_324 ?_
  refine k_iadd C dL_law_325 ?_
  refine k_sld C S hL (nI_add (6 * c) 5) (by omega) dL_law_326 ?_
  refine k_aload_n C (f := 3) (i := 3) (p := 3) rfl rfl dL_law_327 ?_
  refine k_callSH C s_L_152 h_L_append (ct_L_append hx hR ho) rfl rfl (Nat.le_of_ble_eq_true rfl) ⟨Nat.le_of_ble_eq_true rfl, Nat.le_of_ble_eq_true rfl⟩ (show k + 1 ≤ 601024 ∧ n + 6 ≤ 7293034 by omega) dL_law_328 (fun v Λ1 I1 J1 hv => ?_) (fun _ _ _ _ h => h.elim)
  obtain ⟨rfl, rfl, hJ1, hA, hB⟩ := hv
  have hf1 : RFr x I I1 := Classical.byCases (fun q => (hA q).2.2) (fun q => by rw [hB q]; exact fun _ _ => rfl)
  have hM1 := MM_out hM hf1 hxy
  refine k_istore C (i := 5) (lv := (5, _) :: lw_LS b x y o c) (Nat.le_of_ble_eq_true rfl) rfl dL_law_331 ?_
  refine k_aload_n C (f := 2) (i := 2) (p := 3) rfl rfl dL_law_333 ?_
  refine k_aload_n C (f := 0) (i := 0) (p := 1) rfl rfl dL_law_334 ?_
  refine k_iload C (i := 4) (p := 5) rfl dL_law_335 ?_
  refine k_iconst C ic_1 dL_law_337 ?_
  refine k_iadd C dL_law_338 ?_
  refine k_sld C S hL (nI_add (6 * c) 1) (by omega) dL_law_339 ?_
  refine k_aload_n C (f := 0) (i := 0) (p := 1) rfl rfl dL_law_340 ?_
  refine k_iload C (i := 4) (p := 5) rfl dL_law_341 ?_
  refine k_iconst C ic_2 dL_law_343 ?_
  refine k_iadd C dL_law_344 ?_
  refine k_sld C S hL (nI_add (6 * c) 2) (by omega) dL_law_345 ?_
  refine k_aload_n C (f := 0) (i := 0) (p := 1) rfl rfl dL_law_346 ?_
  refine k_iload C (i := 4) (p := 5) rfl dL_law_347 ?_
  refine k_iconst C ic_3 dL_law_349 ?_
  refine k_iadd C dL_law_350 ?_
  refine k_sld C S hL (nI_add (6 * c) 3) (by omega) dL_law_351 ?_
  refine k_aload_n C (f := 0) (i := 0) (p := 1) rfl rfl dL_law_352 ?_
  refine k_iload C (i := 4) (p := 5) rfl dL_law_353 ?_
  refine k_iconst C ic_4 dL_law_355 ?_
  refine k_iadd C dL_law_356 ?_
  refine k_sld C S hL (nI_add (6 * c) 4) (by omega) dL_law_357 ?_
  refine k_aload_n C (f := 0) (i := 0) (p := 1) rfl rfl dL_law_358 ?_
  refine k_iload C (i := 4) (p := 5) rfl dL_law_359 ?_
  refine k_iconst C ic_5 dL_law_361 ?_
  refine k_iadd C dL_law_362 ?_
  refine k_sld C S hL (nI_add (6 * c) 5) (by omega) dL_law_363 ?_
  refine k_callVg C s_L_157 h_X6_append (L6_s hy) rfl (ct_X6_append hy hM1) rfl rfl (Nat.le_of_ble_eq_true rfl) ⟨Nat.le_of_ble_eq_true rfl, Nat.le_of_ble_eq_true rfl⟩ (show k + 1 ≤ 601024 ∧ n + 6 ≤ 7293034 by omega) ⟨rfl, rfl⟩ dL_law_364 ?_
  intro v I2 hv
  obtain ⟨⟨bb, rfl⟩, h10, hF, hN, hD⟩ := hv
  refine k_istore C (i := 6) (lv := (6, _) :: (5, _) :: lw_LS b x y o c) (Nat.le_of_ble_eq_true rfl) rfl dL_law_367 ?_
  have hcd : _ < 2 ^ 31 := lw_of hA (by
    repeat' refine lw_lt ?_ ?_
    all_goals decide)
  exact lw_tail (k := k + 1) (n := n + 6) C hy ho h10 hcd (fun q => (hA q).1.trans (congrArg Int32.toInt64 (Value.int.inj (Option.some.inj (hN q).1)).symm)) dL_law_369 dL_law_370 dL_law_373 dL_law_375 dL_law_380 dL_law_382 dL_law_385 dL_law_386 dL_law_387 dL_law_388 dL_law_390 dL_law_391 dL_law_392 dL_law_397 (by decide) (show k + 1 ≤ 601024 ∧ n + 6 ≤ 7293034 by omega) (kk _ _ (k + 1) (n + 6) (LInv_c hxy hF (fun q => (hA q).2.1) (fun q => by rw [hB q]; exact hR) (fun q => (hN q).2) hD (fun _ => hO) hO) (by omega) (by omega))
set_option maxHeartbeats 4000000 in
set_option maxRecDepth 100000 in
theorem lw_c1 {G : am_G} {X : am_X} {tz : List ExceptionTableEntry} {Q : State → Prop} {Λ : am_L} {I : am_I} {J : am_J} {k n b x y o c L : Nat} {xs : Nat → Int32} (C : am_Cx G X RL cL_law 9 (some .boolean) tz Q) (S : LSc G X b L xs) (hL : L ≤ 3072) (hc : 6 * c + 6 ≤ L) (D : LL Λ x y o) (V : LInv I x y) (hk : k + 8 ≤ 601024 ∧ n + 40 ≤ 7293034) (kk : ∀ (I' : am_I) (J' : am_J) (k' n' : Nat), LInv I' x y → k' ≤ k + 8 → n' ≤ n + 40 → am_K G X room_1 9 Λ I' J' k' n' 2922 (lw_LS b x y o c) []) : am_K G X room_1 9 Λ I J k n 400 (lw_LS b x y o c) [] := by
  obtain ⟨hx, hy, ho, hxy, hyo⟩ := D
  obtain ⟨tb, n0, err, r, ct, hs, kp, sn, w, hR, hM, hO⟩ := V
  refine k_aload_n C (f := 1) (i := 1) (p := 1) rfl rfl dL_law_400 ?_
  refine k_aload_n C (f := 0) (i := 0) (p := 0) rfl rfl dL_law_401 ?_
  refine k_iload C (i := 4) (p := 4) rfl dL_law_402 ?_
  refine k_iconst C ic_1 dL_law_404 ?_
  refine k_iadd C dL_law_405 ?_
  refine k_sld C S hL (nI_add (6 * c) 1) (by omega) dL_law_406 ?_
  refine k_aload_n C (f := 3) (i := 3) (p := 3) rfl rfl dL_law_407 ?_
  refine k_callSH C s_L_161 h_L_shorten (ct_L_shorten hx hR ho) rfl rfl (Nat.le_of_ble_eq_true rfl) ⟨Nat.le_of_ble_eq_true rfl, Nat.le_of_ble_eq_true rfl⟩ (show k + 1 ≤ 601024 ∧ n + 6 ≤ 7293034 by omega) dL_law_408 (fun v Λ1 I1 J1 hv => ?_) (fun _ _ _ _ h => h.elim)
  obtain ⟨rfl, rfl, hJ1, hA, hB⟩ := hv
  have hf1 : RFr x I I1 := Classical.byCases (fun q => (hA q).2.2) (fun q => by rw [hB q]; exact fun _ _ => rfl)
  have hM1 := MM_out hM hf1 hxy
  refine k_istore C (i := 5) (lv := (5, _) :: lw_LS b x y o c) (Nat.le_of_ble_eq_true rfl) rfl dL_law_411 ?_
  refine k_aload_n C (f := 2) (i := 2) (p := 3) rfl rfl dL_law_413 ?_
  refine k_aload_n C (f := 0) (i := 0) (p := 1) rfl rfl dL_law_414 ?_
  refine k_iload C (i := 4) (p := 5) rfl dL_law_415 ?_
  refine k_iconst C ic_1 dL_law_417 ?_
  refine k_iadd C dL_law_418 ?_
  refine k_sld C S hL (nI_add (6 * c) 1) (by omega) dL_law_419 ?_
  refine k_callVg C s_L_164 h_X6_shorten (L6_s hy) rfl (ct_X6_shorten hy hM1) rfl rfl (Nat.le_of_ble_eq_true rfl) ⟨Nat.le_of_ble_eq_true rfl, Nat.le_of_ble_eq_true rfl⟩ (show k + 1 ≤ 601024 ∧ n + 6 ≤ 7293034 by omega) ⟨rfl, rfl⟩ dL_law_420 ?_
  intro v I2 hv
  obtain ⟨⟨bb, rfl⟩, h10, hF, hN, hD⟩ := hv
  refine k_istore C (i := 6) (lv := (6, _) :: (5, _) :: lw_LS b x y o c) (Nat.le_of_ble_eq_true rfl) rfl dL_law_423 ?_
  have hcd : _ < 2 ^ 31 := lw_of hA (by
    repeat' refine lw_lt ?_ ?_
    all_goals decide)
  exact lw_tail (k := k + 1) (n := n + 6) C hy ho h10 hcd (fun q => (hA q).1.trans (congrArg Int32.toInt64 (Value.int.inj (Option.some.inj (hN q).1)).symm)) dL_law_425 dL_law_426 dL_law_429 dL_law_431 dL_law_436 dL_law_438 dL_law_441 dL_law_442 dL_law_443 dL_law_444 dL_law_446 dL_law_447 dL_law_448 dL_law_453 (by decide) (show k + 1 ≤ 601024 ∧ n + 6 ≤ 7293034 by omega) (kk _ _ (k + 1) (n + 6) (LInv_c hxy hF (fun q => (hA q).2.1) (fun q => by rw [hB q]; exact hR) (fun q => (hN q).2) hD (fun _ => hO) hO) (by omega) (by omega))
set_option maxHeartbeats 4000000 in
set_option maxRecDepth 100000 in
theorem lw_c2 {G : am_G} {X : am_X} {tz : List ExceptionTableEntry} {Q : State → Prop} {Λ : am_L} {I : am_I} {J : am_J} {k n b x y o c L : Nat} {xs : Nat → Int32} (C : am_Cx G X RL cL_law 9 (some .boolean) tz Q) (S : LSc G X b L xs) (hL : L ≤ 3072) (hc : 6 * c + 6 ≤ L) (D : LL Λ x y o) (V : LInv I x y) (hk : k + 8 ≤ 601024 ∧ n + 40 ≤ 7293034) (kk : ∀ (I' : am_I) (J' : am_J) (k' n' : Nat), LInv I' x y → k' ≤ k + 8 → n' ≤ n + 40 → am_K G X room_1 9 Λ I' J' k' n' 2922 (lw_LS b x y o c) []) : am_K G X room_1 9 Λ I J k n 456 (lw_LS b x y o c) [] := by
  obtain ⟨hx, hy, ho, hxy, hyo⟩ := D
  obtain ⟨tb, n0, err, r, ct, hs, kp, sn, w, hR, hM, hO⟩ := V
  refine k_aload_n C (f := 1) (i := 1) (p := 1) rfl rfl dL_law_456 ?_
  refine k_aload_n C (f := 3) (i := 3) (p := 3) rfl rfl dL_law_457 ?_
  refine k_callSH C s_L_165 h_L_load (ct_L_load hx hR (fun r1 h => RK_3 (rowok_parse h)) ho) rfl rfl (Nat.le_of_ble_eq_true rfl) ⟨Nat.le_of_ble_eq_true rfl, Nat.le_of_ble_eq_true rfl⟩ (show k + 1 ≤ 601024 ∧ n + 6 ≤ 7293034 by omega) dL_law_458 (fun v Λ1 I1 J1 hv => ?_) (fun _ _ _ _ h => h.elim)
  obtain ⟨rfl, hJ1, hf1, hr2⟩ := hv
  have hM1 := MM_out hM hf1 hxy
  rcases hr2 with ⟨r2, hp, rfl, hJo, hR2⟩ | ⟨e, hp, rfl, he, hR2⟩
  · skip
    refine k_istore C (i := 5) (lv := (5, _) :: lw_LS b x y o c) (Nat.le_of_ble_eq_true rfl) rfl dL_law_461 ?_
    refine k_aload_n C (f := 2) (i := 2) (p := 3) rfl rfl dL_law_463 ?_
    refine k_callVj C s_L_168 h_X6_load (L6_s hy) rfl (ct_X6_load hy hM1) rfl rfl (Nat.le_of_ble_eq_true rfl) ⟨Nat.le_of_ble_eq_true rfl, Nat.le_of_ble_eq_true rfl⟩ (show k + 1 ≤ 601024 ∧ n + 6 ≤ 7293034 by omega) ⟨rfl, rfl⟩ dL_law_464 ?_
    intro v I2 J2 hv
    obtain ⟨⟨bb, rfl⟩, hF, hJ2, h1, h2⟩ := hv
    refine k_istore C (i := 6) (lv := (6, _) :: (5, _) :: lw_LS b x y o c) (Nat.le_of_ble_eq_true rfl) rfl dL_law_467 ?_
    obtain ⟨h10, hbb, hM2⟩ := h1 r2 hp
    obtain rfl := Value.int.inj (Option.some.inj hbb)
    exact lw_tail (k := k + 1) (n := n + 6) (cd := 0) C hy ho h10 (by decide) (fun _ => by rw [hJ2 o (by omega)]; exact hJo) dL_law_469 dL_law_470 dL_law_473 dL_law_475 dL_law_480 dL_law_482 dL_law_485 dL_law_486 dL_law_487 dL_law_488 dL_law_490 dL_law_491 dL_law_492 dL_law_497 (by decide) (show k + 1 ≤ 601024 ∧ n + 6 ≤ 7293034 by omega) (kk _ _ (k + 1) (n + 6) (⟨tb, 0, -1, r2, 0, hs, fun _ => false, sn, w, RR_out hR2 (fun q g1 g2 => hF q (by omega)), hM2, rowok_parse hp, fun s h => absurd h (Nat.not_lt_zero s), fun j _ h => (by cases h), Or.inl rfl⟩) (by omega) (by omega))
  · skip
    refine k_istore C (i := 5) (lv := (5, _) :: lw_LS b x y o c) (Nat.le_of_ble_eq_true rfl) rfl dL_law_461 ?_
    refine k_aload_n C (f := 2) (i := 2) (p := 3) rfl rfl dL_law_463 ?_
    refine k_callVj C s_L_168 h_X6_load (L6_s hy) rfl (ct_X6_load hy hM1) rfl rfl (Nat.le_of_ble_eq_true rfl) ⟨Nat.le_of_ble_eq_true rfl, Nat.le_of_ble_eq_true rfl⟩ (show k + 1 ≤ 601024 ∧ n + 6 ≤ 7293034 by omega) ⟨rfl, rfl⟩ dL_law_464 ?_
    intro v I2 J2 hv
    obtain ⟨⟨bb, rfl⟩, hF, hJ2, h1, h2⟩ := hv
    refine k_istore C (i := 6) (lv := (6, _) :: (5, _) :: lw_LS b x y o c) (Nat.le_of_ble_eq_true rfl) rfl dL_law_467 ?_
    obtain ⟨h10, he2, hM2⟩ := h2 e hp
    exact lw_tail (k := k + 1) (n := n + 6) (cd := 1) C hy ho h10 (by decide) (fun h => absurd h (by decide)) dL_law_469 dL_law_470 dL_law_473 dL_law_475 dL_law_480 dL_law_482 dL_law_485 dL_law_486 dL_law_487 dL_law_488 dL_law_490 dL_law_491 dL_law_492 dL_law_497 (by decide) (show k + 1 ≤ 601024 ∧ n + 6 ≤ 7293034 by omega) (kk _ _ (k + 1) (n + 6) (⟨tb, 0, nI e, r, ct, hs, kp, sn, w, RR_out hR2 (fun q g1 g2 => hF q (by omega)), hM2, hO.1, hO.2.1, hO.2.2.1, Or.inr ⟨e, rfl, he⟩⟩) (by omega) (by omega))
set_option maxHeartbeats 4000000 in
set_option maxRecDepth 100000 in
theorem lw_c3 {G : am_G} {X : am_X} {tz : List ExceptionTableEntry} {Q : State → Prop} {Λ : am_L} {I : am_I} {J : am_J} {k n b x y o c L : Nat} {xs : Nat → Int32} (C : am_Cx G X RL cL_law 9 (some .boolean) tz Q) (S : LSc G X b L xs) (hL : L ≤ 3072) (hc : 6 * c + 6 ≤ L) (D : LL Λ x y o) (V : LInv I x y) (hk : k + 8 ≤ 601024 ∧ n + 40 ≤ 7293034) (kk : ∀ (I' : am_I) (J' : am_J) (k' n' : Nat), LInv I' x y → k' ≤ k + 8 → n' ≤ n + 40 → am_K G X room_1 9 Λ I' J' k' n' 2922 (lw_LS b x y o c) []) : am_K G X room_1 9 Λ I J k n 500 (lw_LS b x y o c) [] := by
  obtain ⟨hx, hy, ho, hxy, hyo⟩ := D
  obtain ⟨tb, n0, err, r, ct, hs, kp, sn, w, hR, hM, hO⟩ := V
  refine k_aload_n C (f := 1) (i := 1) (p := 1) rfl rfl dL_law_500 ?_
  have hM1 := hM
  refine k_callVp C s_L_169 h_X5_hasError (L5_s hx) rfl (ct_X5_hasError hx (RR_e hR)) rfl rfl (Nat.le_of_ble_eq_true rfl) ⟨Nat.le_of_ble_eq_true rfl, Nat.le_of_ble_eq_true rfl⟩ (show k + 0 ≤ 601024 ∧ n + 0 ≤ 7293034 by omega) ⟨rfl, rfl⟩ dL_law_501 ?_
  refine k_aload_n C (f := 2) (i := 2) (p := 2) rfl rfl dL_law_504 ?_
  refine k_callVg C s_L_173 h_X6_hasError (L6_s hy) rfl (ct_X6_hasError hy (MM_r hM1) hO.1 (MM_e hM1) hO.2.2.2) rfl rfl (Nat.le_of_ble_eq_true rfl) ⟨Nat.le_of_ble_eq_true rfl, Nat.le_of_ble_eq_true rfl⟩ (show k + 0 ≤ 601024 ∧ n + 0 ≤ 7293034 by omega) ⟨rfl, rfl⟩ dL_law_505 ?_
  intro v I2 hv
  obtain ⟨⟨bb, rfl⟩, hval, rfl⟩ := hv
  exact k_icmp_eq C (tgt := 2922) (by decide) dL_law_508 (fun _ => (kk _ _ k n (LInv_q hR hM hO hxy) (by omega) (by omega))) (fun h => absurd (Value.int.inj (Option.some.inj (hval rfl))).symm h)
set_option maxHeartbeats 4000000 in
set_option maxRecDepth 100000 in
theorem lw_c4 {G : am_G} {X : am_X} {tz : List ExceptionTableEntry} {Q : State → Prop} {Λ : am_L} {I : am_I} {J : am_J} {k n b x y o c L : Nat} {xs : Nat → Int32} (C : am_Cx G X RL cL_law 9 (some .boolean) tz Q) (S : LSc G X b L xs) (hL : L ≤ 3072) (hc : 6 * c + 6 ≤ L) (D : LL Λ x y o) (V : LInv I x y) (hk : k + 8 ≤ 601024 ∧ n + 40 ≤ 7293034) (kk : ∀ (I' : am_I) (J' : am_J) (k' n' : Nat), LInv I' x y → k' ≤ k + 8 → n' ≤ n + 40 → am_K G X room_1 9 Λ I' J' k' n' 2922 (lw_LS b x y o c) []) : am_K G X room_1 9 Λ I J k n 513 (lw_LS b x y o c) [] := by
  obtain ⟨hx, hy, ho, hxy, hyo⟩ := D
  obtain ⟨tb, n0, err, r, ct, hs, kp, sn, w, hR, hM, hO⟩ := V
  refine k_aload_n C (f := 1) (i := 1) (p := 1) rfl rfl dL_law_513 ?_
  refine k_aload_n C (f := 3) (i := 3) (p := 3) rfl rfl dL_law_514 ?_
  refine k_callSH C s_L_174 h_L_errorOffset (ct_L_errorOffset hx (RR_e hR) ho) rfl rfl (Nat.le_of_ble_eq_true rfl) ⟨Nat.le_of_ble_eq_true rfl, Nat.le_of_ble_eq_true rfl⟩ (show k + 1 ≤ 601024 ∧ n + 6 ≤ 7293034 by omega) dL_law_515 (fun v Λ1 I1 J1 hv => ?_) (fun _ _ _ _ h => h.elim)
  obtain ⟨rfl, rfl, hJ1, hA, hB⟩ := hv
  have e1 : I1 = I := Classical.byCases (fun q => (hA q).2) (fun q => hB q)
  subst e1
  have hM1 := hM
  refine k_istore C (i := 5) (lv := (5, _) :: lw_LS b x y o c) (Nat.le_of_ble_eq_true rfl) rfl dL_law_518 ?_
  refine k_aload_n C (f := 2) (i := 2) (p := 3) rfl rfl dL_law_520 ?_
  refine k_callVg C s_L_176 h_X6_errorOffset (L6_s hy) rfl (ct_X6_errorOffset hy (MM_r hM1) hO.1 (MM_e hM1) hO.2.2.2) rfl rfl (Nat.le_of_ble_eq_true rfl) ⟨Nat.le_of_ble_eq_true rfl, Nat.le_of_ble_eq_true rfl⟩ (show k + 1 ≤ 601024 ∧ n + 6 ≤ 7293034 by omega) ⟨rfl, rfl⟩ dL_law_521 ?_
  intro v I2 hv
  obtain ⟨⟨bb, rfl⟩, hval, rfl⟩ := hv
  refine k_istore C (i := 6) (lv := (6, _) :: (5, _) :: lw_LS b x y o c) (Nat.le_of_ble_eq_true rfl) rfl dL_law_524 ?_
  have hcd : _ < 2 ^ 31 := lw_of hA (by
    repeat' refine lw_lt ?_ ?_
    all_goals decide)
  exact lw_tail (k := k + 1) (n := n + 6) C hy ho am_up_eq hcd (fun q => (hA q).1.trans (congrArg Int32.toInt64 (Value.int.inj (Option.some.inj (hval q))).symm)) dL_law_526 dL_law_527 dL_law_530 dL_law_532 dL_law_537 dL_law_539 dL_law_542 dL_law_543 dL_law_544 dL_law_545 dL_law_547 dL_law_548 dL_law_549 dL_law_554 (by decide) (show k + 1 ≤ 601024 ∧ n + 6 ≤ 7293034 by omega) (kk _ _ (k + 1) (n + 6) (LInv_q hR hM hO hxy) (by omega) (by omega))
set_option maxHeartbeats 4000000 in
set_option maxRecDepth 100000 in
theorem lw_c5 {G : am_G} {X : am_X} {tz : List ExceptionTableEntry} {Q : State → Prop} {Λ : am_L} {I : am_I} {J : am_J} {k n b x y o c L : Nat} {xs : Nat → Int32} (C : am_Cx G X RL cL_law 9 (some .boolean) tz Q) (S : LSc G X b L xs) (hL : L ≤ 3072) (hc : 6 * c + 6 ≤ L) (D : LL Λ x y o) (V : LInv I x y) (hk : k + 8 ≤ 601024 ∧ n + 40 ≤ 7293034) (kk : ∀ (I' : am_I) (J' : am_J) (k' n' : Nat), LInv I' x y → k' ≤ k + 8 → n' ≤ n + 40 → am_K G X room_1 9 Λ I' J' k' n' 2922 (lw_LS b x y o c) []) : am_K G X room_1 9 Λ I J k n 557 (lw_LS b x y o c) [] := by
  obtain ⟨hx, hy, ho, hxy, hyo⟩ := D
  obtain ⟨tb, n0, err, r, ct, hs, kp, sn, w, hR, hM, hO⟩ := V
  refine k_aload_n C (f := 1) (i := 1) (p := 1) rfl rfl dL_law_557 ?_
  have hM1 := hM
  refine k_callVp C s_L_177 h_X5_length (L5_s hx) rfl (ct_X5_length hx (RR_r hR)) rfl rfl (Nat.le_of_ble_eq_true rfl) ⟨Nat.le_of_ble_eq_true rfl, Nat.le_of_ble_eq_true rfl⟩ (show k + 0 ≤ 601024 ∧ n + 0 ≤ 7293034 by omega) ⟨rfl, rfl⟩ dL_law_558 ?_
  refine k_aload_n C (f := 2) (i := 2) (p := 2) rfl rfl dL_law_561 ?_
  refine k_callVg C s_L_180 h_X6_length (L6_s hy) rfl (ct_X6_length hy (MM_r hM1) hO.1) rfl rfl (Nat.le_of_ble_eq_true rfl) ⟨Nat.le_of_ble_eq_true rfl, Nat.le_of_ble_eq_true rfl⟩ (show k + 0 ≤ 601024 ∧ n + 0 ≤ 7293034 by omega) ⟨rfl, rfl⟩ dL_law_562 ?_
  intro v I2 hv
  obtain ⟨⟨bb, rfl⟩, hval, rfl⟩ := hv
  exact k_icmp_eq C (tgt := 2922) (by decide) dL_law_565 (fun _ => (kk _ _ k n (LInv_q hR hM hO hxy) (by omega) (by omega))) (fun h => absurd (Value.int.inj (Option.some.inj (hval rfl))).symm h)
set_option maxHeartbeats 4000000 in
set_option maxRecDepth 100000 in
theorem lw_c6 {G : am_G} {X : am_X} {tz : List ExceptionTableEntry} {Q : State → Prop} {Λ : am_L} {I : am_I} {J : am_J} {k n b x y o c L : Nat} {xs : Nat → Int32} (C : am_Cx G X RL cL_law 9 (some .boolean) tz Q) (S : LSc G X b L xs) (hL : L ≤ 3072) (hc : 6 * c + 6 ≤ L) (D : LL Λ x y o) (V : LInv I x y) (hk : k + 8 ≤ 601024 ∧ n + 40 ≤ 7293034) (kk : ∀ (I' : am_I) (J' : am_J) (k' n' : Nat), LInv I' x y → k' ≤ k + 8 → n' ≤ n + 40 → am_K G X room_1 9 Λ I' J' k' n' 2922 (lw_LS b x y o c) []) : am_K G X room_1 9 Λ I J k n 570 (lw_LS b x y o c) [] := by
  obtain ⟨hx, hy, ho, hxy, hyo⟩ := D
  obtain ⟨tb, n0, err, r, ct, hs, kp, sn, w, hR, hM, hO⟩ := V
  refine k_aload_n C (f := 1) (i := 1) (p := 1) rfl rfl dL_law_570 ?_
  have hM1 := hM
  refine k_callVp C s_L_181 h_X5_kilometre (L5_s hx) rfl (ct_X5_kilometre hx (RR_r hR)) rfl rfl (Nat.le_of_ble_eq_true rfl) ⟨Nat.le_of_ble_eq_true rfl, Nat.le_of_ble_eq_true rfl⟩ (show k + 0 ≤ 601024 ∧ n + 0 ≤ 7293034 by omega) ⟨rfl, rfl⟩ dL_law_571 ?_
  refine k_aload_n C (f := 2) (i := 2) (p := 2) rfl rfl dL_law_574 ?_
  refine k_callVg C s_L_184 h_X6_kilometre (L6_s hy) rfl (ct_X6_kilometre hy (MM_r hM1) hO.1) rfl rfl (Nat.le_of_ble_eq_true rfl) ⟨Nat.le_of_ble_eq_true rfl, Nat.le_of_ble_eq_true rfl⟩ (show k + 0 ≤ 601024 ∧ n + 0 ≤ 7293034 by omega) ⟨rfl, rfl⟩ dL_law_575 ?_
  intro v I2 hv
  obtain ⟨⟨bb, rfl⟩, hval, rfl⟩ := hv
  exact k_icmp_eq C (tgt := 2922) (by decide) dL_law_578 (fun _ => (kk _ _ k n (LInv_q hR hM hO hxy) (by omega) (by omega))) (fun h => absurd (Value.int.inj (Option.some.inj (hval rfl))).symm h)
set_option maxHeartbeats 4000000 in
set_option maxRecDepth 100000 in
theorem lw_c7 {G : am_G} {X : am_X} {tz : List ExceptionTableEntry} {Q : State → Prop} {Λ : am_L} {I : am_I} {J : am_J} {k n b x y o c L : Nat} {xs : Nat → Int32} (C : am_Cx G X RL cL_law 9 (some .boolean) tz Q) (S : LSc G X b L xs) (hL : L ≤ 3072) (hc : 6 * c + 6 ≤ L) (D : LL Λ x y o) (V : LInv I x y) (hk : k + 8 ≤ 601024 ∧ n + 40 ≤ 7293034) (kk : ∀ (I' : am_I) (J' : am_J) (k' n' : Nat), LInv I' x y → k' ≤ k + 8 → n' ≤ n + 40 → am_K G X room_1 9 Λ I' J' k' n' 2922 (lw_LS b x y o c) []) : am_K G X room_1 9 Λ I J k n 583 (lw_LS b x y o c) [] := by
  obtain ⟨hx, hy, ho, hxy, hyo⟩ := D
  obtain ⟨tb, n0, err, r, ct, hs, kp, sn, w, hR, hM, hO⟩ := V
  refine k_aload_n C (f := 1) (i := 1) (p := 1) rfl rfl dL_law_583 ?_
  have hM1 := hM
  refine k_callVp C s_L_185 h_X5_hasArrived (L5_s hx) rfl (ct_X5_hasArrived hx (RR_r hR)) rfl rfl (Nat.le_of_ble_eq_true rfl) ⟨Nat.le_of_ble_eq_true rfl, Nat.le_of_ble_eq_true rfl⟩ (show k + 0 ≤ 601024 ∧ n + 0 ≤ 7293034 by omega) ⟨rfl, rfl⟩ dL_law_584 ?_
  refine k_aload_n C (f := 2) (i := 2) (p := 2) rfl rfl dL_law_587 ?_
  refine k_callVg C s_L_188 h_X6_hasArrived (L6_s hy) rfl (ct_X6_hasArrived hy (MM_r hM1) hO.1) rfl rfl (Nat.le_of_ble_eq_true rfl) ⟨Nat.le_of_ble_eq_true rfl, Nat.le_of_ble_eq_true rfl⟩ (show k + 0 ≤ 601024 ∧ n + 0 ≤ 7293034 by omega) ⟨rfl, rfl⟩ dL_law_588 ?_
  intro v I2 hv
  obtain ⟨⟨bb, rfl⟩, hval, rfl⟩ := hv
  exact k_icmp_eq C (tgt := 2922) (by decide) dL_law_591 (fun _ => (kk _ _ k n (LInv_q hR hM hO hxy) (by omega) (by omega))) (fun h => absurd (Value.int.inj (Option.some.inj (hval rfl))).symm h)
set_option maxHeartbeats 4000000 in
set_option maxRecDepth 100000 in
theorem lw_c8 {G : am_G} {X : am_X} {tz : List ExceptionTableEntry} {Q : State → Prop} {Λ : am_L} {I : am_I} {J : am_J} {k n b x y o c L : Nat} {xs : Nat → Int32} (C : am_Cx G X RL cL_law 9 (some .boolean) tz Q) (S : LSc G X b L xs) (hL : L ≤ 3072) (hc : 6 * c + 6 ≤ L) (D : LL Λ x y o) (V : LInv I x y) (hk : k + 8 ≤ 601024 ∧ n + 40 ≤ 7293034) (kk : ∀ (I' : am_I) (J' : am_J) (k' n' : Nat), LInv I' x y → k' ≤ k + 8 → n' ≤ n + 40 → am_K G X room_1 9 Λ I' J' k' n' 2922 (lw_LS b x y o c) []) : am_K G X room_1 9 Λ I J k n 596 (lw_LS b x y o c) [] := by
  obtain ⟨hx, hy, ho, hxy, hyo⟩ := D
  obtain ⟨tb, n0, err, r, ct, hs, kp, sn, w, hR, hM, hO⟩ := V
  refine k_aload_n C (f := 1) (i := 1) (p := 1) rfl rfl dL_law_596 ?_
  have hM1 := hM
  refine k_callVp C s_L_189 h_X5_day (L5_s hx) rfl (ct_X5_day hx (RR_r hR)) rfl rfl (Nat.le_of_ble_eq_true rfl) ⟨Nat.le_of_ble_eq_true rfl, Nat.le_of_ble_eq_true rfl⟩ (show k + 0 ≤ 601024 ∧ n + 0 ≤ 7293034 by omega) ⟨rfl, rfl⟩ dL_law_597 ?_
  refine k_aload_n C (f := 2) (i := 2) (p := 2) rfl rfl dL_law_600 ?_
  refine k_callVg C s_L_192 h_X6_day (L6_s hy) rfl (ct_X6_day hy (MM_r hM1) hO.1) rfl rfl (Nat.le_of_ble_eq_true rfl) ⟨Nat.le_of_ble_eq_true rfl, Nat.le_of_ble_eq_true rfl⟩ (show k + 0 ≤ 601024 ∧ n + 0 ≤ 7293034 by omega) ⟨rfl, rfl⟩ dL_law_601 ?_
  intro v I2 hv
  obtain ⟨⟨bb, rfl⟩, hval, rfl⟩ := hv
  exact k_icmp_eq C (tgt := 2922) (by decide) dL_law_604 (fun _ => (kk _ _ k n (LInv_q hR hM hO hxy) (by omega) (by omega))) (fun h => absurd (Value.int.inj (Option.some.inj (hval rfl))).symm h)
set_option maxHeartbeats 4000000 in
set_option maxRecDepth 100000 in
theorem lw_c9 {G : am_G} {X : am_X} {tz : List ExceptionTableEntry} {Q : State → Prop} {Λ : am_L} {I : am_I} {J : am_J} {k n b x y o c L : Nat} {xs : Nat → Int32} (C : am_Cx G X RL cL_law 9 (some .boolean) tz Q) (S : LSc G X b L xs) (hL : L ≤ 3072) (hc : 6 * c + 6 ≤ L) (D : LL Λ x y o) (V : LInv I x y) (hk : k + 8 ≤ 601024 ∧ n + 40 ≤ 7293034) (kk : ∀ (I' : am_I) (J' : am_J) (k' n' : Nat), LInv I' x y → k' ≤ k + 8 → n' ≤ n + 40 → am_K G X room_1 9 Λ I' J' k' n' 2922 (lw_LS b x y o c) []) : am_K G X room_1 9 Λ I J k n 609 (lw_LS b x y o c) [] := by
  obtain ⟨hx, hy, ho, hxy, hyo⟩ := D
  obtain ⟨tb, n0, err, r, ct, hs, kp, sn, w, hR, hM, hO⟩ := V
  refine k_aload_n C (f := 1) (i := 1) (p := 1) rfl rfl dL_law_609 ?_
  refine k_aload_n C (f := 0) (i := 0) (p := 0) rfl rfl dL_law_610 ?_
  refine k_iload C (i := 4) (p := 4) rfl dL_law_611 ?_
  refine k_iconst C ic_1 dL_law_613 ?_
  refine k_iadd C dL_law_614 ?_
  refine k_sld C S hL (nI_add (6 * c) 1) (by omega) dL_law_615 ?_
  refine k_aload_n C (f := 3) (i := 3) (p := 3) rfl rfl dL_law_616 ?_
  refine k_callSH C s_L_193 h_L_stormOn (ct_L_stormOn hx (RR_r hR) ho) rfl rfl (Nat.le_of_ble_eq_true rfl) ⟨Nat.le_of_ble_eq_true rfl, Nat.le_of_ble_eq_true rfl⟩ (show k + 1 ≤ 601024 ∧ n + 6 ≤ 7293034 by omega) dL_law_617 (fun v Λ1 I1 J1 hv => ?_) (fun _ _ _ _ h => h.elim)
  obtain ⟨rfl, rfl, hJ1, hA, hB⟩ := hv
  have e1 : I1 = I := Classical.byCases (fun q => (hA q).2) (fun q => hB q)
  subst e1
  have hM1 := hM
  refine k_istore C (i := 5) (lv := (5, _) :: lw_LS b x y o c) (Nat.le_of_ble_eq_true rfl) rfl dL_law_620 ?_
  refine k_aload_n C (f := 2) (i := 2) (p := 3) rfl rfl dL_law_622 ?_
  refine k_aload_n C (f := 0) (i := 0) (p := 1) rfl rfl dL_law_623 ?_
  refine k_iload C (i := 4) (p := 5) rfl dL_law_624 ?_
  refine k_iconst C ic_1 dL_law_626 ?_
  refine k_iadd C dL_law_627 ?_
  refine k_sld C S hL (nI_add (6 * c) 1) (by omega) dL_law_628 ?_
  refine k_callVg C s_L_195 h_X6_stormOn (L6_s hy) rfl (ct_X6_stormOn hy (MM_r hM1) hO.1) rfl rfl (Nat.le_of_ble_eq_true rfl) ⟨Nat.le_of_ble_eq_true rfl, Nat.le_of_ble_eq_true rfl⟩ (show k + 1 ≤ 601024 ∧ n + 6 ≤ 7293034 by omega) ⟨rfl, rfl⟩ dL_law_629 ?_
  intro v I2 hv
  obtain ⟨⟨bb, rfl⟩, hval, rfl⟩ := hv
  refine k_istore C (i := 6) (lv := (6, _) :: (5, _) :: lw_LS b x y o c) (Nat.le_of_ble_eq_true rfl) rfl dL_law_632 ?_
  have hcd : _ < 2 ^ 31 := lw_of hA (by
    repeat' refine lw_lt ?_ ?_
    all_goals decide)
  exact lw_tail (k := k + 1) (n := n + 6) C hy ho am_up_eq hcd (fun q => (hA q).1.trans (congrArg Int32.toInt64 (Value.int.inj (Option.some.inj (hval q))).symm)) dL_law_634 dL_law_635 dL_law_638 dL_law_640 dL_law_645 dL_law_647 dL_law_650 dL_law_651 dL_law_652 dL_law_653 dL_law_655 dL_law_656 dL_law_657 dL_law_662 (by decide) (show k + 1 ≤ 601024 ∧ n + 6 ≤ 7293034 by omega) (kk _ _ (k + 1) (n + 6) (LInv_q hR hM hO hxy) (by omega) (by omega))
set_option maxHeartbeats 4000000 in
set_option maxRecDepth 100000 in
theorem lw_c10 {G : am_G} {X : am_X} {tz : List ExceptionTableEntry} {Q : State → Prop} {Λ : am_L} {I : am_I} {J : am_J} {k n b x y o c L : Nat} {xs : Nat → Int32} (C : am_Cx G X RL cL_law 9 (some .boolean) tz Q) (S : LSc G X b L xs) (hL : L ≤ 3072) (hc : 6 * c + 6 ≤ L) (D : LL Λ x y o) (V : LInv I x y) (hk : k + 8 ≤ 601024 ∧ n + 40 ≤ 7293034) (kk : ∀ (I' : am_I) (J' : am_J) (k' n' : Nat), LInv I' x y → k' ≤ k + 8 → n' ≤ n + 40 → am_K G X room_1 9 Λ I' J' k' n' 2922 (lw_LS b x y o c) []) : am_K G X room_1 9 Λ I J k n 665 (lw_LS b x y o c) [] := by
  obtain ⟨hx, hy, ho, hxy, hyo⟩ := D
  obtain ⟨tb, n0, err, r, ct, hs, kp, sn, w, hR, hM, hO⟩ := V
  refine k_aload_n C (f := 1) (i := 1) (p := 1) rfl rfl dL_law_665 ?_
  have hM1 := hM
  refine k_callVp C s_L_196 h_X5_isStopping (L5_s hx) rfl (ct_X5_isStopping hx (RR_r hR) (RK_3 hO.1)) rfl rfl (Nat.le_of_ble_eq_true rfl) ⟨Nat.le_of_ble_eq_true rfl, Nat.le_of_ble_eq_true rfl⟩ (show k + 0 ≤ 601024 ∧ n + 0 ≤ 7293034 by omega) ⟨rfl, rfl⟩ dL_law_666 ?_
  refine k_aload_n C (f := 2) (i := 2) (p := 2) rfl rfl dL_law_669 ?_
  refine k_callVg C s_L_199 h_X6_isStopping (L6_s hy) rfl (ct_X6_isStopping hy (MM_r hM1) hO.1) rfl rfl (Nat.le_of_ble_eq_true rfl) ⟨Nat.le_of_ble_eq_true rfl, Nat.le_of_ble_eq_true rfl⟩ (show k + 0 ≤ 601024 ∧ n + 0 ≤ 7293034 by omega) ⟨rfl, rfl⟩ dL_law_670 ?_
  intro v I2 hv
  obtain ⟨⟨bb, rfl⟩, hval, rfl⟩ := hv
  exact k_icmp_eq C (tgt := 2922) (by decide) dL_law_673 (fun _ => (kk _ _ k n (LInv_q hR hM hO hxy) (by omega) (by omega))) (fun h => absurd (Value.int.inj (Option.some.inj (hval rfl))).symm h)
set_option maxHeartbeats 4000000 in
set_option maxRecDepth 100000 in
theorem lw_c11 {G : am_G} {X : am_X} {tz : List ExceptionTableEntry} {Q : State → Prop} {Λ : am_L} {I : am_I} {J : am_J} {k n b x y o c L : Nat} {xs : Nat → Int32} (C : am_Cx G X RL cL_law 9 (some .boolean) tz Q) (S : LSc G X b L xs) (hL : L ≤ 3072) (hc : 6 * c + 6 ≤ L) (D : LL Λ x y o) (V : LInv I x y) (hk : k + 8 ≤ 601024 ∧ n + 40 ≤ 7293034) (kk : ∀ (I' : am_I) (J' : am_J) (k' n' : Nat), LInv I' x y → k' ≤ k + 8 → n' ≤ n + 40 → am_K G X room_1 9 Λ I' J' k' n' 2922 (lw_LS b x y o c) []) : am_K G X room_1 9 Λ I J k n 678 (lw_LS b x y o c) [] := by
  obtain ⟨hx, hy, ho, hxy, hyo⟩ := D
  obtain ⟨tb, n0, err, r, ct, hs, kp, sn, w, hR, hM, hO⟩ := V
  refine k_aload_n C (f := 1) (i := 1) (p := 1) rfl rfl dL_law_678 ?_
  have hM1 := hM
  refine k_callVp C s_L_200 h_X5_wellCount (L5_s hx) rfl (ct_X5_wellCount hx (RR_r hR)) rfl rfl (Nat.le_of_ble_eq_true rfl) ⟨Nat.le_of_ble_eq_true rfl, Nat.le_of_ble_eq_true rfl⟩ (show k + 0 ≤ 601024 ∧ n + 0 ≤ 7293034 by omega) ⟨rfl, rfl⟩ dL_law_679 ?_
  refine k_aload_n C (f := 2) (i := 2) (p := 2) rfl rfl dL_law_682 ?_
  refine k_callVg C s_L_203 h_X6_wellCount (L6_s hy) rfl (ct_X6_wellCount hy (MM_r hM1) hO.1) rfl rfl (Nat.le_of_ble_eq_true rfl) ⟨Nat.le_of_ble_eq_true rfl, Nat.le_of_ble_eq_true rfl⟩ (show k + 0 ≤ 601024 ∧ n + 0 ≤ 7293034 by omega) ⟨rfl, rfl⟩ dL_law_683 ?_
  intro v I2 hv
  obtain ⟨⟨bb, rfl⟩, hval, rfl⟩ := hv
  exact k_icmp_eq C (tgt := 2922) (by decide) dL_law_686 (fun _ => (kk _ _ k n (LInv_q hR hM hO hxy) (by omega) (by omega))) (fun h => absurd (Value.int.inj (Option.some.inj (hval rfl))).symm h)
set_option maxHeartbeats 4000000 in
set_option maxRecDepth 100000 in
theorem lw_c12 {G : am_G} {X : am_X} {tz : List ExceptionTableEntry} {Q : State → Prop} {Λ : am_L} {I : am_I} {J : am_J} {k n b x y o c L : Nat} {xs : Nat → Int32} (C : am_Cx G X RL cL_law 9 (some .boolean) tz Q) (S : LSc G X b L xs) (hL : L ≤ 3072) (hc : 6 * c + 6 ≤ L) (D : LL Λ x y o) (V : LInv I x y) (hk : k + 8 ≤ 601024 ∧ n + 40 ≤ 7293034) (kk : ∀ (I' : am_I) (J' : am_J) (k' n' : Nat), LInv I' x y → k' ≤ k + 8 → n' ≤ n + 40 → am_K G X room_1 9 Λ I' J' k' n' 2922 (lw_LS b x y o c) []) : am_K G X room_1 9 Λ I J k n 691 (lw_LS b x y o c) [] := by
  obtain ⟨hx, hy, ho, hxy, hyo⟩ := D
  obtain ⟨tb, n0, err, r, ct, hs, kp, sn, w, hR, hM, hO⟩ := V
  refine k_aload_n C (f := 1) (i := 1) (p := 1) rfl rfl dL_law_691 ?_
  refine k_aload_n C (f := 0) (i := 0) (p := 0) rfl rfl dL_law_692 ?_
  refine k_iload C (i := 4) (p := 4) rfl dL_law_693 ?_
  refine k_iconst C ic_1 dL_law_695 ?_
  refine k_iadd C dL_law_696 ?_
  refine k_sld C S hL (nI_add (6 * c) 1) (by omega) dL_law_697 ?_
  refine k_aload_n C (f := 3) (i := 3) (p := 3) rfl rfl dL_law_698 ?_
  refine k_callSH C s_L_204 h_L_wellKilometre (ct_L_wellKilometre hx (RR_r hR) ho) rfl rfl (Nat.le_of_ble_eq_true rfl) ⟨Nat.le_of_ble_eq_true rfl, Nat.le_of_ble_eq_true rfl⟩ (show k + 1 ≤ 601024 ∧ n + 6 ≤ 7293034 by omega) dL_law_699 (fun v Λ1 I1 J1 hv => ?_) (fun _ _ _ _ h => h.elim)
  obtain ⟨rfl, rfl, hJ1, hA, hB⟩ := hv
  have e1 : I1 = I := Classical.byCases (fun q => (hA q).2) (fun q => hB q)
  subst e1
  have hM1 := hM
  refine k_istore C (i := 5) (lv := (5, _) :: lw_LS b x y o c) (Nat.le_of_ble_eq_true rfl) rfl dL_law_702 ?_
  refine k_aload_n C (f := 2) (i := 2) (p := 3) rfl rfl dL_law_704 ?_
  refine k_aload_n C (f := 0) (i := 0) (p := 1) rfl rfl dL_law_705 ?_
  refine k_iload C (i := 4) (p := 5) rfl dL_law_706 ?_
  refine k_iconst C ic_1 dL_law_708 ?_
  refine k_iadd C dL_law_709 ?_
  refine k_sld C S hL (nI_add (6 * c) 1) (by omega) dL_law_710 ?_
  refine k_callVg C s_L_206 h_X6_wellKilometre (L6_s hy) rfl (ct_X6_wellKilometre hy (MM_r hM1) hO.1) rfl rfl (Nat.le_of_ble_eq_true rfl) ⟨Nat.le_of_ble_eq_true rfl, Nat.le_of_ble_eq_true rfl⟩ (show k + 1 ≤ 601024 ∧ n + 6 ≤ 7293034 by omega) ⟨rfl, rfl⟩ dL_law_711 ?_
  intro v I2 hv
  obtain ⟨⟨bb, rfl⟩, hval, rfl⟩ := hv
  refine k_istore C (i := 6) (lv := (6, _) :: (5, _) :: lw_LS b x y o c) (Nat.le_of_ble_eq_true rfl) rfl dL_law_714 ?_
  have hcd : _ < 2 ^ 31 := lw_of hA (by
    repeat' refine lw_lt ?_ ?_
    all_goals decide)
  exact lw_tail (k := k + 1) (n := n + 6) C hy ho am_up_eq hcd (fun q => (hA q).1.trans (congrArg Int32.toInt64 (Value.int.inj (Option.some.inj (hval q))).symm)) dL_law_716 dL_law_717 dL_law_720 dL_law_722 dL_law_727 dL_law_729 dL_law_732 dL_law_733 dL_law_734 dL_law_735 dL_law_737 dL_law_738 dL_law_739 dL_law_744 (by decide) (show k + 1 ≤ 601024 ∧ n + 6 ≤ 7293034 by omega) (kk _ _ (k + 1) (n + 6) (LInv_q hR hM hO hxy) (by omega) (by omega))
set_option maxHeartbeats 4000000 in
set_option maxRecDepth 100000 in
theorem lw_c13 {G : am_G} {X : am_X} {tz : List ExceptionTableEntry} {Q : State → Prop} {Λ : am_L} {I : am_I} {J : am_J} {k n b x y o c L : Nat} {xs : Nat → Int32} (C : am_Cx G X RL cL_law 9 (some .boolean) tz Q) (S : LSc G X b L xs) (hL : L ≤ 3072) (hc : 6 * c + 6 ≤ L) (D : LL Λ x y o) (V : LInv I x y) (hk : k + 8 ≤ 601024 ∧ n + 40 ≤ 7293034) (kk : ∀ (I' : am_I) (J' : am_J) (k' n' : Nat), LInv I' x y → k' ≤ k + 8 → n' ≤ n + 40 → am_K G X room_1 9 Λ I' J' k' n' 2922 (lw_LS b x y o c) []) : am_K G X room_1 9 Λ I J k n 747 (lw_LS b x y o c) [] := by
  obtain ⟨hx, hy, ho, hxy, hyo⟩ := D
  obtain ⟨tb, n0, err, r, ct, hs, kp, sn, w, hR, hM, hO⟩ := V
  refine k_aload_n C (f := 1) (i := 1) (p := 1) rfl rfl dL_law_747 ?_
  refine k_aload_n C (f := 0) (i := 0) (p := 0) rfl rfl dL_law_748 ?_
  refine k_iload C (i := 4) (p := 4) rfl dL_law_749 ?_
  refine k_iconst C ic_1 dL_law_751 ?_
  refine k_iadd C dL_law_752 ?_
  refine k_sld C S hL (nI_add (6 * c) 1) (by omega) dL_law_753 ?_
  refine k_aload_n C (f := 3) (i := 3) (p := 3) rfl rfl dL_law_754 ?_
  refine k_callSH C s_L_207 h_L_wellLevel (ct_L_wellLevel hx (RR_r hR) ho) rfl rfl (Nat.le_of_ble_eq_true rfl) ⟨Nat.le_of_ble_eq_true rfl, Nat.le_of_ble_eq_true rfl⟩ (show k + 1 ≤ 601024 ∧ n + 6 ≤ 7293034 by omega) dL_law_755 (fun v Λ1 I1 J1 hv => ?_) (fun _ _ _ _ h => h.elim)
  obtain ⟨rfl, rfl, hJ1, hA, hB⟩ := hv
  have e1 : I1 = I := Classical.byCases (fun q => (hA q).2) (fun q => hB q)
  subst e1
  have hM1 := hM
  refine k_istore C (i := 5) (lv := (5, _) :: lw_LS b x y o c) (Nat.le_of_ble_eq_true rfl) rfl dL_law_758 ?_
  refine k_aload_n C (f := 2) (i := 2) (p := 3) rfl rfl dL_law_760 ?_
  refine k_aload_n C (f := 0) (i := 0) (p := 1) rfl rfl dL_law_761 ?_
  refine k_iload C (i := 4) (p := 5) rfl dL_law_762 ?_
  refine k_iconst C ic_1 dL_law_764 ?_
  refine k_iadd C dL_law_765 ?_
  refine k_sld C S hL (nI_add (6 * c) 1) (by omega) dL_law_766 ?_
  refine k_callVg C s_L_209 h_X6_wellLevel (L6_s hy) rfl (ct_X6_wellLevel hy (MM_r hM1) hO.1) rfl rfl (Nat.le_of_ble_eq_true rfl) ⟨Nat.le_of_ble_eq_true rfl, Nat.le_of_ble_eq_true rfl⟩ (show k + 1 ≤ 601024 ∧ n + 6 ≤ 7293034 by omega) ⟨rfl, rfl⟩ dL_law_767 ?_
  intro v I2 hv
  obtain ⟨⟨bb, rfl⟩, hval, rfl⟩ := hv
  refine k_istore C (i := 6) (lv := (6, _) :: (5, _) :: lw_LS b x y o c) (Nat.le_of_ble_eq_true rfl) rfl dL_law_770 ?_
  have hcd : _ < 2 ^ 31 := lw_of hA (by
    repeat' refine lw_lt ?_ ?_
    all_goals decide)
  exact lw_tail (k := k + 1) (n := n + 6) C hy ho am_up_eq hcd (fun q => (hA q).1.trans (congrArg Int32.toInt64 (Value.int.inj (Option.some.inj (hval q))).symm)) dL_law_772 dL_law_773 dL_law_776 dL_law_778 dL_law_783 dL_law_785 dL_law_788 dL_law_789 dL_law_790 dL_law_791 dL_law_793 dL_law_794 dL_law_795 dL_law_800 (by decide) (show k + 1 ≤ 601024 ∧ n + 6 ≤ 7293034 by omega) (kk _ _ (k + 1) (n + 6) (LInv_q hR hM hO hxy) (by omega) (by omega))
set_option maxHeartbeats 4000000 in
set_option maxRecDepth 100000 in
theorem lw_c14 {G : am_G} {X : am_X} {tz : List ExceptionTableEntry} {Q : State → Prop} {Λ : am_L} {I : am_I} {J : am_J} {k n b x y o c L : Nat} {xs : Nat → Int32} (C : am_Cx G X RL cL_law 9 (some .boolean) tz Q) (S : LSc G X b L xs) (hL : L ≤ 3072) (hc : 6 * c + 6 ≤ L) (D : LL Λ x y o) (V : LInv I x y) (hk : k + 8 ≤ 601024 ∧ n + 40 ≤ 7293034) (kk : ∀ (I' : am_I) (J' : am_J) (k' n' : Nat), LInv I' x y → k' ≤ k + 8 → n' ≤ n + 40 → am_K G X room_1 9 Λ I' J' k' n' 2922 (lw_LS b x y o c) []) : am_K G X room_1 9 Λ I J k n 803 (lw_LS b x y o c) [] := by
  obtain ⟨hx, hy, ho, hxy, hyo⟩ := D
  obtain ⟨tb, n0, err, r, ct, hs, kp, sn, w, hR, hM, hO⟩ := V
  refine k_aload_n C (f := 1) (i := 1) (p := 1) rfl rfl dL_law_803 ?_
  refine k_aload_n C (f := 0) (i := 0) (p := 0) rfl rfl dL_law_804 ?_
  refine k_iload C (i := 4) (p := 4) rfl dL_law_805 ?_
  refine k_iconst C ic_1 dL_law_807 ?_
  refine k_iadd C dL_law_808 ?_
  refine k_sld C S hL (nI_add (6 * c) 1) (by omega) dL_law_809 ?_
  refine k_aload_n C (f := 3) (i := 3) (p := 3) rfl rfl dL_law_810 ?_
  refine k_callSH C s_L_210 h_L_wellCapacity (ct_L_wellCapacity hx (RR_r hR) ho) rfl rfl (Nat.le_of_ble_eq_true rfl) ⟨Nat.le_of_ble_eq_true rfl, Nat.le_of_ble_eq_true rfl⟩ (show k + 1 ≤ 601024 ∧ n + 6 ≤ 7293034 by omega) dL_law_811 (fun v Λ1 I1 J1 hv => ?_) (fun _ _ _ _ h => h.elim)
  obtain ⟨rfl, rfl, hJ1, hA, hB⟩ := hv
  have e1 : I1 = I := Classical.byCases (fun q => (hA q).2) (fun q => hB q)
  subst e1
  have hM1 := hM
  refine k_istore C (i := 5) (lv := (5, _) :: lw_LS b x y o c) (Nat.le_of_ble_eq_true rfl) rfl dL_law_814 ?_
  refine k_aload_n C (f := 2) (i := 2) (p := 3) rfl rfl dL_law_816 ?_
  refine k_aload_n C (f := 0) (i := 0) (p := 1) rfl rfl dL_law_817 ?_
  refine k_iload C (i := 4) (p := 5) rfl dL_law_818 ?_
  refine k_iconst C ic_1 dL_law_820 ?_
  refine k_iadd C dL_law_821 ?_
  refine k_sld C S hL (nI_add (6 * c) 1) (by omega) dL_law_822 ?_
  refine k_callVg C s_L_212 h_X6_wellCapacity (L6_s hy) rfl (ct_X6_wellCapacity hy (MM_r hM1) hO.1) rfl rfl (Nat.le_of_ble_eq_true rfl) ⟨Nat.le_of_ble_eq_true rfl, Nat.le_of_ble_eq_true rfl⟩ (show k + 1 ≤ 601024 ∧ n + 6 ≤ 7293034 by omega) ⟨rfl, rfl⟩ dL_law_823 ?_
  intro v I2 hv
  obtain ⟨⟨bb, rfl⟩, hval, rfl⟩ := hv
  refine k_istore C (i := 6) (lv := (6, _) :: (5, _) :: lw_LS b x y o c) (Nat.le_of_ble_eq_true rfl) rfl dL_law_826 ?_
  have hcd : _ < 2 ^ 31 := lw_of hA (by
    repeat' refine lw_lt ?_ ?_
    all_goals decide)
  exact lw_tail (k := k + 1) (n := n + 6) C hy ho am_up_eq hcd (fun q => (hA q).1.trans (congrArg Int32.toInt64 (Value.int.inj (Option.some.inj (hval q))).symm)) dL_law_828 dL_law_829 dL_law_832 dL_law_834 dL_law_839 dL_law_841 dL_law_844 dL_law_845 dL_law_846 dL_law_847 dL_law_849 dL_law_850 dL_law_851 dL_law_856 (by decide) (show k + 1 ≤ 601024 ∧ n + 6 ≤ 7293034 by omega) (kk _ _ (k + 1) (n + 6) (LInv_q hR hM hO hxy) (by omega) (by omega))
