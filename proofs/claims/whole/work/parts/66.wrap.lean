/-! ===== the law: one call of the class, its exception as a number ===== -/
theorem am_cl_RL_13 : Cond.classLink RL 13 "java/lang/IllegalStateException" ∈ am_tbl := am_wd 653 (by decide +kernel) rfl
theorem am_ca_13 : Cond.castable "java/lang/IllegalStateException" "java/lang/IllegalStateException" ∈ lw_tbl := List.mem_of_getElem? (i := 660) (by decide +kernel)
theorem am_cl_RL_19 : Cond.classLink RL 19 "java/lang/IllegalArgumentException" ∈ am_tbl := am_wd 733 (by decide +kernel) rfl
theorem am_ca_19 : Cond.castable "java/lang/IllegalArgumentException" "java/lang/IllegalArgumentException" ∈ lw_tbl := List.mem_of_getElem? (i := 740) (by decide +kernel)
theorem am_cl_RL_28 : Cond.classLink RL 28 "java/util/NoSuchElementException" ∈ am_tbl := am_wd 769 (by decide +kernel) rfl
theorem am_ca_28 : Cond.castable "java/util/NoSuchElementException" "java/util/NoSuchElementException" ∈ lw_tbl := List.mem_of_getElem? (i := 776) (by decide +kernel)
theorem am_cl_RL_36 : Cond.classLink RL 36 "java/lang/IndexOutOfBoundsException" ∈ am_tbl := am_wd 802 (by decide +kernel) rfl
theorem am_ca_36 : Cond.castable "java/lang/IndexOutOfBoundsException" "java/lang/IndexOutOfBoundsException" ∈ lw_tbl := List.mem_of_getElem? (i := 813) (by decide +kernel)
def WC (o cd : Nat) (vv : Int32) (Λ : am_L) (J : am_J) (old new : am_I → Prop) : am_PT := fun v Λ' I' J' => v = some (.int (nI cd)) ∧ Λ' = Λ ∧ (∀ b : Nat, b ≠ o → J' b = J b) ∧ (cd = 0 → J' o 0 = vv.toInt64 ∧ new I') ∧ (¬ cd = 0 → old I')
theorem WC_ok {o cd : Nat} {vv : Int32} {z : Int64} {Λ : am_L} {I' : am_I} {J : am_J} {old new : am_I → Prop} (hc : cd = 0) (hz : z = vv.toInt64) (hn : new I') : WC o cd vv Λ J old new (some (.int (nI 0))) Λ I' (am_ul J o 0 z) := by
  subst hc
  exact ⟨rfl, rfl, fun b hb => am_ul_ne hb, fun _ => ⟨by rw [am_ul_eq]; exact hz, hn⟩, fun h => absurd rfl h⟩
theorem WC_no {o cd c : Nat} {vv : Int32} {Λ : am_L} {I' : am_I} {J : am_J} {old new : am_I → Prop} (hc : cd = c) (h0 : c ≠ 0) (ho : old I') : WC o cd vv Λ J old new (some (.int (nI c))) Λ I' J := by
  subst hc
  exact ⟨rfl, rfl, fun _ _ => rfl, fun h => absurd h h0, fun _ => ho⟩
set_option maxHeartbeats 4000000 in
set_option maxRecDepth 100000 in
theorem ct_L_append {G : am_G} {Λ : am_L} {I : am_I} {J : am_J} {x n ct : Nat} {tb : Nat → Nat} {err : Int32} {r : Nat → Int32} {hs : Nat → Nat → Int32} {kp : Nat → Bool} {sn : Nat → Nat → Int32} {w : Nat × (Nat → Int32)} {a b c d e : Int32}{o : Nat}  (hx : RouLay Λ x) (hR : RouRel I x tb n err r ct hs kp sn w) (ho : Λ.1 o = (5, 1)) : am_CtH G yL_append cL_append 8 (some .int) [(0, 16, 19, 13)] { frames := 7, cells := 1, slots := 6, locals := 115 } [.ref x, .int a, .int b, .int c, .int d, .int e, .ref o] Λ I J (WC o (if 700 < n + 20 then 1 else 0) (nI (n + 20)) Λ J (fun I' => I' = I) (fun I' => RouRel I' x ((sp_tbs (sp_tbs (sp_tbs (sp_tbs (sp_tbs tb n a 4) (n + 4) b 4) (n + 8) c 4) (n + 12) d 4) (n + 16) e 4)) (n + 20) (err) (r) (ct) (hs) (kp) (sn) (w) ∧ RFr x I I')) am_never := by
  refine am_ctH_of (own := RL) rfl (by decide) (Nat.le_of_ble_eq_true rfl) (fun X C => ?_)
  change am_K G X { frames := 7, cells := 1, slots := 6, locals := 115 } 8 Λ I J 0 0 0 [(0, .ref x), (1, .int a), (2, .int b), (3, .int c), (4, .int d), (5, .int e), (6, .ref o)] []
  refine k_aload C (i := 6) (p := 6) rfl dL_append_0 ?_
  refine k_iconst C ic_0 dL_append_2 ?_
  refine k_aload_n C (f := 0) (i := 0) (p := 0) rfl rfl dL_append_3 ?_
  refine k_iload_n C (f := 1) (i := 1) (p := 1) rfl rfl dL_append_4 ?_
  refine k_iload_n C (f := 2) (i := 2) (p := 2) rfl rfl dL_append_5 ?_
  refine k_iload_n C (f := 3) (i := 3) (p := 3) rfl rfl dL_append_6 ?_
  refine k_iload C (i := 4) (p := 4) rfl dL_append_7 ?_
  refine k_iload C (i := 5) (p := 5) rfl dL_append_9 ?_
  refine k_callV C s_L_7 h_X5_append (L5_s hx) rfl (ct_X5_append hx hR) rfl rfl (Nat.le_of_ble_eq_true rfl) ⟨Nat.le_of_ble_eq_true rfl, Nat.le_of_ble_eq_true rfl⟩ ⟨Nat.le_of_ble_eq_true rfl, Nat.le_of_ble_eq_true rfl⟩ dL_append_11 ?_ ?_
  · skip
    intro v Λ' I' J' hv
    obtain ⟨rfl, hcd, rfl, rfl, hP⟩ := hv
    refine k_i2l C (rfl) dL_append_14 ?_
    refine k_last C (ho) (by first | rfl | assumption) (by omega) (by decide) dL_append_15 ?_
    refine k_goto C (tgt := 23) (by decide) dL_append_16 ?_
    refine k_iconst C ic_0 dL_append_23 ?_
    exact k_iret C (Nat.le_of_ble_eq_true rfl) (Nat.le_of_ble_eq_true rfl) (WC_ok hcd (rfl) hP) dL_append_24
  · skip
    intro E Λ' I' J' hp
    obtain ⟨rfl, hcd, rfl, rfl, rfl⟩ := hp
    refine k_catch C [] ⟨0, 16, 19, 13⟩ [] rfl (fun z hz => nomatch hz) (by decide) (by decide) am_cl_RL_13 am_ca_13 (fun q => ?_)
    refine k_astore C (i := 7) (lv := [(7, _), (0, _), (1, _), (2, _), (3, _), (4, _), (5, _), (6, _)]) (Nat.le_of_ble_eq_true rfl) rfl dL_append_19 ?_
    refine k_iconst C ic_1 dL_append_21 ?_
    exact k_iret C (Nat.le_of_ble_eq_true rfl) (Nat.le_of_ble_eq_true rfl) (WC_no hcd (by decide) rfl) dL_append_22
set_option maxHeartbeats 4000000 in
set_option maxRecDepth 100000 in
theorem ct_L_shorten {G : am_G} {Λ : am_L} {I : am_I} {J : am_J} {x n ct : Nat} {tb : Nat → Nat} {err : Int32} {r : Nat → Int32} {hs : Nat → Nat → Int32} {kp : Nat → Bool} {sn : Nat → Nat → Int32} {w : Nat × (Nat → Int32)} {a : Int32}{o : Nat}  (hx : RouLay Λ x) (hR : RouRel I x tb n err r ct hs kp sn w) (ho : Λ.1 o = (5, 1)) : am_CtH G yL_shorten cL_shorten 4 (some .int) [(0, 9, 12, 19)] { frames := 7, cells := 1, slots := 6, locals := 111 } [.ref x, .int a, .ref o] Λ I J (WC o (if a < 0 ∨ nI n < a then 1 else 0) a Λ J (fun I' => I' = I) (fun I' => RouRel I' x (tb) (a.toNatClampNeg) (err) (r) (ct) (hs) (kp) (sn) (w) ∧ RFr x I I')) am_never := by
  refine am_ctH_of (own := RL) rfl (by decide) (Nat.le_of_ble_eq_true rfl) (fun X C => ?_)
  change am_K G X { frames := 7, cells := 1, slots := 6, locals := 111 } 4 Λ I J 0 0 0 [(0, .ref x), (1, .int a), (2, .ref o)] []
  refine k_aload_n C (f := 2) (i := 2) (p := 2) rfl rfl dL_shorten_0 ?_
  refine k_iconst C ic_0 dL_shorten_1 ?_
  refine k_aload_n C (f := 0) (i := 0) (p := 0) rfl rfl dL_shorten_2 ?_
  refine k_iload_n C (f := 1) (i := 1) (p := 1) rfl rfl dL_shorten_3 ?_
  refine k_callV C s_L_15 h_X5_shorten (L5_s hx) rfl (ct_X5_shorten hx hR) rfl rfl (Nat.le_of_ble_eq_true rfl) ⟨Nat.le_of_ble_eq_true rfl, Nat.le_of_ble_eq_true rfl⟩ ⟨Nat.le_of_ble_eq_true rfl, Nat.le_of_ble_eq_true rfl⟩ dL_shorten_4 ?_ ?_
  · skip
    intro v Λ' I' J' hv
    obtain ⟨rfl, hcd, rfl, rfl, hP⟩ := hv
    refine k_i2l C (rfl) dL_shorten_7 ?_
    refine k_last C (ho) (by first | rfl | assumption) (by omega) (by decide) dL_shorten_8 ?_
    refine k_goto C (tgt := 15) (by decide) dL_shorten_9 ?_
    refine k_iconst C ic_0 dL_shorten_15 ?_
    exact k_iret C (Nat.le_of_ble_eq_true rfl) (Nat.le_of_ble_eq_true rfl) (WC_ok hcd (rfl) hP) dL_shorten_16
  · skip
    intro E Λ' I' J' hp
    obtain ⟨rfl, hcd, rfl, rfl, rfl⟩ := hp
    refine k_catch C [] ⟨0, 9, 12, 19⟩ [] rfl (fun z hz => nomatch hz) (by decide) (by decide) am_cl_RL_19 am_ca_19 (fun q => ?_)
    refine k_astore_n C (f := 3) (i := 3) (lv := [(3, _), (0, _), (1, _), (2, _)]) rfl (Nat.le_of_ble_eq_true rfl) rfl dL_shorten_12 ?_
    refine k_iconst C ic_1 dL_shorten_13 ?_
    exact k_iret C (Nat.le_of_ble_eq_true rfl) (Nat.le_of_ble_eq_true rfl) (WC_no hcd (by decide) rfl) dL_shorten_14
set_option maxHeartbeats 4000000 in
set_option maxRecDepth 100000 in
theorem ct_L_load {G : am_G} {Λ : am_L} {I : am_I} {J : am_J} {x n ct : Nat} {tb : Nat → Nat} {err : Int32} {r : Nat → Int32} {hs : Nat → Nat → Int32} {kp : Nat → Bool} {sn : Nat → Nat → Int32} {w : Nat × (Nat → Int32)} {o : Nat}  (hx : RouLay Λ x) (hR : RouRel I x tb n err r ct hs kp sn w) (hp3 : ∀ r1, sp_parse tb n = .ok r1 → (r1 3 = 0 ∨ r1 3 = 1)) (ho : Λ.1 o = (5, 1)) : am_CtH G yL_load cL_load 3 (some .int) [(0, 8, 11, 19)] { frames := 9, cells := 1, slots := 6, locals := 193 } [.ref x, .ref o] Λ I J (fun v Λ' I' J' => Λ' = Λ ∧ (∀ b : Nat, b ≠ o → J' b = J b) ∧ RFr x I I' ∧ ((∃ r' : Nat → Int32, sp_parse tb n = .ok r' ∧ v = some (.int (nI 0)) ∧ J' o 0 = (nI (sp_nc r')).toInt64 ∧ RouRel I' x tb 0 (-1) r' 0 hs (fun _ => false) sn w) ∨ (∃ e : Nat, sp_parse tb n = .error e ∧ v = some (.int (nI 1)) ∧ e ≤ 700 ∧ RouRel I' x tb 0 (nI e) r ct hs kp sn w))) am_never := by
  refine am_ctH_of (own := RL) rfl (by decide) (Nat.le_of_ble_eq_true rfl) (fun X C => ?_)
  change am_K G X { frames := 9, cells := 1, slots := 6, locals := 193 } 3 Λ I J 0 0 0 [(0, .ref x), (1, .ref o)] []
  refine k_aload_n C (f := 1) (i := 1) (p := 1) rfl rfl dL_load_0 ?_
  refine k_iconst C ic_0 dL_load_1 ?_
  refine k_aload_n C (f := 0) (i := 0) (p := 0) rfl rfl dL_load_2 ?_
  refine k_callV C s_L_21 h_X5_load (L5_s hx) rfl (ct_X5_load hx hR hp3) rfl rfl (Nat.le_of_ble_eq_true rfl) ⟨Nat.le_of_ble_eq_true rfl, Nat.le_of_ble_eq_true rfl⟩ ⟨Nat.le_of_ble_eq_true rfl, Nat.le_of_ble_eq_true rfl⟩ dL_load_3 ?_ ?_
  · skip
    intro v Λ' I' J' hv
    obtain ⟨⟨r', hp, rfl, hR'⟩, rfl, rfl, hF⟩ := hv
    refine k_i2l C (rfl) dL_load_6 ?_
    refine k_last C (ho) (by first | rfl | assumption) (by omega) (by decide) dL_load_7 ?_
    refine k_goto C (tgt := 14) (by decide) dL_load_8 ?_
    refine k_iconst C ic_0 dL_load_14 ?_
    exact k_iret C (Nat.le_of_ble_eq_true rfl) (Nat.le_of_ble_eq_true rfl) (⟨rfl, fun b hb => am_ul_ne hb, hF, Or.inl ⟨r', hp, rfl, am_ul_eq, hR'⟩⟩) dL_load_15
  · skip
    intro E Λ' I' J' hp
    obtain ⟨rfl, ⟨e, hp, he, hR'⟩, rfl, rfl, hF⟩ := hp
    refine k_catch C [] ⟨0, 8, 11, 19⟩ [] rfl (fun z hz => nomatch hz) (by decide) (by decide) am_cl_RL_19 am_ca_19 (fun q => ?_)
    refine k_astore_n C (f := 2) (i := 2) (lv := [(2, _), (0, _), (1, _)]) rfl (Nat.le_of_ble_eq_true rfl) rfl dL_load_11 ?_
    refine k_iconst C ic_1 dL_load_12 ?_
    exact k_iret C (Nat.le_of_ble_eq_true rfl) (Nat.le_of_ble_eq_true rfl) (⟨rfl, fun _ _ => rfl, hF, Or.inr ⟨e, hp, rfl, he, hR'⟩⟩) dL_load_13
set_option maxHeartbeats 4000000 in
set_option maxRecDepth 100000 in
theorem ct_L_errorOffset {G : am_G} {Λ : am_L} {I : am_I} {J : am_J} {x : Nat} {e : Int32}{o : Nat}  (hx : RouLay Λ x) (he : I x 1 = e) (ho : Λ.1 o = (5, 1)) : am_CtH G yL_errorOffset cL_errorOffset 3 (some .int) [(0, 8, 11, 28)] { frames := 7, cells := 1, slots := 6, locals := 110 } [.ref x, .ref o] Λ I J (WC o (if e = -1 then 1 else 0) e Λ J (fun I' => I' = I) (fun I' => I' = I)) am_never := by
  refine am_ctH_of (own := RL) rfl (by decide) (Nat.le_of_ble_eq_true rfl) (fun X C => ?_)
  change am_K G X { frames := 7, cells := 1, slots := 6, locals := 110 } 3 Λ I J 0 0 0 [(0, .ref x), (1, .ref o)] []
  refine k_aload_n C (f := 1) (i := 1) (p := 1) rfl rfl dL_errorOffset_0 ?_
  refine k_iconst C ic_0 dL_errorOffset_1 ?_
  refine k_aload_n C (f := 0) (i := 0) (p := 0) rfl rfl dL_errorOffset_2 ?_
  refine k_callV C s_L_25 h_X5_errorOffset (L5_s hx) rfl (ct_X5_errorOffset hx he) rfl rfl (Nat.le_of_ble_eq_true rfl) ⟨Nat.le_of_ble_eq_true rfl, Nat.le_of_ble_eq_true rfl⟩ ⟨Nat.le_of_ble_eq_true rfl, Nat.le_of_ble_eq_true rfl⟩ dL_errorOffset_3 ?_ ?_
  · skip
    intro v Λ' I' J' hv
    obtain ⟨rfl, hcd, rfl, rfl, rfl⟩ := hv
    refine k_i2l C (rfl) dL_errorOffset_6 ?_
    refine k_last C (ho) (by first | rfl | assumption) (by omega) (by decide) dL_errorOffset_7 ?_
    refine k_goto C (tgt := 14) (by decide) dL_errorOffset_8 ?_
    refine k_iconst C ic_0 dL_errorOffset_14 ?_
    exact k_iret C (Nat.le_of_ble_eq_true rfl) (Nat.le_of_ble_eq_true rfl) (WC_ok hcd (rfl) rfl) dL_errorOffset_15
  · skip
    intro E Λ' I' J' hp
    obtain ⟨rfl, hcd, rfl, rfl, rfl⟩ := hp
    refine k_catch C [] ⟨0, 8, 11, 28⟩ [] rfl (fun z hz => nomatch hz) (by decide) (by decide) am_cl_RL_28 am_ca_28 (fun q => ?_)
    refine k_astore_n C (f := 2) (i := 2) (lv := [(2, _), (0, _), (1, _)]) rfl (Nat.le_of_ble_eq_true rfl) rfl dL_errorOffset_11 ?_
    refine k_iconst C ic_1 dL_errorOffset_12 ?_
    exact k_iret C (Nat.le_of_ble_eq_true rfl) (Nat.le_of_ble_eq_true rfl) (WC_no hcd (by decide) rfl) dL_errorOffset_13
set_option maxHeartbeats 4000000 in
set_option maxRecDepth 100000 in
theorem ct_L_stormOn {G : am_G} {Λ : am_L} {I : am_I} {J : am_J} {x : Nat} {r : Nat → Int32} {d : Int32}{o : Nat}  (hx : RouLay Λ x) (hr : CarRel I (x + 34) (x + 35) (x + 24) r) (ho : Λ.1 o = (5, 1)) : am_CtH G yL_stormOn cL_stormOn 4 (some .int) [(0, 9, 12, 19)] { frames := 7, cells := 1, slots := 6, locals := 111 } [.ref x, .int d, .ref o] Λ I J (WC o (if d < 0 ∨ nI 999 < d then 1 else 0) (sp_storm r d) Λ J (fun I' => I' = I) (fun I' => I' = I)) am_never := by
  refine am_ctH_of (own := RL) rfl (by decide) (Nat.le_of_ble_eq_true rfl) (fun X C => ?_)
  change am_K G X { frames := 7, cells := 1, slots := 6, locals := 111 } 4 Λ I J 0 0 0 [(0, .ref x), (1, .int d), (2, .ref o)] []
  refine k_aload_n C (f := 2) (i := 2) (p := 2) rfl rfl dL_stormOn_0 ?_
  refine k_iconst C ic_0 dL_stormOn_1 ?_
  refine k_aload_n C (f := 0) (i := 0) (p := 0) rfl rfl dL_stormOn_2 ?_
  refine k_iload_n C (f := 1) (i := 1) (p := 1) rfl rfl dL_stormOn_3 ?_
  refine k_callV C s_L_30 h_X5_stormOn (L5_s hx) rfl (ct_X5_stormOn hx hr) rfl rfl (Nat.le_of_ble_eq_true rfl) ⟨Nat.le_of_ble_eq_true rfl, Nat.le_of_ble_eq_true rfl⟩ ⟨Nat.le_of_ble_eq_true rfl, Nat.le_of_ble_eq_true rfl⟩ dL_stormOn_4 ?_ ?_
  · skip
    intro v Λ' I' J' hv
    obtain ⟨rfl, hcd, rfl, rfl, rfl⟩ := hv
    refine k_i2l C (rfl) dL_stormOn_7 ?_
    refine k_last C (ho) (by first | rfl | assumption) (by omega) (by decide) dL_stormOn_8 ?_
    refine k_goto C (tgt := 15) (by decide) dL_stormOn_9 ?_
    refine k_iconst C ic_0 dL_stormOn_15 ?_
    exact k_iret C (Nat.le_of_ble_eq_true rfl) (Nat.le_of_ble_eq_true rfl) (WC_ok hcd (rfl) rfl) dL_stormOn_16
  · skip
    intro E Λ' I' J' hp
    obtain ⟨rfl, hcd, rfl, rfl, rfl⟩ := hp
    refine k_catch C [] ⟨0, 9, 12, 19⟩ [] rfl (fun z hz => nomatch hz) (by decide) (by decide) am_cl_RL_19 am_ca_19 (fun q => ?_)
    refine k_astore_n C (f := 3) (i := 3) (lv := [(3, _), (0, _), (1, _), (2, _)]) rfl (Nat.le_of_ble_eq_true rfl) rfl dL_stormOn_12 ?_
    refine k_iconst C ic_1 dL_stormOn_13 ?_
    exact k_iret C (Nat.le_of_ble_eq_true rfl) (Nat.le_of_ble_eq_true rfl) (WC_no hcd (by decide) rfl) dL_stormOn_14
set_option maxHeartbeats 4000000 in
set_option maxRecDepth 100000 in
theorem ct_L_wellKilometre {G : am_G} {Λ : am_L} {I : am_I} {J : am_J} {x : Nat} {r : Nat → Int32} {c : Int32}{o : Nat}  (hx : RouLay Λ x) (hr : CarRel I (x + 34) (x + 35) (x + 24) r) (ho : Λ.1 o = (5, 1)) : am_CtH G yL_wellKilometre cL_wellKilometre 4 (some .int) [(0, 9, 12, 36)] { frames := 8, cells := 1, slots := 6, locals := 132 } [.ref x, .int c, .ref o] Λ I J (WC o (cdI (sp_nw r) c) (r (90 + 4 * c.toNatClampNeg)) Λ J (fun I' => I' = I) (fun I' => I' = I)) am_never := by
  refine am_ctH_of (own := RL) rfl (by decide) (Nat.le_of_ble_eq_true rfl) (fun X C => ?_)
  change am_K G X { frames := 8, cells := 1, slots := 6, locals := 132 } 4 Λ I J 0 0 0 [(0, .ref x), (1, .int c), (2, .ref o)] []
  refine k_aload_n C (f := 2) (i := 2) (p := 2) rfl rfl dL_wellKilometre_0 ?_
  refine k_iconst C ic_0 dL_wellKilometre_1 ?_
  refine k_aload_n C (f := 0) (i := 0) (p := 0) rfl rfl dL_wellKilometre_2 ?_
  refine k_iload_n C (f := 1) (i := 1) (p := 1) rfl rfl dL_wellKilometre_3 ?_
  refine k_callV C s_L_33 h_X5_wellKilometre (L5_s hx) rfl (ct_X5_wellKilometre hx hr) rfl rfl (Nat.le_of_ble_eq_true rfl) ⟨Nat.le_of_ble_eq_true rfl, Nat.le_of_ble_eq_true rfl⟩ ⟨Nat.le_of_ble_eq_true rfl, Nat.le_of_ble_eq_true rfl⟩ dL_wellKilometre_4 ?_ ?_
  · skip
    intro v Λ' I' J' hv
    obtain ⟨rfl, hcd, rfl, rfl, rfl⟩ := hv
    refine k_i2l C (rfl) dL_wellKilometre_7 ?_
    refine k_last C (ho) (by first | rfl | assumption) (by omega) (by decide) dL_wellKilometre_8 ?_
    refine k_goto C (tgt := 15) (by decide) dL_wellKilometre_9 ?_
    refine k_iconst C ic_0 dL_wellKilometre_15 ?_
    exact k_iret C (Nat.le_of_ble_eq_true rfl) (Nat.le_of_ble_eq_true rfl) (WC_ok hcd (rfl) rfl) dL_wellKilometre_16
  · skip
    intro E Λ' I' J' hp
    obtain ⟨rfl, hcd, rfl, rfl, rfl⟩ := hp
    refine k_catch C [] ⟨0, 9, 12, 36⟩ [] rfl (fun z hz => nomatch hz) (by decide) (by decide) am_cl_RL_36 am_ca_36 (fun q => ?_)
    refine k_astore_n C (f := 3) (i := 3) (lv := [(3, _), (0, _), (1, _), (2, _)]) rfl (Nat.le_of_ble_eq_true rfl) rfl dL_wellKilometre_12 ?_
    refine k_iconst C ic_1 dL_wellKilometre_13 ?_
    exact k_iret C (Nat.le_of_ble_eq_true rfl) (Nat.le_of_ble_eq_true rfl) (WC_no hcd (by decide) rfl) dL_wellKilometre_14
set_option maxHeartbeats 4000000 in
set_option maxRecDepth 100000 in
theorem ct_L_wellLevel {G : am_G} {Λ : am_L} {I : am_I} {J : am_J} {x : Nat} {r : Nat → Int32} {c : Int32}{o : Nat}  (hx : RouLay Λ x) (hr : CarRel I (x + 34) (x + 35) (x + 24) r) (ho : Λ.1 o = (5, 1)) : am_CtH G yL_wellLevel cL_wellLevel 4 (some .int) [(0, 9, 12, 36)] { frames := 8, cells := 1, slots := 6, locals := 132 } [.ref x, .int c, .ref o] Λ I J (WC o (cdI (sp_nw r) c) (r (93 + 4 * c.toNatClampNeg)) Λ J (fun I' => I' = I) (fun I' => I' = I)) am_never := by
  refine am_ctH_of (own := RL) rfl (by decide) (Nat.le_of_ble_eq_true rfl) (fun X C => ?_)
  change am_K G X { frames := 8, cells := 1, slots := 6, locals := 132 } 4 Λ I J 0 0 0 [(0, .ref x), (1, .int c), (2, .ref o)] []
  refine k_aload_n C (f := 2) (i := 2) (p := 2) rfl rfl dL_wellLevel_0 ?_
  refine k_iconst C ic_0 dL_wellLevel_1 ?_
  refine k_aload_n C (f := 0) (i := 0) (p := 0) rfl rfl dL_wellLevel_2 ?_
  refine k_iload_n C (f := 1) (i := 1) (p := 1) rfl rfl dL_wellLevel_3 ?_
  refine k_callV C s_L_38 h_X5_wellLevel (L5_s hx) rfl (ct_X5_wellLevel hx hr) rfl rfl (Nat.le_of_ble_eq_true rfl) ⟨Nat.le_of_ble_eq_true rfl, Nat.le_of_ble_eq_true rfl⟩ ⟨Nat.le_of_ble_eq_true rfl, Nat.le_of_ble_eq_true rfl⟩ dL_wellLevel_4 ?_ ?_
  · skip
    intro v Λ' I' J' hv
    obtain ⟨rfl, hcd, rfl, rfl, rfl⟩ := hv
    refine k_i2l C (rfl) dL_wellLevel_7 ?_
    refine k_last C (ho) (by first | rfl | assumption) (by omega) (by decide) dL_wellLevel_8 ?_
    refine k_goto C (tgt := 15) (by decide) dL_wellLevel_9 ?_
    refine k_iconst C ic_0 dL_wellLevel_15 ?_
    exact k_iret C (Nat.le_of_ble_eq_true rfl) (Nat.le_of_ble_eq_true rfl) (WC_ok hcd (rfl) rfl) dL_wellLevel_16
  · skip
    intro E Λ' I' J' hp
    obtain ⟨rfl, hcd, rfl, rfl, rfl⟩ := hp
    refine k_catch C [] ⟨0, 9, 12, 36⟩ [] rfl (fun z hz => nomatch hz) (by decide) (by decide) am_cl_RL_36 am_ca_36 (fun q => ?_)
    refine k_astore_n C (f := 3) (i := 3) (lv := [(3, _), (0, _), (1, _), (2, _)]) rfl (Nat.le_of_ble_eq_true rfl) rfl dL_wellLevel_12 ?_
    refine k_iconst C ic_1 dL_wellLevel_13 ?_
    exact k_iret C (Nat.le_of_ble_eq_true rfl) (Nat.le_of_ble_eq_true rfl) (WC_no hcd (by decide) rfl) dL_wellLevel_14
set_option maxHeartbeats 4000000 in
set_option maxRecDepth 100000 in
theorem ct_L_wellCapacity {G : am_G} {Λ : am_L} {I : am_I} {J : am_J} {x : Nat} {r : Nat → Int32} {c : Int32}{o : Nat}  (hx : RouLay Λ x) (hr : CarRel I (x + 34) (x + 35) (x + 24) r) (ho : Λ.1 o = (5, 1)) : am_CtH G yL_wellCapacity cL_wellCapacity 4 (some .int) [(0, 9, 12, 36)] { frames := 8, cells := 1, slots := 6, locals := 132 } [.ref x, .int c, .ref o] Λ I J (WC o (cdI (sp_nw r) c) (r (91 + 4 * c.toNatClampNeg)) Λ J (fun I' => I' = I) (fun I' => I' = I)) am_never := by
  refine am_ctH_of (own := RL) rfl (by decide) (Nat.le_of_ble_eq_true rfl) (fun X C => ?_)
  change am_K G X { frames := 8, cells := 1, slots := 6, locals := 132 } 4 Λ I J 0 0 0 [(0, .ref x), (1, .int c), (2, .ref o)] []
  refine k_aload_n C (f := 2) (i := 2) (p := 2) rfl rfl dL_wellCapacity_0 ?_
  refine k_iconst C ic_0 dL_wellCapacity_1 ?_
  refine k_aload_n C (f := 0) (i := 0) (p := 0) rfl rfl dL_wellCapacity_2 ?_
  refine k_iload_n C (f := 1) (i := 1) (p := 1) rfl rfl dL_wellCapacity_3 ?_
  refine k_callV C s_L_41 h_X5_wellCapacity (L5_s hx) rfl (ct_X5_wellCapacity hx hr) rfl rfl (Nat.le_of_ble_eq_true rfl) ⟨Nat.le_of_ble_eq_true rfl, Nat.le_of_ble_eq_true rfl⟩ ⟨Nat.le_of_ble_eq_true rfl, Nat.le_of_ble_eq_true rfl⟩ dL_wellCapacity_4 ?_ ?_
  · skip
    intro v Λ' I' J' hv
    obtain ⟨rfl, hcd, rfl, rfl, rfl⟩ := hv
    refine k_i2l C (rfl) dL_wellCapacity_7 ?_
    refine k_last C (ho) (by first | rfl | assumption) (by omega) (by decide) dL_wellCapacity_8 ?_
    refine k_goto C (tgt := 15) (by decide) dL_wellCapacity_9 ?_
    refine k_iconst C ic_0 dL_wellCapacity_15 ?_
    exact k_iret C (Nat.le_of_ble_eq_true rfl) (Nat.le_of_ble_eq_true rfl) (WC_ok hcd (rfl) rfl) dL_wellCapacity_16
  · skip
    intro E Λ' I' J' hp
    obtain ⟨rfl, hcd, rfl, rfl, rfl⟩ := hp
    refine k_catch C [] ⟨0, 9, 12, 36⟩ [] rfl (fun z hz => nomatch hz) (by decide) (by decide) am_cl_RL_36 am_ca_36 (fun q => ?_)
    refine k_astore_n C (f := 3) (i := 3) (lv := [(3, _), (0, _), (1, _), (2, _)]) rfl (Nat.le_of_ble_eq_true rfl) rfl dL_wellCapacity_12 ?_
    refine k_iconst C ic_1 dL_wellCapacity_13 ?_
    exact k_iret C (Nat.le_of_ble_eq_true rfl) (Nat.le_of_ble_eq_true rfl) (WC_no hcd (by decide) rfl) dL_wellCapacity_14
set_option maxHeartbeats 4000000 in
set_option maxRecDepth 100000 in
theorem ct_L_wellHere {G : am_G} {Λ : am_L} {I : am_I} {J : am_J} {x : Nat} {r : Nat → Int32} {o : Nat}  (hx : RouLay Λ x) (hr : CarRel I (x + 34) (x + 35) (x + 24) r) (ho : Λ.1 o = (5, 1)) : am_CtH G yL_wellHere cL_wellHere 3 (some .int) [(0, 8, 11, 28)] { frames := 7, cells := 1, slots := 6, locals := 111 } [.ref x, .ref o] Λ I J (WC o (if sp_wellOn r (r 1) = -1 then 1 else 0) (sp_wellOn r (r 1)) Λ J (fun I' => I' = I) (fun I' => I' = I)) am_never := by
  refine am_ctH_of (own := RL) rfl (by decide) (Nat.le_of_ble_eq_true rfl) (fun X C => ?_)
  change am_K G X { frames := 7, cells := 1, slots := 6, locals := 111 } 3 Λ I J 0 0 0 [(0, .ref x), (1, .ref o)] []
  refine k_aload_n C (f := 1) (i := 1) (p := 1) rfl rfl dL_wellHere_0 ?_
  refine k_iconst C ic_0 dL_wellHere_1 ?_
  refine k_aload_n C (f := 0) (i := 0) (p := 0) rfl rfl dL_wellHere_2 ?_
  refine k_callV C s_L_44 h_X5_wellHere (L5_s hx) rfl (ct_X5_wellHere hx hr) rfl rfl (Nat.le_of_ble_eq_true rfl) ⟨Nat.le_of_ble_eq_true rfl, Nat.le_of_ble_eq_true rfl⟩ ⟨Nat.le_of_ble_eq_true rfl, Nat.le_of_ble_eq_true rfl⟩ dL_wellHere_3 ?_ ?_
  · skip
    intro v Λ' I' J' hv
    obtain ⟨rfl, hcd, rfl, rfl, rfl⟩ := hv
    refine k_i2l C (rfl) dL_wellHere_6 ?_
    refine k_last C (ho) (by first | rfl | assumption) (by omega) (by decide) dL_wellHere_7 ?_
    refine k_goto C (tgt := 14) (by decide) dL_wellHere_8 ?_
    refine k_iconst C ic_0 dL_wellHere_14 ?_
    exact k_iret C (Nat.le_of_ble_eq_true rfl) (Nat.le_of_ble_eq_true rfl) (WC_ok hcd (rfl) rfl) dL_wellHere_15
  · skip
    intro E Λ' I' J' hp
    obtain ⟨rfl, hcd, rfl, rfl, rfl⟩ := hp
    refine k_catch C [] ⟨0, 8, 11, 28⟩ [] rfl (fun z hz => nomatch hz) (by decide) (by decide) am_cl_RL_28 am_ca_28 (fun q => ?_)
    refine k_astore_n C (f := 2) (i := 2) (lv := [(2, _), (0, _), (1, _)]) rfl (Nat.le_of_ble_eq_true rfl) rfl dL_wellHere_11 ?_
    refine k_iconst C ic_1 dL_wellHere_12 ?_
    exact k_iret C (Nat.le_of_ble_eq_true rfl) (Nat.le_of_ble_eq_true rfl) (WC_no hcd (by decide) rfl) dL_wellHere_13
set_option maxHeartbeats 4000000 in
set_option maxRecDepth 100000 in
theorem ct_L_nextWell {G : am_G} {Λ : am_L} {I : am_I} {J : am_J} {x : Nat} {r : Nat → Int32} {o : Nat}  (hx : RouLay Λ x) (hr : CarRel I (x + 34) (x + 35) (x + 24) r) (hw : ∀ k : Nat, k < sp_nw r → r (90 + 4 * k) < nI 1000) (ho : Λ.1 o = (5, 1)) : am_CtH G yL_nextWell cL_nextWell 3 (some .int) [(0, 8, 11, 28)] { frames := 7, cells := 1, slots := 6, locals := 111 } [.ref x, .ref o] Λ I J (WC o (if sp_behind r (r 1) = -1 then 1 else 0) (sp_behind r (r 1)) Λ J (fun I' => I' = I) (fun I' => I' = I)) am_never := by
  refine am_ctH_of (own := RL) rfl (by decide) (Nat.le_of_ble_eq_true rfl) (fun X C => ?_)
  change am_K G X { frames := 7, cells := 1, slots := 6, locals := 111 } 3 Λ I J 0 0 0 [(0, .ref x), (1, .ref o)] []
  refine k_aload_n C (f := 1) (i := 1) (p := 1) rfl rfl dL_nextWell_0 ?_
  refine k_iconst C ic_0 dL_nextWell_1 ?_
  refine k_aload_n C (f := 0) (i := 0) (p := 0) rfl rfl dL_nextWell_2 ?_
  refine k_callV C s_L_47 h_X5_nextWell (L5_s hx) rfl (ct_X5_nextWell hx hr hw) rfl rfl (Nat.le_of_ble_eq_true rfl) ⟨Nat.le_of_ble_eq_true rfl, Nat.le_of_ble_eq_true rfl⟩ ⟨Nat.le_of_ble_eq_true rfl, Nat.le_of_ble_eq_true rfl⟩ dL_nextWell_3 ?_ ?_
  · skip
    intro v Λ' I' J' hv
    obtain ⟨rfl, hcd, rfl, rfl, rfl⟩ := hv
    refine k_i2l C (rfl) dL_nextWell_6 ?_
    refine k_last C (ho) (by first | rfl | assumption) (by omega) (by decide) dL_nextWell_7 ?_
    refine k_goto C (tgt := 14) (by decide) dL_nextWell_8 ?_
    refine k_iconst C ic_0 dL_nextWell_14 ?_
    exact k_iret C (Nat.le_of_ble_eq_true rfl) (Nat.le_of_ble_eq_true rfl) (WC_ok hcd (rfl) rfl) dL_nextWell_15
  · skip
    intro E Λ' I' J' hp
    obtain ⟨rfl, hcd, rfl, rfl, rfl⟩ := hp
    refine k_catch C [] ⟨0, 8, 11, 28⟩ [] rfl (fun z hz => nomatch hz) (by decide) (by decide) am_cl_RL_28 am_ca_28 (fun q => ?_)
    refine k_astore_n C (f := 2) (i := 2) (lv := [(2, _), (0, _), (1, _)]) rfl (Nat.le_of_ble_eq_true rfl) rfl dL_nextWell_11 ?_
    refine k_iconst C ic_1 dL_nextWell_12 ?_
    exact k_iret C (Nat.le_of_ble_eq_true rfl) (Nat.le_of_ble_eq_true rfl) (WC_no hcd (by decide) rfl) dL_nextWell_13
set_option maxHeartbeats 4000000 in
set_option maxRecDepth 100000 in
theorem ct_L_isDead {G : am_G} {Λ : am_L} {I : am_I} {J : am_J} {x : Nat} {r : Nat → Int32} {c : Int32}{o : Nat}  (hx : RouLay Λ x) (hr : CarRel I (x + 34) (x + 35) (x + 24) r) (ho : Λ.1 o = (5, 1)) : am_CtH G yL_isDead cL_isDead 4 (some .int) [(0, 16, 19, 36)] { frames := 8, cells := 1, slots := 6, locals := 132 } [.ref x, .int c, .ref o] Λ I J (WC o (cdI (sp_nc r) c) (am_b (¬ r (16 + 8 * c.toNatClampNeg) < nI 3)) Λ J (fun I' => I' = I) (fun I' => I' = I)) am_never := by
  refine am_ctH_of (own := RL) rfl (by decide) (Nat.le_of_ble_eq_true rfl) (fun X C => ?_)
  change am_K G X { frames := 8, cells := 1, slots := 6, locals := 132 } 4 Λ I J 0 0 0 [(0, .ref x), (1, .int c), (2, .ref o)] []
  refine k_aload_n C (f := 2) (i := 2) (p := 2) rfl rfl dL_isDead_0 ?_
  refine k_iconst C ic_0 dL_isDead_1 ?_
  refine k_aload_n C (f := 0) (i := 0) (p := 0) rfl rfl dL_isDead_2 ?_
  refine k_iload_n C (f := 1) (i := 1) (p := 1) rfl rfl dL_isDead_3 ?_
  refine k_callV C s_L_50 h_X5_isDead (L5_s hx) rfl (ct_X5_isDead hx hr) rfl rfl (Nat.le_of_ble_eq_true rfl) ⟨Nat.le_of_ble_eq_true rfl, Nat.le_of_ble_eq_true rfl⟩ ⟨Nat.le_of_ble_eq_true rfl, Nat.le_of_ble_eq_true rfl⟩ dL_isDead_4 ?_ ?_
  · skip
    intro v Λ' I' J' hv
    obtain ⟨rfl, hcd, rfl, rfl, rfl⟩ := hv
    refine k_ifb_eq C (tgt := 14) (by decide) dL_isDead_7 (fun hc7 => ?_) (fun hc7 => ?_)
    · skip
      refine k_lconst C rfl dL_isDead_14 ?_
      refine k_last C (ho) (by first | rfl | assumption) (by omega) (by decide) dL_isDead_15 ?_
      refine k_goto C (tgt := 22) (by decide) dL_isDead_16 ?_
      refine k_iconst C ic_0 dL_isDead_22 ?_
      exact k_iret C (Nat.le_of_ble_eq_true rfl) (Nat.le_of_ble_eq_true rfl) (WC_ok hcd (by first | (rw [← am_bt hc7]; rfl) | (rw [← am_bf hc7]; rfl)) rfl) dL_isDead_23
    · skip
      refine k_lconst C rfl dL_isDead_10 ?_
      refine k_goto C (tgt := 15) (by decide) dL_isDead_11 ?_
      refine k_last C (ho) (by first | rfl | assumption) (by omega) (by decide) dL_isDead_15 ?_
      refine k_goto C (tgt := 22) (by decide) dL_isDead_16 ?_
      refine k_iconst C ic_0 dL_isDead_22 ?_
      exact k_iret C (Nat.le_of_ble_eq_true rfl) (Nat.le_of_ble_eq_true rfl) (WC_ok hcd (by first | (rw [← am_bt hc7]; rfl) | (rw [← am_bf hc7]; rfl)) rfl) dL_isDead_23
  · skip
    intro E Λ' I' J' hp
    obtain ⟨rfl, hcd, rfl, rfl, rfl⟩ := hp
    refine k_catch C [] ⟨0, 16, 19, 36⟩ [] rfl (fun z hz => nomatch hz) (by decide) (by decide) am_cl_RL_36 am_ca_36 (fun q => ?_)
    refine k_astore_n C (f := 3) (i := 3) (lv := [(3, _), (0, _), (1, _), (2, _)]) rfl (Nat.le_of_ble_eq_true rfl) rfl dL_isDead_19 ?_
    refine k_iconst C ic_1 dL_isDead_20 ?_
    exact k_iret C (Nat.le_of_ble_eq_true rfl) (Nat.le_of_ble_eq_true rfl) (WC_no hcd (by decide) rfl) dL_isDead_21
set_option maxHeartbeats 4000000 in
set_option maxRecDepth 100000 in
theorem ct_L_pace {G : am_G} {Λ : am_L} {I : am_I} {J : am_J} {x : Nat} {r : Nat → Int32} {c : Int32}{o : Nat}  (hx : RouLay Λ x) (hr : CarRel I (x + 34) (x + 35) (x + 24) r) (ho : Λ.1 o = (5, 1)) : am_CtH G yL_pace cL_pace 4 (some .int) [(0, 9, 12, 36)] { frames := 8, cells := 1, slots := 6, locals := 132 } [.ref x, .int c, .ref o] Λ I J (WC o (cdI (sp_nc r) c) (r (10 + 8 * c.toNatClampNeg)) Λ J (fun I' => I' = I) (fun I' => I' = I)) am_never := by
  refine am_ctH_of (own := RL) rfl (by decide) (Nat.le_of_ble_eq_true rfl) (fun X C => ?_)
  change am_K G X { frames := 8, cells := 1, slots := 6, locals := 132 } 4 Λ I J 0 0 0 [(0, .ref x), (1, .int c), (2, .ref o)] []
  refine k_aload_n C (f := 2) (i := 2) (p := 2) rfl rfl dL_pace_0 ?_
  refine k_iconst C ic_0 dL_pace_1 ?_
  refine k_aload_n C (f := 0) (i := 0) (p := 0) rfl rfl dL_pace_2 ?_
  refine k_iload_n C (f := 1) (i := 1) (p := 1) rfl rfl dL_pace_3 ?_
  refine k_callV C s_L_54 h_X5_pace (L5_s hx) rfl (ct_X5_pace hx hr) rfl rfl (Nat.le_of_ble_eq_true rfl) ⟨Nat.le_of_ble_eq_true rfl, Nat.le_of_ble_eq_true rfl⟩ ⟨Nat.le_of_ble_eq_true rfl, Nat.le_of_ble_eq_true rfl⟩ dL_pace_4 ?_ ?_
  · skip
    intro v Λ' I' J' hv
    obtain ⟨rfl, hcd, rfl, rfl, rfl⟩ := hv
    refine k_i2l C (rfl) dL_pace_7 ?_
    refine k_last C (ho) (by first | rfl | assumption) (by omega) (by decide) dL_pace_8 ?_
    refine k_goto C (tgt := 15) (by decide) dL_pace_9 ?_
    refine k_iconst C ic_0 dL_pace_15 ?_
    exact k_iret C (Nat.le_of_ble_eq_true rfl) (Nat.le_of_ble_eq_true rfl) (WC_ok hcd (rfl) rfl) dL_pace_16
  · skip
    intro E Λ' I' J' hp
    obtain ⟨rfl, hcd, rfl, rfl, rfl⟩ := hp
    refine k_catch C [] ⟨0, 9, 12, 36⟩ [] rfl (fun z hz => nomatch hz) (by decide) (by decide) am_cl_RL_36 am_ca_36 (fun q => ?_)
    refine k_astore_n C (f := 3) (i := 3) (lv := [(3, _), (0, _), (1, _), (2, _)]) rfl (Nat.le_of_ble_eq_true rfl) rfl dL_pace_12 ?_
    refine k_iconst C ic_1 dL_pace_13 ?_
    exact k_iret C (Nat.le_of_ble_eq_true rfl) (Nat.le_of_ble_eq_true rfl) (WC_no hcd (by decide) rfl) dL_pace_14
set_option maxHeartbeats 4000000 in
set_option maxRecDepth 100000 in
theorem ct_L_speed {G : am_G} {Λ : am_L} {I : am_I} {J : am_J} {x : Nat} {r : Nat → Int32} {c : Int32}{o : Nat}  (hx : RouLay Λ x) (hr : CarRel I (x + 34) (x + 35) (x + 24) r) (ho : Λ.1 o = (5, 1)) : am_CtH G yL_speed cL_speed 4 (some .int) [(0, 9, 12, 36)] { frames := 8, cells := 1, slots := 6, locals := 132 } [.ref x, .int c, .ref o] Λ I J (WC o (cdI (sp_nc r) c) (sp_speed r c.toNatClampNeg) Λ J (fun I' => I' = I) (fun I' => I' = I)) am_never := by
  refine am_ctH_of (own := RL) rfl (by decide) (Nat.le_of_ble_eq_true rfl) (fun X C => ?_)
  change am_K G X { frames := 8, cells := 1, slots := 6, locals := 132 } 4 Λ I J 0 0 0 [(0, .ref x), (1, .int c), (2, .ref o)] []
  refine k_aload_n C (f := 2) (i := 2) (p := 2) rfl rfl dL_speed_0 ?_
  refine k_iconst C ic_0 dL_speed_1 ?_
  refine k_aload_n C (f := 0) (i := 0) (p := 0) rfl rfl dL_speed_2 ?_
  refine k_iload_n C (f := 1) (i := 1) (p := 1) rfl rfl dL_speed_3 ?_
  refine k_callV C s_L_57 h_X5_speed (L5_s hx) rfl (ct_X5_speed hx hr) rfl rfl (Nat.le_of_ble_eq_true rfl) ⟨Nat.le_of_ble_eq_true rfl, Nat.le_of_ble_eq_true rfl⟩ ⟨Nat.le_of_ble_eq_true rfl, Nat.le_of_ble_eq_true rfl⟩ dL_speed_4 ?_ ?_
  · skip
    intro v Λ' I' J' hv
    obtain ⟨rfl, hcd, rfl, rfl, rfl⟩ := hv
    refine k_i2l C (rfl) dL_speed_7 ?_
    refine k_last C (ho) (by first | rfl | assumption) (by omega) (by decide) dL_speed_8 ?_
    refine k_goto C (tgt := 15) (by decide) dL_speed_9 ?_
    refine k_iconst C ic_0 dL_speed_15 ?_
    exact k_iret C (Nat.le_of_ble_eq_true rfl) (Nat.le_of_ble_eq_true rfl) (WC_ok hcd (rfl) rfl) dL_speed_16
  · skip
    intro E Λ' I' J' hp
    obtain ⟨rfl, hcd, rfl, rfl, rfl⟩ := hp
    refine k_catch C [] ⟨0, 9, 12, 36⟩ [] rfl (fun z hz => nomatch hz) (by decide) (by decide) am_cl_RL_36 am_ca_36 (fun q => ?_)
    refine k_astore_n C (f := 3) (i := 3) (lv := [(3, _), (0, _), (1, _), (2, _)]) rfl (Nat.le_of_ble_eq_true rfl) rfl dL_speed_12 ?_
    refine k_iconst C ic_1 dL_speed_13 ?_
    exact k_iret C (Nat.le_of_ble_eq_true rfl) (Nat.le_of_ble_eq_true rfl) (WC_no hcd (by decide) rfl) dL_speed_14
set_option maxHeartbeats 4000000 in
set_option maxRecDepth 100000 in
theorem ct_L_water {G : am_G} {Λ : am_L} {I : am_I} {J : am_J} {x : Nat} {r : Nat → Int32} {c : Int32}{o : Nat}  (hx : RouLay Λ x) (hr : CarRel I (x + 34) (x + 35) (x + 24) r) (ho : Λ.1 o = (5, 1)) : am_CtH G yL_water cL_water 4 (some .int) [(0, 9, 12, 36)] { frames := 8, cells := 1, slots := 6, locals := 132 } [.ref x, .int c, .ref o] Λ I J (WC o (cdI (sp_nc r) c) (r (13 + 8 * c.toNatClampNeg)) Λ J (fun I' => I' = I) (fun I' => I' = I)) am_never := by
  refine am_ctH_of (own := RL) rfl (by decide) (Nat.le_of_ble_eq_true rfl) (fun X C => ?_)
  change am_K G X { frames := 8, cells := 1, slots := 6, locals := 132 } 4 Λ I J 0 0 0 [(0, .ref x), (1, .int c), (2, .ref o)] []
  refine k_aload_n C (f := 2) (i := 2) (p := 2) rfl rfl dL_water_0 ?_
  refine k_iconst C ic_0 dL_water_1 ?_
  refine k_aload_n C (f := 0) (i := 0) (p := 0) rfl rfl dL_water_2 ?_
  refine k_iload_n C (f := 1) (i := 1) (p := 1) rfl rfl dL_water_3 ?_
  refine k_callV C s_L_60 h_X5_water (L5_s hx) rfl (ct_X5_water hx hr) rfl rfl (Nat.le_of_ble_eq_true rfl) ⟨Nat.le_of_ble_eq_true rfl, Nat.le_of_ble_eq_true rfl⟩ ⟨Nat.le_of_ble_eq_true rfl, Nat.le_of_ble_eq_true rfl⟩ dL_water_4 ?_ ?_
  · skip
    intro v Λ' I' J' hv
    obtain ⟨rfl, hcd, rfl, rfl, rfl⟩ := hv
    refine k_i2l C (rfl) dL_water_7 ?_
    refine k_last C (ho) (by first | rfl | assumption) (by omega) (by decide) dL_water_8 ?_
    refine k_goto C (tgt := 15) (by decide) dL_water_9 ?_
    refine k_iconst C ic_0 dL_water_15 ?_
    exact k_iret C (Nat.le_of_ble_eq_true rfl) (Nat.le_of_ble_eq_true rfl) (WC_ok hcd (rfl) rfl) dL_water_16
  · skip
    intro E Λ' I' J' hp
    obtain ⟨rfl, hcd, rfl, rfl, rfl⟩ := hp
    refine k_catch C [] ⟨0, 9, 12, 36⟩ [] rfl (fun z hz => nomatch hz) (by decide) (by decide) am_cl_RL_36 am_ca_36 (fun q => ?_)
    refine k_astore_n C (f := 3) (i := 3) (lv := [(3, _), (0, _), (1, _), (2, _)]) rfl (Nat.le_of_ble_eq_true rfl) rfl dL_water_12 ?_
    refine k_iconst C ic_1 dL_water_13 ?_
    exact k_iret C (Nat.le_of_ble_eq_true rfl) (Nat.le_of_ble_eq_true rfl) (WC_no hcd (by decide) rfl) dL_water_14
set_option maxHeartbeats 4000000 in
set_option maxRecDepth 100000 in
theorem ct_L_tank {G : am_G} {Λ : am_L} {I : am_I} {J : am_J} {x : Nat} {r : Nat → Int32} {c : Int32}{o : Nat}  (hx : RouLay Λ x) (hr : CarRel I (x + 34) (x + 35) (x + 24) r) (ho : Λ.1 o = (5, 1)) : am_CtH G yL_tank cL_tank 4 (some .int) [(0, 9, 12, 36)] { frames := 8, cells := 1, slots := 6, locals := 132 } [.ref x, .int c, .ref o] Λ I J (WC o (cdI (sp_nc r) c) (r (12 + 8 * c.toNatClampNeg)) Λ J (fun I' => I' = I) (fun I' => I' = I)) am_never := by
  refine am_ctH_of (own := RL) rfl (by decide) (Nat.le_of_ble_eq_true rfl) (fun X C => ?_)
  change am_K G X { frames := 8, cells := 1, slots := 6, locals := 132 } 4 Λ I J 0 0 0 [(0, .ref x), (1, .int c), (2, .ref o)] []
  refine k_aload_n C (f := 2) (i := 2) (p := 2) rfl rfl dL_tank_0 ?_
  refine k_iconst C ic_0 dL_tank_1 ?_
  refine k_aload_n C (f := 0) (i := 0) (p := 0) rfl rfl dL_tank_2 ?_
  refine k_iload_n C (f := 1) (i := 1) (p := 1) rfl rfl dL_tank_3 ?_
  refine k_callV C s_L_63 h_X5_tank (L5_s hx) rfl (ct_X5_tank hx hr) rfl rfl (Nat.le_of_ble_eq_true rfl) ⟨Nat.le_of_ble_eq_true rfl, Nat.le_of_ble_eq_true rfl⟩ ⟨Nat.le_of_ble_eq_true rfl, Nat.le_of_ble_eq_true rfl⟩ dL_tank_4 ?_ ?_
  · skip
    intro v Λ' I' J' hv
    obtain ⟨rfl, hcd, rfl, rfl, rfl⟩ := hv
    refine k_i2l C (rfl) dL_tank_7 ?_
    refine k_last C (ho) (by first | rfl | assumption) (by omega) (by decide) dL_tank_8 ?_
    refine k_goto C (tgt := 15) (by decide) dL_tank_9 ?_
    refine k_iconst C ic_0 dL_tank_15 ?_
    exact k_iret C (Nat.le_of_ble_eq_true rfl) (Nat.le_of_ble_eq_true rfl) (WC_ok hcd (rfl) rfl) dL_tank_16
  · skip
    intro E Λ' I' J' hp
    obtain ⟨rfl, hcd, rfl, rfl, rfl⟩ := hp
    refine k_catch C [] ⟨0, 9, 12, 36⟩ [] rfl (fun z hz => nomatch hz) (by decide) (by decide) am_cl_RL_36 am_ca_36 (fun q => ?_)
    refine k_astore_n C (f := 3) (i := 3) (lv := [(3, _), (0, _), (1, _), (2, _)]) rfl (Nat.le_of_ble_eq_true rfl) rfl dL_tank_12 ?_
    refine k_iconst C ic_1 dL_tank_13 ?_
    exact k_iret C (Nat.le_of_ble_eq_true rfl) (Nat.le_of_ble_eq_true rfl) (WC_no hcd (by decide) rfl) dL_tank_14
set_option maxHeartbeats 4000000 in
set_option maxRecDepth 100000 in
theorem ct_L_strain {G : am_G} {Λ : am_L} {I : am_I} {J : am_J} {x : Nat} {r : Nat → Int32} {c : Int32}{o : Nat}  (hx : RouLay Λ x) (hr : CarRel I (x + 34) (x + 35) (x + 24) r) (ho : Λ.1 o = (5, 1)) : am_CtH G yL_strain cL_strain 4 (some .int) [(0, 9, 12, 36)] { frames := 8, cells := 1, slots := 6, locals := 132 } [.ref x, .int c, .ref o] Λ I J (WC o (cdI (sp_nc r) c) (r (14 + 8 * c.toNatClampNeg)) Λ J (fun I' => I' = I) (fun I' => I' = I)) am_never := by
  refine am_ctH_of (own := RL) rfl (by decide) (Nat.le_of_ble_eq_true rfl) (fun X C => ?_)
  change am_K G X { frames := 8, cells := 1, slots := 6, locals := 132 } 4 Λ I J 0 0 0 [(0, .ref x), (1, .int c), (2, .ref o)] []
  refine k_aload_n C (f := 2) (i := 2) (p := 2) rfl rfl dL_strain_0 ?_
  refine k_iconst C ic_0 dL_strain_1 ?_
  refine k_aload_n C (f := 0) (i := 0) (p := 0) rfl rfl dL_strain_2 ?_
  refine k_iload_n C (f := 1) (i := 1) (p := 1) rfl rfl dL_strain_3 ?_
  refine k_callV C s_L_66 h_X5_strain (L5_s hx) rfl (ct_X5_strain hx hr) rfl rfl (Nat.le_of_ble_eq_true rfl) ⟨Nat.le_of_ble_eq_true rfl, Nat.le_of_ble_eq_true rfl⟩ ⟨Nat.le_of_ble_eq_true rfl, Nat.le_of_ble_eq_true rfl⟩ dL_strain_4 ?_ ?_
  · skip
    intro v Λ' I' J' hv
    obtain ⟨rfl, hcd, rfl, rfl, rfl⟩ := hv
    refine k_i2l C (rfl) dL_strain_7 ?_
    refine k_last C (ho) (by first | rfl | assumption) (by omega) (by decide) dL_strain_8 ?_
    refine k_goto C (tgt := 15) (by decide) dL_strain_9 ?_
    refine k_iconst C ic_0 dL_strain_15 ?_
    exact k_iret C (Nat.le_of_ble_eq_true rfl) (Nat.le_of_ble_eq_true rfl) (WC_ok hcd (rfl) rfl) dL_strain_16
  · skip
    intro E Λ' I' J' hp
    obtain ⟨rfl, hcd, rfl, rfl, rfl⟩ := hp
    refine k_catch C [] ⟨0, 9, 12, 36⟩ [] rfl (fun z hz => nomatch hz) (by decide) (by decide) am_cl_RL_36 am_ca_36 (fun q => ?_)
    refine k_astore_n C (f := 3) (i := 3) (lv := [(3, _), (0, _), (1, _), (2, _)]) rfl (Nat.le_of_ble_eq_true rfl) rfl dL_strain_12 ?_
    refine k_iconst C ic_1 dL_strain_13 ?_
    exact k_iret C (Nat.le_of_ble_eq_true rfl) (Nat.le_of_ble_eq_true rfl) (WC_no hcd (by decide) rfl) dL_strain_14
set_option maxHeartbeats 4000000 in
set_option maxRecDepth 100000 in
theorem ct_L_lameDays {G : am_G} {Λ : am_L} {I : am_I} {J : am_J} {x : Nat} {r : Nat → Int32} {c : Int32}{o : Nat}  (hx : RouLay Λ x) (hr : CarRel I (x + 34) (x + 35) (x + 24) r) (ho : Λ.1 o = (5, 1)) : am_CtH G yL_lameDays cL_lameDays 4 (some .int) [(0, 9, 12, 36)] { frames := 8, cells := 1, slots := 6, locals := 132 } [.ref x, .int c, .ref o] Λ I J (WC o (cdI (sp_nc r) c) (r (15 + 8 * c.toNatClampNeg)) Λ J (fun I' => I' = I) (fun I' => I' = I)) am_never := by
  refine am_ctH_of (own := RL) rfl (by decide) (Nat.le_of_ble_eq_true rfl) (fun X C => ?_)
  change am_K G X { frames := 8, cells := 1, slots := 6, locals := 132 } 4 Λ I J 0 0 0 [(0, .ref x), (1, .int c), (2, .ref o)] []
  refine k_aload_n C (f := 2) (i := 2) (p := 2) rfl rfl dL_lameDays_0 ?_
  refine k_iconst C ic_0 dL_lameDays_1 ?_
  refine k_aload_n C (f := 0) (i := 0) (p := 0) rfl rfl dL_lameDays_2 ?_
  refine k_iload_n C (f := 1) (i := 1) (p := 1) rfl rfl dL_lameDays_3 ?_
  refine k_callV C s_L_69 h_X5_lameDays (L5_s hx) rfl (ct_X5_lameDays hx hr) rfl rfl (Nat.le_of_ble_eq_true rfl) ⟨Nat.le_of_ble_eq_true rfl, Nat.le_of_ble_eq_true rfl⟩ ⟨Nat.le_of_ble_eq_true rfl, Nat.le_of_ble_eq_true rfl⟩ dL_lameDays_4 ?_ ?_
  · skip
    intro v Λ' I' J' hv
    obtain ⟨rfl, hcd, rfl, rfl, rfl⟩ := hv
    refine k_i2l C (rfl) dL_lameDays_7 ?_
    refine k_last C (ho) (by first | rfl | assumption) (by omega) (by decide) dL_lameDays_8 ?_
    refine k_goto C (tgt := 15) (by decide) dL_lameDays_9 ?_
    refine k_iconst C ic_0 dL_lameDays_15 ?_
    exact k_iret C (Nat.le_of_ble_eq_true rfl) (Nat.le_of_ble_eq_true rfl) (WC_ok hcd (rfl) rfl) dL_lameDays_16
  · skip
    intro E Λ' I' J' hp
    obtain ⟨rfl, hcd, rfl, rfl, rfl⟩ := hp
    refine k_catch C [] ⟨0, 9, 12, 36⟩ [] rfl (fun z hz => nomatch hz) (by decide) (by decide) am_cl_RL_36 am_ca_36 (fun q => ?_)
    refine k_astore_n C (f := 3) (i := 3) (lv := [(3, _), (0, _), (1, _), (2, _)]) rfl (Nat.le_of_ble_eq_true rfl) rfl dL_lameDays_12 ?_
    refine k_iconst C ic_1 dL_lameDays_13 ?_
    exact k_iret C (Nat.le_of_ble_eq_true rfl) (Nat.le_of_ble_eq_true rfl) (WC_no hcd (by decide) rfl) dL_lameDays_14
set_option maxHeartbeats 4000000 in
set_option maxRecDepth 100000 in
theorem ct_L_dryDays {G : am_G} {Λ : am_L} {I : am_I} {J : am_J} {x : Nat} {r : Nat → Int32} {c : Int32}{o : Nat}  (hx : RouLay Λ x) (hr : CarRel I (x + 34) (x + 35) (x + 24) r) (ho : Λ.1 o = (5, 1)) : am_CtH G yL_dryDays cL_dryDays 4 (some .int) [(0, 9, 12, 36)] { frames := 8, cells := 1, slots := 6, locals := 132 } [.ref x, .int c, .ref o] Λ I J (WC o (cdI (sp_nc r) c) (r (16 + 8 * c.toNatClampNeg)) Λ J (fun I' => I' = I) (fun I' => I' = I)) am_never := by
  refine am_ctH_of (own := RL) rfl (by decide) (Nat.le_of_ble_eq_true rfl) (fun X C => ?_)
  change am_K G X { frames := 8, cells := 1, slots := 6, locals := 132 } 4 Λ I J 0 0 0 [(0, .ref x), (1, .int c), (2, .ref o)] []
  refine k_aload_n C (f := 2) (i := 2) (p := 2) rfl rfl dL_dryDays_0 ?_
  refine k_iconst C ic_0 dL_dryDays_1 ?_
  refine k_aload_n C (f := 0) (i := 0) (p := 0) rfl rfl dL_dryDays_2 ?_
  refine k_iload_n C (f := 1) (i := 1) (p := 1) rfl rfl dL_dryDays_3 ?_
  refine k_callV C s_L_72 h_X5_dryDays (L5_s hx) rfl (ct_X5_dryDays hx hr) rfl rfl (Nat.le_of_ble_eq_true rfl) ⟨Nat.le_of_ble_eq_true rfl, Nat.le_of_ble_eq_true rfl⟩ ⟨Nat.le_of_ble_eq_true rfl, Nat.le_of_ble_eq_true rfl⟩ dL_dryDays_4 ?_ ?_
  · skip
    intro v Λ' I' J' hv
    obtain ⟨rfl, hcd, rfl, rfl, rfl⟩ := hv
    refine k_i2l C (rfl) dL_dryDays_7 ?_
    refine k_last C (ho) (by first | rfl | assumption) (by omega) (by decide) dL_dryDays_8 ?_
    refine k_goto C (tgt := 15) (by decide) dL_dryDays_9 ?_
    refine k_iconst C ic_0 dL_dryDays_15 ?_
    exact k_iret C (Nat.le_of_ble_eq_true rfl) (Nat.le_of_ble_eq_true rfl) (WC_ok hcd (rfl) rfl) dL_dryDays_16
  · skip
    intro E Λ' I' J' hp
    obtain ⟨rfl, hcd, rfl, rfl, rfl⟩ := hp
    refine k_catch C [] ⟨0, 9, 12, 36⟩ [] rfl (fun z hz => nomatch hz) (by decide) (by decide) am_cl_RL_36 am_ca_36 (fun q => ?_)
    refine k_astore_n C (f := 3) (i := 3) (lv := [(3, _), (0, _), (1, _), (2, _)]) rfl (Nat.le_of_ble_eq_true rfl) rfl dL_dryDays_12 ?_
    refine k_iconst C ic_1 dL_dryDays_13 ?_
    exact k_iret C (Nat.le_of_ble_eq_true rfl) (Nat.le_of_ble_eq_true rfl) (WC_no hcd (by decide) rfl) dL_dryDays_14
set_option maxHeartbeats 4000000 in
set_option maxRecDepth 100000 in
theorem ct_L_carried {G : am_G} {Λ : am_L} {I : am_I} {J : am_J} {x : Nat} {r : Nat → Int32} {c : Int32}{o : Nat}  (hx : RouLay Λ x) (hr : CarRel I (x + 34) (x + 35) (x + 24) r) (ho : Λ.1 o = (5, 1)) : am_CtH G yL_carried cL_carried 4 (some .int) [(0, 9, 12, 36)] { frames := 8, cells := 1, slots := 6, locals := 132 } [.ref x, .int c, .ref o] Λ I J (WC o (cdI (sp_nc r) c) (sp_car r c.toNatClampNeg) Λ J (fun I' => I' = I) (fun I' => I' = I)) am_never := by
  refine am_ctH_of (own := RL) rfl (by decide) (Nat.le_of_ble_eq_true rfl) (fun X C => ?_)
  change am_K G X { frames := 8, cells := 1, slots := 6, locals := 132 } 4 Λ I J 0 0 0 [(0, .ref x), (1, .int c), (2, .ref o)] []
  refine k_aload_n C (f := 2) (i := 2) (p := 2) rfl rfl dL_carried_0 ?_
  refine k_iconst C ic_0 dL_carried_1 ?_
  refine k_aload_n C (f := 0) (i := 0) (p := 0) rfl rfl dL_carried_2 ?_
  refine k_iload_n C (f := 1) (i := 1) (p := 1) rfl rfl dL_carried_3 ?_
  refine k_callV C s_L_75 h_X5_carried (L5_s hx) rfl (ct_X5_carried hx hr) rfl rfl (Nat.le_of_ble_eq_true rfl) ⟨Nat.le_of_ble_eq_true rfl, Nat.le_of_ble_eq_true rfl⟩ ⟨Nat.le_of_ble_eq_true rfl, Nat.le_of_ble_eq_true rfl⟩ dL_carried_4 ?_ ?_
  · skip
    intro v Λ' I' J' hv
    obtain ⟨rfl, hcd, rfl, rfl, rfl⟩ := hv
    refine k_i2l C (rfl) dL_carried_7 ?_
    refine k_last C (ho) (by first | rfl | assumption) (by omega) (by decide) dL_carried_8 ?_
    refine k_goto C (tgt := 15) (by decide) dL_carried_9 ?_
    refine k_iconst C ic_0 dL_carried_15 ?_
    exact k_iret C (Nat.le_of_ble_eq_true rfl) (Nat.le_of_ble_eq_true rfl) (WC_ok hcd (rfl) rfl) dL_carried_16
  · skip
    intro E Λ' I' J' hp
    obtain ⟨rfl, hcd, rfl, rfl, rfl⟩ := hp
    refine k_catch C [] ⟨0, 9, 12, 36⟩ [] rfl (fun z hz => nomatch hz) (by decide) (by decide) am_cl_RL_36 am_ca_36 (fun q => ?_)
    refine k_astore_n C (f := 3) (i := 3) (lv := [(3, _), (0, _), (1, _), (2, _)]) rfl (Nat.le_of_ble_eq_true rfl) rfl dL_carried_12 ?_
    refine k_iconst C ic_1 dL_carried_13 ?_
    exact k_iret C (Nat.le_of_ble_eq_true rfl) (Nat.le_of_ble_eq_true rfl) (WC_no hcd (by decide) rfl) dL_carried_14
set_option maxHeartbeats 4000000 in
set_option maxRecDepth 100000 in
theorem ct_L_freeWeight {G : am_G} {Λ : am_L} {I : am_I} {J : am_J} {x : Nat} {r : Nat → Int32} {c : Int32}{o : Nat}  (hx : RouLay Λ x) (hr : CarRel I (x + 34) (x + 35) (x + 24) r) (ho : Λ.1 o = (5, 1)) : am_CtH G yL_freeWeight cL_freeWeight 4 (some .int) [(0, 9, 12, 36)] { frames := 8, cells := 1, slots := 6, locals := 132 } [.ref x, .int c, .ref o] Λ I J (WC o (cdI (sp_nc r) c) (sp_free r c.toNatClampNeg) Λ J (fun I' => I' = I) (fun I' => I' = I)) am_never := by
  refine am_ctH_of (own := RL) rfl (by decide) (Nat.le_of_ble_eq_true rfl) (fun X C => ?_)
  change am_K G X { frames := 8, cells := 1, slots := 6, locals := 132 } 4 Λ I J 0 0 0 [(0, .ref x), (1, .int c), (2, .ref o)] []
  refine k_aload_n C (f := 2) (i := 2) (p := 2) rfl rfl dL_freeWeight_0 ?_
  refine k_iconst C ic_0 dL_freeWeight_1 ?_
  refine k_aload_n C (f := 0) (i := 0) (p := 0) rfl rfl dL_freeWeight_2 ?_
  refine k_iload_n C (f := 1) (i := 1) (p := 1) rfl rfl dL_freeWeight_3 ?_
  refine k_callV C s_L_78 h_X5_freeWeight (L5_s hx) rfl (ct_X5_freeWeight hx hr) rfl rfl (Nat.le_of_ble_eq_true rfl) ⟨Nat.le_of_ble_eq_true rfl, Nat.le_of_ble_eq_true rfl⟩ ⟨Nat.le_of_ble_eq_true rfl, Nat.le_of_ble_eq_true rfl⟩ dL_freeWeight_4 ?_ ?_
  · skip
    intro v Λ' I' J' hv
    obtain ⟨rfl, hcd, rfl, rfl, rfl⟩ := hv
    refine k_i2l C (rfl) dL_freeWeight_7 ?_
    refine k_last C (ho) (by first | rfl | assumption) (by omega) (by decide) dL_freeWeight_8 ?_
    refine k_goto C (tgt := 15) (by decide) dL_freeWeight_9 ?_
    refine k_iconst C ic_0 dL_freeWeight_15 ?_
    exact k_iret C (Nat.le_of_ble_eq_true rfl) (Nat.le_of_ble_eq_true rfl) (WC_ok hcd (rfl) rfl) dL_freeWeight_16
  · skip
    intro E Λ' I' J' hp
    obtain ⟨rfl, hcd, rfl, rfl, rfl⟩ := hp
    refine k_catch C [] ⟨0, 9, 12, 36⟩ [] rfl (fun z hz => nomatch hz) (by decide) (by decide) am_cl_RL_36 am_ca_36 (fun q => ?_)
    refine k_astore_n C (f := 3) (i := 3) (lv := [(3, _), (0, _), (1, _), (2, _)]) rfl (Nat.le_of_ble_eq_true rfl) rfl dL_freeWeight_12 ?_
    refine k_iconst C ic_1 dL_freeWeight_13 ?_
    exact k_iret C (Nat.le_of_ble_eq_true rfl) (Nat.le_of_ble_eq_true rfl) (WC_no hcd (by decide) rfl) dL_freeWeight_14
set_option maxHeartbeats 4000000 in
set_option maxRecDepth 100000 in
theorem ct_L_thirstiest {G : am_G} {Λ : am_L} {I : am_I} {J : am_J} {x : Nat} {r : Nat → Int32} {o : Nat}  (hx : RouLay Λ x) (hr : CarRel I (x + 34) (x + 35) (x + 24) r) (ho : Λ.1 o = (5, 1)) : am_CtH G yL_thirstiest cL_thirstiest 3 (some .int) [(0, 8, 11, 28)] { frames := 7, cells := 1, slots := 6, locals := 111 } [.ref x, .ref o] Λ I J (WC o (if sp_thirst r = -1 then 1 else 0) (sp_thirst r) Λ J (fun I' => I' = I) (fun I' => I' = I)) am_never := by
  refine am_ctH_of (own := RL) rfl (by decide) (Nat.le_of_ble_eq_true rfl) (fun X C => ?_)
  change am_K G X { frames := 7, cells := 1, slots := 6, locals := 111 } 3 Λ I J 0 0 0 [(0, .ref x), (1, .ref o)] []
  refine k_aload_n C (f := 1) (i := 1) (p := 1) rfl rfl dL_thirstiest_0 ?_
  refine k_iconst C ic_0 dL_thirstiest_1 ?_
  refine k_aload_n C (f := 0) (i := 0) (p := 0) rfl rfl dL_thirstiest_2 ?_
  refine k_callV C s_L_81 h_X5_thirstiest (L5_s hx) rfl (ct_X5_thirstiest hx hr) rfl rfl (Nat.le_of_ble_eq_true rfl) ⟨Nat.le_of_ble_eq_true rfl, Nat.le_of_ble_eq_true rfl⟩ ⟨Nat.le_of_ble_eq_true rfl, Nat.le_of_ble_eq_true rfl⟩ dL_thirstiest_3 ?_ ?_
  · skip
    intro v Λ' I' J' hv
    obtain ⟨rfl, hcd, rfl, rfl, rfl⟩ := hv
    refine k_i2l C (rfl) dL_thirstiest_6 ?_
    refine k_last C (ho) (by first | rfl | assumption) (by omega) (by decide) dL_thirstiest_7 ?_
    refine k_goto C (tgt := 14) (by decide) dL_thirstiest_8 ?_
    refine k_iconst C ic_0 dL_thirstiest_14 ?_
    exact k_iret C (Nat.le_of_ble_eq_true rfl) (Nat.le_of_ble_eq_true rfl) (WC_ok hcd (rfl) rfl) dL_thirstiest_15
  · skip
    intro E Λ' I' J' hp
    obtain ⟨rfl, hcd, rfl, rfl, rfl⟩ := hp
    refine k_catch C [] ⟨0, 8, 11, 28⟩ [] rfl (fun z hz => nomatch hz) (by decide) (by decide) am_cl_RL_28 am_ca_28 (fun q => ?_)
    refine k_astore_n C (f := 2) (i := 2) (lv := [(2, _), (0, _), (1, _)]) rfl (Nat.le_of_ble_eq_true rfl) rfl dL_thirstiest_11 ?_
    refine k_iconst C ic_1 dL_thirstiest_12 ?_
    exact k_iret C (Nat.le_of_ble_eq_true rfl) (Nat.le_of_ble_eq_true rfl) (WC_no hcd (by decide) rfl) dL_thirstiest_13
