theorem s_J0_335 : am_SV RJ0 335 yJ0_coder_7d493 "java/lang/String" 0 := ⟨am_wd 242 (by decide +kernel) rfl, am_wd 243 (by decide +kernel) rfl, am_wd 244 (by decide +kernel) rfl, am_wd 31 (by decide +kernel) rfl, by decide +kernel, by decide +kernel, by decide +kernel⟩
theorem s_J0_492 : am_SV RJ0 492 yJ0_isLatin1_aae02 "java/lang/String" 0 := ⟨am_wd 252 (by decide +kernel) rfl, am_wd 253 (by decide +kernel) rfl, am_wd 254 (by decide +kernel) rfl, am_wd 31 (by decide +kernel) rfl, by decide +kernel, by decide +kernel, by decide +kernel⟩
theorem s_J0_495 : am_SS RJ0 495 yJ1_charAt_3b067 2 := ⟨am_wd 256 (by decide +kernel) rfl, am_wd 257 (by decide +kernel) rfl, am_wd 32 (by decide +kernel) rfl, by decide +kernel, by decide +kernel, by decide +kernel⟩
theorem s_J1_9 : am_SS RJ1 9 yJ0_checkIndex_df160 2 := ⟨am_wd 259 (by decide +kernel) rfl, am_wd 260 (by decide +kernel) rfl, am_wd 31 (by decide +kernel) rfl, by decide +kernel, by decide +kernel, by decide +kernel⟩
theorem s_J0_1059 : am_SS RJ0 1059 yJ3_checkIndex_8e157 3 := ⟨am_wd 264 (by decide +kernel) rfl, am_wd 265 (by decide +kernel) rfl, am_wd 33 (by decide +kernel) rfl, by decide +kernel, by decide +kernel, by decide +kernel⟩
theorem f_J0_9 : Cond.fieldLink RJ0 9 "java/lang/String" "value" "[B" ∈ am_tbl := am_wd 1216 (by decide +kernel) rfl
theorem f_J0_15 : Cond.fieldLink RJ0 15 "java/lang/String" "coder" "B" ∈ am_tbl := am_wd 1217 (by decide +kernel) rfl
theorem f_J0_38 : Cond.fieldLink RJ0 38 "java/lang/String" "COMPACT_STRINGS" "Z" ∈ am_tbl := am_wd 246 (by decide +kernel) rfl
theorem f_J0_1053 : Cond.fieldLink RJ0 1053 "jdk/internal/util/Preconditions" "SIOOBE_FORMATTER" "Ljava/util/function/BiFunction;" ∈ am_tbl := am_wd 262 (by decide +kernel) rfl
theorem am_sall : ∀ i : Nat, i < 43 → (am_slen.getD i 0 < 2 ^ 31 ∧ ∀ b ∈ am_sbyt.getD i [], (b &&& 255 = b)) := by decide +kernel
theorem am_slenb : ∀ i : Nat, i < 43 → am_slen.getD i 0 = (am_sbyt.getD i []).length := by decide +kernel
theorem am_scount : am_strs.length = 43 := by decide +kernel
/-- the char of a string constant -/
def am_ch (i k : Nat) : Int32 := (am_sbyt.getD i []).getD k 0
theorem am_ch255 {i k : Nat} (hi : i < 43) (hk : k < am_slen.getD i 0) : am_ch i k &&& 255 = am_ch i k := by
  have h := (am_sall i hi).2
  have hl := am_slenb i hi
  unfold am_ch
  have hk' : k < (am_sbyt.getD i []).length := by omega
  rw [List.getD_eq_getElem?_getD, List.getElem?_eq_getElem hk']
  exact h _ (List.getElem_mem hk')
section AMS
variable {G : am_G} {X : am_X} {R : Room} {own : String} {cc : ByteArray} {nL : Nat} {ret : Option FieldType} {tb : List ExceptionTableEntry} {Q : State → Prop}
variable {Λ : am_L} {I : am_I} {J : am_J} {k n pc : Nat} {ls : List (Nat × Value)} {st : List Value}
theorem k_sval (C : am_Cx G X own cc nL ret tb Q) {i idx : Nat} (hi : i < 43) (hf : Cond.fieldLink own idx "java/lang/String" "value" "[B" ∈ am_tbl) (hd : decode cc pc = .ok (.getfield idx, 3)) (kk : am_K G X R nL Λ I J k n (pc + 3) ls (.ref (G.2.2.2.2.2 i) :: st)) : am_K G X R nL Λ I J k n (pc) ls (.ref (G.2.2.2.2.1 i) :: st) :=
  fun H locs la hR hS hl => vk_getf C.hx C.hb (C.he.2.2.2.2.2.1.1 i (by rw [am_scount]; exact hi)).2.2.1 hS C.ho (C.ht _ hf) (fun _ h => h) hd (kk H locs la hR hS hl)
theorem k_scod (C : am_Cx G X own cc nL ret tb Q) {i idx : Nat} (hi : i < 43) (hf : Cond.fieldLink own idx "java/lang/String" "coder" "B" ∈ am_tbl) (hd : decode cc pc = .ok (.getfield idx, 3)) (kk : am_K G X R nL Λ I J k n (pc + 3) ls (.int 0 :: st)) : am_K G X R nL Λ I J k n (pc) ls (.ref (G.2.2.2.2.1 i) :: st) :=
  fun H locs la hR hS hl => vk_getf C.hx C.hb (C.he.2.2.2.2.2.1.1 i (by rw [am_scount]; exact hi)).2.1 hS C.ho (C.ht _ hf) (fun _ h => h) hd (kk H locs la hR hS hl)
theorem k_slen (C : am_Cx G X own cc nL ret tb Q) {i : Nat} (hi : i < 43) (hd : decode cc pc = .ok (.arraylength, 1)) (kk : am_K G X R nL Λ I J k n (pc + 1) ls (.int (nI (am_slen.getD i 0)) :: st)) : am_K G X R nL Λ I J k n (pc) ls (.ref (G.2.2.2.2.2 i) :: st) :=
  fun H locs la hR hS hl => va_tlen C.hx C.hb (C.he.2.2.2.2.2.1.1 i (by rw [am_scount]; exact hi)).2.2.2 hS rfl hd (kk H locs la hR hS hl)
theorem k_sald (C : am_Cx G X own cc nL ret tb Q) {i j : Nat} (hi : i < 43) (hj : j < am_slen.getD i 0) (hd : decode cc pc = .ok (.baload, 1)) (kk : am_K G X R nL Λ I J k n (pc + 1) ls (.int (am_ch i j) :: st)) : am_K G X R nL Λ I J k n (pc) ls (.int (nI j) :: .ref (G.2.2.2.2.2 i) :: st) :=
  fun H locs la hR hS hl => va_tb C.hx C.hb (C.he.2.2.2.2.2.1.1 i (by rw [am_scount]; exact hi)).2.2.2 hS (vp_in_nI hj (am_sall i hi).1) (by rw [nI_clamp (Nat.lt_trans hj (am_sall i hi).1)]; rfl) hd (kk H locs la hR hS hl)
theorem k_scmp (C : am_Cx G X own cc nL ret tb Q) {idx : Nat} (hf : Cond.fieldLink own idx "java/lang/String" "COMPACT_STRINGS" "Z" ∈ am_tbl) (hd : decode cc pc = .ok (.getstatic idx, 3)) (kk : am_K G X R nL Λ I J k n (pc + 3) ls (.int 1 :: st)) : am_K G X R nL Λ I J k n (pc) ls (st) :=
  fun H locs la hR hS hl => va_gets C.hx C.hb C.he.2.2.2.2.2.2.1.1 hS C.ho (C.ht _ hf) (fun _ h => h) hd (kk H locs la hR hS hl)
theorem k_sfmt (C : am_Cx G X own cc nL ret tb Q) {idx : Nat} (hf : Cond.fieldLink own idx "jdk/internal/util/Preconditions" "SIOOBE_FORMATTER" "Ljava/util/function/BiFunction;" ∈ am_tbl) (hd : decode cc pc = .ok (.getstatic idx, 3)) (kk : ∀ v : Value, (v = .null ∨ ∃ t : Nat, v = .ref t) → am_K G X R nL Λ I J k n (pc + 3) ls (v :: st)) : am_K G X R nL Λ I J k n (pc) ls (st) :=
  fun H locs la hR hS hl => C.he.2.2.2.2.2.2.1.2.1.elim (fun z => va_gets C.hx C.hb z hS C.ho (C.ht _ hf) (fun _ h => h) hd (kk _ (Or.inl rfl) H locs la hR hS hl)) (fun ⟨t, z⟩ => va_gets C.hx C.hb z hS C.ho (C.ht _ hf) (fun _ h => h) hd (kk _ (Or.inr ⟨t, rfl⟩) H locs la hR hS hl))
theorem k_ldcS (C : am_Cx G X own cc nL ret tb Q) (si : Nat) {is : Nat} {text : String} (hsi : am_strs[si]? = some (own, is, text)) (hd : decode cc pc = .ok (.ldc is, 2)) (kk : am_K G X R nL Λ I J k n (pc + 2) ls (.ref (G.2.2.2.2.1 si) :: st)) : am_K G X R nL Λ I J k n (pc) ls (st) :=
  fun H locs la hR hS hl => va_ldcS C.hx C.hb C.ho (C.he.2.2.2.2.1 si _ hsi) hd (kk H locs la hR hS hl)
/-- a call of a string constant's own method -/
theorem k_callKp (C : am_Cx G X own cc nL ret tb Q) {y : MethodName} {b' : ByteArray} {nL' nn : Nat} {ret' : Option FieldType} {R' : Room} {As rest : List Value} {idx : Nat} {v : Value} {i : Nat} (hS0 : am_SV own idx y "java/lang/String" nn) (hcode : Cond.code y b' nL' ret' ∈ am_tbl) (hi : i < 43) (hM : am_Ct G y b' nL' ret' R' (.ref (G.2.2.2.2.1 i) :: As) Λ I J (am_pure v Λ I J) am_never) (hnn : As.length = nn) (hst : st = As.reverse ++ .ref (G.2.2.2.2.1 i) :: rest) (hW : (rest.map fun v => v.category).sum ≤ 8) (hfr : R'.frames + 1 ≤ R.frames ∧ 8 + (nL' + 11) + R'.locals ≤ R.locals) (hce : k ≤ R.cells ∧ n ≤ R.slots) (h0 : R'.cells = 0 ∧ R'.slots = 0) (hd : decode cc pc = .ok (.invokevirtual idx, 3)) (kk : am_K G X R nL Λ I J (k) (n) (pc + 3) (ls) (v :: rest)) : am_K G X R nL Λ I J (k) (n) (pc) (ls) (st) := by
  intro H locs la hR hS hl
  obtain ⟨cell, q1, q2, q3⟩ := vk_recv C.he.2.2.2.2.2.1 (by rw [am_scount]; exact hi) hS
  obtain ⟨w1, w2, w3, w4, w5, w6, w7⟩ := hS0
  exact am_fin (vx_runV ⟨C.hx, C.hb, C.hm, C.ho, C.ht⟩ hM ⟨callB_of nn C.ht (am_goodc hcode) rfl rfl rfl (C.ht _ w4) (C.ht _ w1) ⟨w5, w6, w7⟩ hfr, C.ht _ w2, C.ht _ w3⟩ ⟨am_blind, ⟨cell, q1, q2, q3⟩, fun U hU hW => ⟨rfl, by rw [hU]; exact hR, C.he.to hW (by rw [hU]; exact hS)⟩⟩ rfl hnn hl.1 hst (am_w8 rfl hW) hd (by rw [h0.1, h0.2]; exact hce)) hS hl (fun w Λ' I' J' hp => by obtain ⟨rfl, rfl, rfl, rfl⟩ := hp; rw [h0.1, h0.2]; exact kk) (fun _ _ _ _ h => h.elim)
end AMS
set_option maxHeartbeats 4000000 in
set_option maxRecDepth 100000 in
theorem ct_J0_coder_7d493 {G : am_G} {Λ : am_L} {I : am_I} {J : am_J} {i : Nat} (hi : i < 43) : am_Ct G yJ0_coder_7d493 cJ0_coder_7d493 1 (some .byte) { frames := 0, cells := 0, slots := 0, locals := 0 } [.ref (G.2.2.2.2.1 i)] Λ I J (am_pure (.int 0) Λ I J) am_never := by
  refine am_ct_of (own := RJ0) rfl (by decide) (Nat.le_of_ble_eq_true rfl) (fun X C => ?_)
  change am_K G X { frames := 0, cells := 0, slots := 0, locals := 0 } 1 Λ I J 0 0 0 [(0, .ref (G.2.2.2.2.1 i))] []
  refine k_scmp C f_J0_38 dJ0_coder_7d493_0 ?_
  first
  | refine k_ifb_eq C (tgt := 13) (by decide) dJ0_coder_7d493_3 (fun hc3 => ?_) (fun hc3 => ?_)
  | refine k_if_eq C (tgt := 13) (by decide) dJ0_coder_7d493_3 (fun hc3 => ?_) (fun hc3 => ?_)
  · skip
    exact absurd hc3 (by decide)
  · skip
    refine k_aload_n C (f := 0) (i := 0) (p := 0) rfl rfl dJ0_coder_7d493_6 ?_
    refine k_scod C (hi) f_J0_15 dJ0_coder_7d493_7 ?_
    refine k_goto C (tgt := 14) (by decide) dJ0_coder_7d493_10 ?_
    exact k_zret C (rfl) (Nat.le_of_ble_eq_true rfl) (Nat.le_of_ble_eq_true rfl) (⟨rfl, rfl, rfl, rfl⟩) dJ0_coder_7d493_14
set_option maxHeartbeats 4000000 in
set_option maxRecDepth 100000 in
theorem ct_J0_isLatin1_aae02 {G : am_G} {Λ : am_L} {I : am_I} {J : am_J} {i : Nat} (hi : i < 43) : am_Ct G yJ0_isLatin1_aae02 cJ0_isLatin1_aae02 1 (some .boolean) { frames := 0, cells := 0, slots := 0, locals := 0 } [.ref (G.2.2.2.2.1 i)] Λ I J (am_pure (.int 1) Λ I J) am_never := by
  refine am_ct_of (own := RJ0) rfl (by decide) (Nat.le_of_ble_eq_true rfl) (fun X C => ?_)
  change am_K G X { frames := 0, cells := 0, slots := 0, locals := 0 } 1 Λ I J 0 0 0 [(0, .ref (G.2.2.2.2.1 i))] []
  refine k_scmp C f_J0_38 dJ0_isLatin1_aae02_0 ?_
  first
  | refine k_ifb_eq C (tgt := 17) (by decide) dJ0_isLatin1_aae02_3 (fun hc3 => ?_) (fun hc3 => ?_)
  | refine k_if_eq C (tgt := 17) (by decide) dJ0_isLatin1_aae02_3 (fun hc3 => ?_) (fun hc3 => ?_)
  · skip
    exact absurd hc3 (by decide)
  · skip
    refine k_aload_n C (f := 0) (i := 0) (p := 0) rfl rfl dJ0_isLatin1_aae02_6 ?_
    refine k_scod C (hi) f_J0_15 dJ0_isLatin1_aae02_7 ?_
    first
    | refine k_ifb_ne C (tgt := 17) (by decide) dJ0_isLatin1_aae02_10 (fun hc10 => ?_) (fun hc10 => ?_)
    | refine k_if_ne C (tgt := 17) (by decide) dJ0_isLatin1_aae02_10 (fun hc10 => ?_) (fun hc10 => ?_)
    · skip
      exact absurd hc10 (by decide)
    · skip
      refine k_iconst C ic_1 dJ0_isLatin1_aae02_13 ?_
      refine k_goto C (tgt := 18) (by decide) dJ0_isLatin1_aae02_14 ?_
      exact k_zret C (rfl) (Nat.le_of_ble_eq_true rfl) (Nat.le_of_ble_eq_true rfl) (⟨rfl, rfl, rfl, rfl⟩) dJ0_isLatin1_aae02_18
set_option maxHeartbeats 4000000 in
set_option maxRecDepth 100000 in
theorem ct_J0_length_8abf5 {G : am_G} {Λ : am_L} {I : am_I} {J : am_J} {i : Nat} (hi : i < 43) : am_Ct G yJ0_length_8abf5 cJ0_length_8abf5 1 (some .int) { frames := 1, cells := 0, slots := 0, locals := 20 } [.ref (G.2.2.2.2.1 i)] Λ I J (am_pure (.int (nI (am_slen.getD i 0))) Λ I J) am_never := by
  refine am_ct_of (own := RJ0) rfl (by decide) (Nat.le_of_ble_eq_true rfl) (fun X C => ?_)
  change am_K G X { frames := 1, cells := 0, slots := 0, locals := 20 } 1 Λ I J 0 0 0 [(0, .ref (G.2.2.2.2.1 i))] []
  refine k_aload_n C (f := 0) (i := 0) (p := 0) rfl rfl dJ0_length_8abf5_0 ?_
  refine k_sval C (hi) f_J0_9 dJ0_length_8abf5_1 ?_
  refine k_slen C (hi) dJ0_length_8abf5_4 ?_
  refine k_aload_n C (f := 0) (i := 0) (p := 0) rfl rfl dJ0_length_8abf5_5 ?_
  refine k_callKp C s_J0_335 h_J0_coder_7d493 (hi) (ct_J0_coder_7d493 hi) rfl rfl (Nat.le_of_ble_eq_true rfl) ⟨Nat.le_of_ble_eq_true rfl, Nat.le_of_ble_eq_true rfl⟩ ⟨Nat.le_of_ble_eq_true rfl, Nat.le_of_ble_eq_true rfl⟩ ⟨rfl, rfl⟩ dJ0_length_8abf5_6 ?_
  refine k_ishr C dJ0_length_8abf5_9 ?_
  exact k_iret C (Nat.le_of_ble_eq_true rfl) (Nat.le_of_ble_eq_true rfl) (⟨congrArg (fun z => some (Value.int z)) (sc_shr0 (am_sall i hi).1), rfl, rfl, rfl⟩) dJ0_length_8abf5_10
set_option maxHeartbeats 4000000 in
set_option maxRecDepth 100000 in
theorem ct_J3n {G : am_G} {Λ : am_L} {I : am_I} {J : am_J} {k N : Nat} (hk : k < N) (hN : N < 2 ^ 31) : am_Ct G yJ3_checkIndex_8e157 cJ3_checkIndex_8e157 3 (some .int) { frames := 0, cells := 0, slots := 0, locals := 0 } [.int (nI k), .int (nI N), .null] Λ I J (am_pure (.int (nI k)) Λ I J) am_never := by
  refine am_ct_of (own := RJ3) rfl (by decide) (Nat.le_of_ble_eq_true rfl) (fun X C => ?_)
  change am_K G X { frames := 0, cells := 0, slots := 0, locals := 0 } 3 Λ I J 0 0 0 [(0, .int (nI k)), (1, .int (nI N)), (2, .null)] []
  refine k_iload_n C (f := 0) (i := 0) (p := 0) rfl rfl dJ3_checkIndex_8e157_0 ?_
  refine k_if_lt C (tgt := 9) (by decide) dJ3_checkIndex_8e157_1 (fun hc1 => ?_) (fun hc1 => ?_)
  · skip
    exact absurd hc1 (nI_neg (by omega))
  · skip
    refine k_iload_n C (f := 0) (i := 0) (p := 0) rfl rfl dJ3_checkIndex_8e157_4 ?_
    refine k_iload_n C (f := 1) (i := 1) (p := 1) rfl rfl dJ3_checkIndex_8e157_5 ?_
    refine k_icmpN_lt C (tgt := 16) (by omega) (by omega) (by decide) dJ3_checkIndex_8e157_6 (fun hc6 => ?_) (fun hc6 => ?_)
    · skip
      refine k_iload_n C (f := 0) (i := 0) (p := 0) rfl rfl dJ3_checkIndex_8e157_16 ?_
      exact k_iret C (Nat.le_of_ble_eq_true rfl) (Nat.le_of_ble_eq_true rfl) (⟨rfl, rfl, rfl, rfl⟩) dJ3_checkIndex_8e157_17
    · skip
      exact absurd hk hc6
set_option maxHeartbeats 4000000 in
set_option maxRecDepth 100000 in
theorem ct_J3r {G : am_G} {Λ : am_L} {I : am_I} {J : am_J} {k N : Nat} {t : Nat} (hk : k < N) (hN : N < 2 ^ 31) : am_Ct G yJ3_checkIndex_8e157 cJ3_checkIndex_8e157 3 (some .int) { frames := 0, cells := 0, slots := 0, locals := 0 } [.int (nI k), .int (nI N), .ref t] Λ I J (am_pure (.int (nI k)) Λ I J) am_never := by
  refine am_ct_of (own := RJ3) rfl (by decide) (Nat.le_of_ble_eq_true rfl) (fun X C => ?_)
  change am_K G X { frames := 0, cells := 0, slots := 0, locals := 0 } 3 Λ I J 0 0 0 [(0, .int (nI k)), (1, .int (nI N)), (2, .ref t)] []
  refine k_iload_n C (f := 0) (i := 0) (p := 0) rfl rfl dJ3_checkIndex_8e157_0 ?_
  refine k_if_lt C (tgt := 9) (by decide) dJ3_checkIndex_8e157_1 (fun hc1 => ?_) (fun hc1 => ?_)
  · skip
    exact absurd hc1 (nI_neg (by omega))
  · skip
    refine k_iload_n C (f := 0) (i := 0) (p := 0) rfl rfl dJ3_checkIndex_8e157_4 ?_
    refine k_iload_n C (f := 1) (i := 1) (p := 1) rfl rfl dJ3_checkIndex_8e157_5 ?_
    refine k_icmpN_lt C (tgt := 16) (by omega) (by omega) (by decide) dJ3_checkIndex_8e157_6 (fun hc6 => ?_) (fun hc6 => ?_)
    · skip
      refine k_iload_n C (f := 0) (i := 0) (p := 0) rfl rfl dJ3_checkIndex_8e157_16 ?_
      exact k_iret C (Nat.le_of_ble_eq_true rfl) (Nat.le_of_ble_eq_true rfl) (⟨rfl, rfl, rfl, rfl⟩) dJ3_checkIndex_8e157_17
    · skip
      exact absurd hk hc6
theorem ct_J3 {G : am_G} {Λ : am_L} {I : am_I} {J : am_J} {k N : Nat} {v0 : Value} (hv : v0 = .null ∨ ∃ t : Nat, v0 = .ref t) (hk : k < N) (hN : N < 2 ^ 31) : am_Ct G yJ3_checkIndex_8e157 cJ3_checkIndex_8e157 3 (some .int) { frames := 0, cells := 0, slots := 0, locals := 0 } [.int (nI k), .int (nI N), v0] Λ I J (am_pure (.int (nI k)) Λ I J) am_never := by
  rcases hv with rfl | ⟨t, rfl⟩
  · exact ct_J3n hk hN
  · exact ct_J3r hk hN
set_option maxHeartbeats 4000000 in
set_option maxRecDepth 100000 in
theorem ct_J0_checkIndex_df160 {G : am_G} {Λ : am_L} {I : am_I} {J : am_J} {k N : Nat} (hk : k < N) (hN : N < 2 ^ 31) : am_Ct G yJ0_checkIndex_df160 cJ0_checkIndex_df160 2 none { frames := 1, cells := 0, slots := 0, locals := 22 } [.int (nI k), .int (nI N)] Λ I J (am_gen Λ J (fun v I' => v = none ∧ I' = I)) am_never := by
  refine am_ct_of (own := RJ0) rfl (by decide) (Nat.le_of_ble_eq_true rfl) (fun X C => ?_)
  change am_K G X { frames := 1, cells := 0, slots := 0, locals := 22 } 2 Λ I J 0 0 0 [(0, .int (nI k)), (1, .int (nI N))] []
  refine k_iload_n C (f := 0) (i := 0) (p := 0) rfl rfl dJ0_checkIndex_df160_0 ?_
  refine k_iload_n C (f := 1) (i := 1) (p := 1) rfl rfl dJ0_checkIndex_df160_1 ?_
  refine k_sfmt C f_J0_1053 dJ0_checkIndex_df160_2 ?_
  intro vf hvf
  refine k_callSp C s_J0_1059 h_J3_checkIndex_8e157 (ct_J3 hvf hk hN) rfl rfl (Nat.le_of_ble_eq_true rfl) ⟨Nat.le_of_ble_eq_true rfl, Nat.le_of_ble_eq_true rfl⟩ ⟨Nat.le_of_ble_eq_true rfl, Nat.le_of_ble_eq_true rfl⟩ ⟨rfl, rfl⟩ dJ0_checkIndex_df160_5 ?_
  refine k_pop C rfl dJ0_checkIndex_df160_8 ?_
  exact k_vret C (Nat.le_of_ble_eq_true rfl) (Nat.le_of_ble_eq_true rfl) (⟨rfl, rfl, ⟨rfl, rfl⟩⟩) dJ0_checkIndex_df160_9
set_option maxHeartbeats 4000000 in
set_option maxRecDepth 100000 in
theorem ct_J1_charAt_3b067 {G : am_G} {Λ : am_L} {I : am_I} {J : am_J} {i k : Nat} (hi : i < 43) (hk : k < am_slen.getD i 0) : am_Ct G yJ1_charAt_3b067 cJ1_charAt_3b067 2 (some .char) { frames := 2, cells := 0, slots := 0, locals := 43 } [.ref (G.2.2.2.2.2 i), .int (nI k)] Λ I J (am_pure (.int (am_ch i k)) Λ I J) am_never := by
  refine am_ct_of (own := RJ1) rfl (by decide) (Nat.le_of_ble_eq_true rfl) (fun X C => ?_)
  change am_K G X { frames := 2, cells := 0, slots := 0, locals := 43 } 2 Λ I J 0 0 0 [(0, .ref (G.2.2.2.2.2 i)), (1, .int (nI k))] []
  refine k_iload_n C (f := 1) (i := 1) (p := 1) rfl rfl dJ1_charAt_3b067_0 ?_
  refine k_aload_n C (f := 0) (i := 0) (p := 0) rfl rfl dJ1_charAt_3b067_1 ?_
  refine k_slen C (hi) dJ1_charAt_3b067_2 ?_
  refine k_callSg C s_J1_9 h_J0_checkIndex_df160 (ct_J0_checkIndex_df160 hk (am_sall i hi).1) rfl rfl (Nat.le_of_ble_eq_true rfl) ⟨Nat.le_of_ble_eq_true rfl, Nat.le_of_ble_eq_true rfl⟩ ⟨Nat.le_of_ble_eq_true rfl, Nat.le_of_ble_eq_true rfl⟩ ⟨rfl, rfl⟩ dJ1_charAt_3b067_3 ?_
  intro v I3 hv
  obtain ⟨rfl, rfl⟩ := hv
  refine k_aload_n C (f := 0) (i := 0) (p := 0) rfl rfl dJ1_charAt_3b067_6 ?_
  refine k_iload_n C (f := 1) (i := 1) (p := 1) rfl rfl dJ1_charAt_3b067_7 ?_
  refine k_sald C hi hk dJ1_charAt_3b067_8 ?_
  refine k_sipush C sc_255 dJ1_charAt_3b067_9 ?_
  refine k_iand C dJ1_charAt_3b067_12 ?_
  rw [show am_ch i k &&& nI 255 = am_ch i k from am_ch255 hi hk]
  refine k_i2c C ((by rw [← am_ch255 hi hk]; exact sc_c2 _ : _ = am_ch i k)) dJ1_charAt_3b067_13 ?_
  exact k_zret C ((by rw [← am_ch255 hi hk]; exact sc_nar _)) (Nat.le_of_ble_eq_true rfl) (Nat.le_of_ble_eq_true rfl) (⟨rfl, rfl, rfl, rfl⟩) dJ1_charAt_3b067_14
set_option maxHeartbeats 4000000 in
set_option maxRecDepth 100000 in
theorem ct_J0_charAt_5068e {G : am_G} {Λ : am_L} {I : am_I} {J : am_J} {i k : Nat} (hi : i < 43) (hk : k < am_slen.getD i 0) : am_Ct G yJ0_charAt_5068e cJ0_charAt_5068e 2 (some .char) { frames := 3, cells := 0, slots := 0, locals := 64 } [.ref (G.2.2.2.2.1 i), .int (nI k)] Λ I J (am_pure (.int (am_ch i k)) Λ I J) am_never := by
  refine am_ct_of (own := RJ0) rfl (by decide) (Nat.le_of_ble_eq_true rfl) (fun X C => ?_)
  change am_K G X { frames := 3, cells := 0, slots := 0, locals := 64 } 2 Λ I J 0 0 0 [(0, .ref (G.2.2.2.2.1 i)), (1, .int (nI k))] []
  refine k_aload_n C (f := 0) (i := 0) (p := 0) rfl rfl dJ0_charAt_5068e_0 ?_
  refine k_callKp C s_J0_492 h_J0_isLatin1_aae02 (hi) (ct_J0_isLatin1_aae02 hi) rfl rfl (Nat.le_of_ble_eq_true rfl) ⟨Nat.le_of_ble_eq_true rfl, Nat.le_of_ble_eq_true rfl⟩ ⟨Nat.le_of_ble_eq_true rfl, Nat.le_of_ble_eq_true rfl⟩ ⟨rfl, rfl⟩ dJ0_charAt_5068e_1 ?_
  first
  | refine k_ifb_eq C (tgt := 16) (by decide) dJ0_charAt_5068e_4 (fun hc4 => ?_) (fun hc4 => ?_)
  | refine k_if_eq C (tgt := 16) (by decide) dJ0_charAt_5068e_4 (fun hc4 => ?_) (fun hc4 => ?_)
  · skip
    exact absurd hc4 (by decide)
  · skip
    refine k_aload_n C (f := 0) (i := 0) (p := 0) rfl rfl dJ0_charAt_5068e_7 ?_
    refine k_sval C (hi) f_J0_9 dJ0_charAt_5068e_8 ?_
    refine k_iload_n C (f := 1) (i := 1) (p := 1) rfl rfl dJ0_charAt_5068e_11 ?_
    refine k_callSp C s_J0_495 h_J1_charAt_3b067 (ct_J1_charAt_3b067 hi hk) rfl rfl (Nat.le_of_ble_eq_true rfl) ⟨Nat.le_of_ble_eq_true rfl, Nat.le_of_ble_eq_true rfl⟩ ⟨Nat.le_of_ble_eq_true rfl, Nat.le_of_ble_eq_true rfl⟩ ⟨rfl, rfl⟩ dJ0_charAt_5068e_12 ?_
    exact k_zret C ((by rw [← am_ch255 hi hk]; exact sc_nar _)) (Nat.le_of_ble_eq_true rfl) (Nat.le_of_ble_eq_true rfl) (⟨rfl, rfl, rfl, rfl⟩) dJ0_charAt_5068e_15
