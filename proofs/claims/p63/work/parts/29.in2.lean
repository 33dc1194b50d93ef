
/-! ===== bytes put behind the text ===== -/
def sp_tbp (tb : Nat → Nat) (n m : Nat) : Nat → Nat := fun j => if j = n then m else tb j
theorem sp_tbp_eq {tb : Nat → Nat} {n m : Nat} : sp_tbp tb n m n = m := if_pos rfl
theorem sp_tbp_ne {tb : Nat → Nat} {n m j : Nat} (h : j ≠ n) : sp_tbp tb n m j = tb j := if_neg h
theorem sp_sb_i {m : Nat} (h : m < 256) : (sp_sb m).toInt8.toInt32 = sp_sb m := by
  have e : ∀ k : Fin 256, (sp_sb k.val).toInt8.toInt32 = sp_sb k.val := by decide +kernel
  exact e ⟨m, h⟩
def sp_byte (x : Int32) (s : Nat) : Nat := x.toBitVec.toNat / 2 ^ s % 256
theorem sp_byte_b {x : Int32} {s : Nat} : sp_byte x s < 256 := Nat.mod_lt _ (by decide)
def sp_tbs (tb : Nat → Nat) (n : Nat) (x : Int32) : Nat → Nat → Nat
  | 0 => tb
  | k + 1 => sp_tbp (sp_tbs tb n x k) (n + k) (sp_byte x (24 - 8 * k))
/-- the chars of a constant as numbers -/
def am_cn (i k : Nat) : Nat := (am_ch i k).toNatClampNeg
theorem am_sall2 : ∀ i : Nat, i < 43 → ∀ b ∈ am_sbyt.getD i [], b = nI b.toNatClampNeg ∧ b.toNatClampNeg < 128 := by decide +kernel
theorem am_cn_ok {i k : Nat} (hi : i < 43) (hk : k < am_slen.getD i 0) : am_ch i k = nI (am_cn i k) ∧ am_cn i k < 128 := by
  have h := am_sall2 i hi
  have hl := am_slenb i hi
  unfold am_cn am_ch
  have hk' : k < (am_sbyt.getD i []).length := by omega
  rw [List.getD_eq_getElem?_getD, List.getElem?_eq_getElem hk']
  exact h _ (List.getElem_mem hk')
def sp_tbt (tb : Nat → Nat) (n si : Nat) : Nat → Nat → Nat
  | 0 => tb
  | k + 1 => sp_tbp (sp_tbt tb n si k) (n + k) (am_cn si k)
theorem InTxt_put {I I' : am_I} {i n m : Nat} {tb : Nat → Nat} (h : InTxt I i tb n) (hn : n < 700) (hm : m < 256) (h1 : I' i 1 = nI (n + 1)) (ho : ∀ j : Nat, j ≠ n → I' (i + 1) j = I (i + 1) j) (hp : I' (i + 1) n = sp_sb m) : InTxt I' i (sp_tbp tb n m) (n + 1) := by
  refine ⟨h1, by omega, fun j hj => ?_⟩
  by_cases e : j = n
  · subst e
    rw [sp_tbp_eq]; exact ⟨hp, hm⟩
  · rw [sp_tbp_ne e, ho j e]; exact h.2.2 j (by omega)
theorem am_ushr8 {x : Int32} {s : Nat} (hs : s < 32) : ((x.toUInt32 >>> ((nI s).toUInt32 &&& Int32.toUInt32 31)).toInt32).toInt8.toInt32 = sp_sb (sp_byte x s) := by
  have e : ∀ k : Fin 32, ((nI k.val).toUInt32 &&& Int32.toUInt32 31).toBitVec.toNat % 32 = k.val := by decide +kernel
  have e2 := e ⟨s, hs⟩
  have key : ((x.toUInt32 >>> ((nI s).toUInt32 &&& Int32.toUInt32 31)).toInt32).toBitVec.toNat = x.toBitVec.toNat / 2 ^ s := by
    show (x.toBitVec >>> (((nI s).toUInt32 &&& Int32.toUInt32 31).toBitVec % 32#32)).toNat = _
    rw [BitVec.ushiftRight_eq', BitVec.toNat_ushiftRight, Nat.shiftRight_eq_div_pow, BitVec.toNat_umod]
    rw [show (32#32).toNat = 32 from rfl, e2]
  have fin : ∀ y : Int32, y.toInt8.toInt32 = sp_sb (y.toBitVec.toNat % 256) := by
    intro y
    unfold sp_sb
    apply Int32.toBitVec_inj.mp
    show (y.toBitVec.signExtend 8).signExtend 32 = (((nI (y.toBitVec.toNat % 256)).toBitVec).signExtend 8).signExtend 32
    congr 1
    apply BitVec.eq_of_toNat_eq
    rw [BitVec.signExtend_eq_setWidth_of_le _ (by decide), BitVec.signExtend_eq_setWidth_of_le _ (by decide), BitVec.toNat_setWidth, BitVec.toNat_setWidth, pk_tn (by omega)]
    omega
  rw [fin, key]
  rfl

set_option maxHeartbeats 4000000 in
set_option maxRecDepth 100000 in
theorem ct_X2_takeByte {G : am_G} {Λ : am_L} {I : am_I} {J : am_J} {i n : Nat} {tb : Nat → Nat} {m : Nat} {x : Int32} (hi : InLay Λ i) (hx : InTxt I i tb n) (hn : n < 700) (hm : m < 256) (hxm : x.toInt8.toInt32 = sp_sb m) : am_Ct G yX2_takeByte cX2_takeByte 2 none { frames := 0, cells := 0, slots := 0, locals := 0 } [.ref i, .int x] Λ I J (am_gen Λ J (fun v I' => v = none ∧ InTxt I' i (sp_tbp tb n m) (n + 1) ∧ ∀ b K : Nat, ¬ (b = i ∧ K = 1) → b ≠ i + 1 → I' b K = I b K)) am_never := by
  refine am_ct_of (own := RX2) rfl (by decide) (Nat.le_of_ble_eq_true rfl) (fun X C => ?_)
  change am_K G X { frames := 0, cells := 0, slots := 0, locals := 0 } 2 Λ I J 0 0 0 [(0, .ref i), (1, .int x)] []
  refine k_aload_n C (f := 0) (i := 0) (p := 0) rfl rfl dX2_takeByte_0 ?_
  refine k_getI C f_X2_41 (L2_s (by assumption)) (fun _ _ _ => rfl) (hx.1) dX2_takeByte_1 ?_
  refine k_sipush C sc_700 dX2_takeByte_4 ?_
  first
  | refine k_icmpN_ge C (tgt := 31) (by omega) (by omega) (by decide) dX2_takeByte_7 (fun hc7 => ?_) (fun hc7 => ?_)
  | refine k_icmp_ge C (tgt := 31) (by decide) dX2_takeByte_7 (fun hc7 => ?_) (fun hc7 => ?_)
  · skip
    exact absurd hc7 (by omega)
  · skip
    refine k_aload_n C (f := 0) (i := 0) (p := 0) rfl rfl dX2_takeByte_10 ?_
    refine k_getR C f_X2_9 (L2_s (by assumption)) (fun _ _ _ => rfl) (L2_0 (by assumption)) dX2_takeByte_11 ?_
    refine k_aload_n C (f := 0) (i := 0) (p := 0) rfl rfl dX2_takeByte_14 ?_
    refine k_getI C f_X2_41 (L2_s (by assumption)) (fun _ _ _ => rfl) (hx.1) dX2_takeByte_15 ?_
    refine k_iload_n C (f := 1) (i := 1) (p := 1) rfl rfl dX2_takeByte_18 ?_
    refine k_i2b C (hxm) dX2_takeByte_19 ?_
    refine k_bast C (A2_0 (by assumption)) (by first | rfl | assumption) (by omega) (by decide) dX2_takeByte_20 ?_
    rw [show vp_nar FieldType.byte (sp_sb m) = sp_sb m from sp_sb_i hm]
    obtain ⟨I1, hI1⟩ : ∃ z : am_I, z = am_up I (i + 1) n (sp_sb m) := ⟨_, rfl⟩
    rw [← hI1]
    refine k_aload_n C (f := 0) (i := 0) (p := 0) rfl rfl dX2_takeByte_21 ?_
    refine k_dup C rfl dX2_takeByte_22 ?_
    refine k_getI C f_X2_41 (L2_s (by assumption)) (fun _ _ _ => rfl) (Eq.trans (by rw [hI1, am_up_n2 (by omega)]) hx.1) dX2_takeByte_23 ?_
    refine k_iconst C ic_1 dX2_takeByte_26 ?_
    refine k_iadd C dX2_takeByte_27 ?_
    refine k_putI C f_X2_41 (L2_s (by assumption)) rfl rfl dX2_takeByte_28 ?_
    exact k_vret C (Nat.le_of_ble_eq_true rfl) (Nat.le_of_ble_eq_true rfl) (⟨rfl, rfl, ⟨rfl, InTxt_put hx hn hm (by rw [am_up_eq, nI_add1]) (fun j hj => by rw [am_up_n2 (by omega), hI1, am_up_n2 (fun e => hj e.2)]) (by rw [am_up_n2 (by omega), hI1, am_up_eq]), fun b K h1 h2 => by rw [am_up_n2 h1, hI1, am_up_n2 (fun e => h2 e.1)]⟩⟩) dX2_takeByte_31
set_option maxHeartbeats 4000000 in
set_option maxRecDepth 100000 in
theorem ct_X2_takeFour {G : am_G} {Λ : am_L} {I : am_I} {J : am_J} {i n : Nat} {tb : Nat → Nat} {x : Int32} (hi : InLay Λ i) (hx : InTxt I i tb n) (hn : n + 4 ≤ 700) : am_Ct G yX2_takeFour cX2_takeFour 3 none { frames := 1, cells := 0, slots := 0, locals := 21 } [.ref i, .int x] Λ I J (am_gen Λ J (fun v I' => v = none ∧ InTxt I' i (sp_tbs tb n x 4) (n + 4) ∧ ∀ b K : Nat, ¬ (b = i ∧ K = 1) → b ≠ i + 1 → I' b K = I b K)) am_never := by
  refine am_ct_of (own := RX2) rfl (by decide) (Nat.le_of_ble_eq_true rfl) (fun X C => ?_)
  change am_K G X { frames := 1, cells := 0, slots := 0, locals := 21 } 3 Λ I J 0 0 0 [(0, .ref i), (1, .int x)] []
  refine k_bipush C bc_24 dX2_takeFour_0 ?_
  refine k_istore_n C (f := 2) (i := 2) (lv := [(2, _), (0, _), (1, _)]) rfl (Nat.le_of_ble_eq_true rfl) rfl dX2_takeFour_2 ?_
  have loop3 : ∀ (f : Nat) (t : Nat) (I1 : am_I) (sh : Int32), (t ≤ 4) → (sh = nI (32 - 8 * t) - nI 8) → (InTxt I1 i (sp_tbs tb n x t) (n + t)) → (∀ b K : Nat, ¬ (b = i ∧ K = 1) → b ≠ i + 1 → I1 b K = I b K) → (4 - t) < f → am_K G X { frames := 1, cells := 0, slots := 0, locals := 21 } 3 Λ I1 J 0 0 3 [(0, .ref i), (1, .int x), (2, .int sh)] [] := by
    intro f
    induction f with
    | zero => intro t I1 sh ht hsh hx1 hf1 hf; exact absurd hf (Nat.not_lt_zero _)
    | succ f ih3 =>
      intro t I1 sh ht hsh hx1 hf1 hf
      refine k_iload_n C (f := 2) (i := 2) (p := 2) rfl rfl dX2_takeFour_3 ?_
      refine k_if_lt C (tgt := 20) (by decide) dX2_takeFour_4 (fun hc4 => ?_) (fun hc4 => ?_)
      · skip
        have h4 : t = 4 := by
          rcases Nat.lt_or_ge t 4 with z | z
          · rw [hsh, show 32 - 8 * t = (24 - 8 * t) + 8 by omega, ← nI_add] at hc4
            rw [show nI (24 - 8 * t) + nI 8 - nI 8 = nI (24 - 8 * t) by rw [nI_add, pk_sub (by omega)]; rfl] at hc4
            exact absurd hc4 (nI_neg (by omega))
          · omega
        exact k_vret C (Nat.le_of_ble_eq_true rfl) (Nat.le_of_ble_eq_true rfl) (⟨rfl, rfl, ⟨rfl, by rw [h4] at hx1; exact hx1, hf1⟩⟩) dX2_takeFour_20
      · skip
        have h4 : t < 4 := by
          rcases Nat.lt_or_ge t 4 with z | z
          · exact z
          · refine absurd ?_ hc4
            rw [hsh, show t = 4 by omega]; decide
        have hs2 : sh = nI (24 - 8 * t) := by rw [hsh, pk_sub (by omega), show 32 - 8 * t - 8 = 24 - 8 * t by omega]
        refine k_aload_n C (f := 0) (i := 0) (p := 0) rfl rfl dX2_takeFour_7 ?_
        refine k_iload_n C (f := 1) (i := 1) (p := 1) rfl rfl dX2_takeFour_8 ?_
        refine k_iload_n C (f := 2) (i := 2) (p := 2) rfl rfl dX2_takeFour_9 ?_
        refine k_iushr C rfl dX2_takeFour_10 ?_
        refine k_callVg C s_X2_27 h_X2_takeByte (L2_s hi) rfl (ct_X2_takeByte (m := sp_byte x (24 - 8 * t)) hi hx1 (by omega) sp_byte_b (by rw [hs2]; exact am_ushr8 (by omega))) rfl rfl (Nat.le_of_ble_eq_true rfl) ⟨Nat.le_of_ble_eq_true rfl, Nat.le_of_ble_eq_true rfl⟩ ⟨Nat.le_of_ble_eq_true rfl, Nat.le_of_ble_eq_true rfl⟩ ⟨rfl, rfl⟩ dX2_takeFour_11 ?_
        intro v I2 hv
        obtain ⟨rfl, hx2, hf2⟩ := hv
        refine k_iinc C (i := 2) (p := 2) (lv := [(2, _), (0, _), (1, _)]) (Nat.le_of_ble_eq_true rfl) rfl (rfl) rfl dX2_takeFour_14 ?_
        refine k_goto C (tgt := 3) (by decide) dX2_takeFour_17 ?_
        refine k_sub [1, 2, 0] rfl ?_
        exact ih3 (t + 1) _ _ (by omega) (by rw [hs2, show 32 - 8 * (t + 1) = 24 - 8 * t by omega, show Int32.ofInt (-8) = -nI 8 by decide, ← Int32.sub_eq_add_neg]) hx2 (fun b K h1 h2 => (hf2 b K h1 h2).trans (hf1 b K h1 h2)) (by omega)
  refine k_sub [1, 2, 0] rfl ?_
  exact loop3 5 0 I _ (Nat.zero_le _) rfl hx (fun _ _ _ _ => rfl) (by omega)
set_option maxHeartbeats 4000000 in
set_option maxRecDepth 100000 in
theorem ct_X2_takeText {G : am_G} {Λ : am_L} {I : am_I} {J : am_J} {i n : Nat} {tb : Nat → Nat} {si : Nat} (hi : InLay Λ i) (hx : InTxt I i tb n) (hsi : si < 43) (hn : n + am_slen.getD si 0 ≤ 700) : am_Ct G yX2_takeText cX2_takeText 3 none { frames := 4, cells := 0, slots := 0, locals := 85 } [.ref i, .ref (G.2.2.2.2.1 si)] Λ I J (am_gen Λ J (fun v I' => v = none ∧ InTxt I' i (sp_tbt tb n si (am_slen.getD si 0)) (n + am_slen.getD si 0) ∧ ∀ b K : Nat, ¬ (b = i ∧ K = 1) → b ≠ i + 1 → I' b K = I b K)) am_never := by
  refine am_ct_of (own := RX2) rfl (by decide) (Nat.le_of_ble_eq_true rfl) (fun X C => ?_)
  change am_K G X { frames := 4, cells := 0, slots := 0, locals := 85 } 3 Λ I J 0 0 0 [(0, .ref i), (1, .ref (G.2.2.2.2.1 si))] []
  refine k_iconst C ic_0 dX2_takeText_0 ?_
  refine k_istore_n C (f := 2) (i := 2) (lv := [(2, _), (0, _), (1, _)]) rfl (Nat.le_of_ble_eq_true rfl) rfl dX2_takeText_1 ?_
  have loop2 : ∀ (f : Nat) (k : Nat) (I1 : am_I), (k ≤ am_slen.getD si 0) → (InTxt I1 i (sp_tbt tb n si k) (n + k)) → (∀ b K : Nat, ¬ (b = i ∧ K = 1) → b ≠ i + 1 → I1 b K = I b K) → (am_slen.getD si 0 - k) < f → am_K G X { frames := 4, cells := 0, slots := 0, locals := 85 } 3 Λ I1 J 0 0 2 [(0, .ref i), (1, .ref (G.2.2.2.2.1 si)), (2, .int (nI k))] [] := by
    intro f
    induction f with
    | zero => intro k I1 hk hx1 hf1 hf; exact absurd hf (Nat.not_lt_zero _)
    | succ f ih2 =>
      intro k I1 hk hx1 hf1 hf
      refine k_iload_n C (f := 2) (i := 2) (p := 2) rfl rfl dX2_takeText_2 ?_
      refine k_aload_n C (f := 1) (i := 1) (p := 1) rfl rfl dX2_takeText_3 ?_
      refine k_callKp C s_X2_31 h_J0_length_8abf5 (hsi) (ct_J0_length_8abf5 hsi) rfl rfl (Nat.le_of_ble_eq_true rfl) ⟨Nat.le_of_ble_eq_true rfl, Nat.le_of_ble_eq_true rfl⟩ ⟨Nat.le_of_ble_eq_true rfl, Nat.le_of_ble_eq_true rfl⟩ ⟨rfl, rfl⟩ dX2_takeText_4 ?_
      first
      | refine k_icmpN_ge C (tgt := 25) (by omega) (by omega) (by decide) dX2_takeText_7 (fun hc7 => ?_) (fun hc7 => ?_)
      | refine k_icmp_ge C (tgt := 25) (by decide) dX2_takeText_7 (fun hc7 => ?_) (fun hc7 => ?_)
      · skip
        exact k_vret C (Nat.le_of_ble_eq_true rfl) (Nat.le_of_ble_eq_true rfl) (⟨rfl, rfl, ⟨rfl, by rw [show k = am_slen.getD si 0 by omega] at hx1; exact hx1, hf1⟩⟩) dX2_takeText_25
      · skip
        refine k_aload_n C (f := 0) (i := 0) (p := 0) rfl rfl dX2_takeText_10 ?_
        refine k_aload_n C (f := 1) (i := 1) (p := 1) rfl rfl dX2_takeText_11 ?_
        refine k_iload_n C (f := 2) (i := 2) (p := 2) rfl rfl dX2_takeText_12 ?_
        refine k_callKp C s_X2_37 h_J0_charAt_5068e (hsi) (ct_J0_charAt_5068e hsi (by omega)) rfl rfl (Nat.le_of_ble_eq_true rfl) ⟨Nat.le_of_ble_eq_true rfl, Nat.le_of_ble_eq_true rfl⟩ ⟨Nat.le_of_ble_eq_true rfl, Nat.le_of_ble_eq_true rfl⟩ ⟨rfl, rfl⟩ dX2_takeText_13 ?_
        refine k_callVg C s_X2_27 h_X2_takeByte (L2_s hi) rfl (ct_X2_takeByte (m := am_cn si k) hi hx1 (by omega) (by have := (am_cn_ok hsi (show k < am_slen.getD si 0 by omega)).2; omega) (by rw [(am_cn_ok hsi (show k < am_slen.getD si 0 by omega)).1]; rfl)) rfl rfl (Nat.le_of_ble_eq_true rfl) ⟨Nat.le_of_ble_eq_true rfl, Nat.le_of_ble_eq_true rfl⟩ ⟨Nat.le_of_ble_eq_true rfl, Nat.le_of_ble_eq_true rfl⟩ ⟨rfl, rfl⟩ dX2_takeText_16 ?_
        intro v I2 hv
        obtain ⟨rfl, hx2, hf2⟩ := hv
        refine k_iinc C (i := 2) (p := 2) (lv := [(2, _), (0, _), (1, _)]) (Nat.le_of_ble_eq_true rfl) rfl (by first | exact am_inc1 _ | rfl) rfl dX2_takeText_19 ?_
        refine k_goto C (tgt := 2) (by decide) dX2_takeText_22 ?_
        refine k_sub [1, 2, 0] rfl ?_
        exact ih2 (k + 1) _ (by omega) hx2 (fun b K h1 h2 => (hf2 b K h1 h2).trans (hf1 b K h1 h2)) (by omega)
  refine k_sub [1, 2, 0] rfl ?_
  exact loop2 (am_slen.getD si 0 + 1) 0 I (Nat.zero_le _) hx (fun _ _ _ _ => rfl) (by omega)
set_option maxHeartbeats 4000000 in
set_option maxRecDepth 100000 in
theorem ct_X2_takeNumber {G : am_G} {Λ : am_L} {I : am_I} {J : am_J} {i n : Nat} {tb : Nat → Nat} {t : sp_T} {lo hi2 : Nat} (hi : InLay Λ i) (hx : InTxt I i tb n) (ht : InTok I i n t) (hlo : lo < 2 ^ 31) (hhi : hi2 < 2 ^ 31) : am_Ct G yX2_takeNumber cX2_takeNumber 3 (some .boolean) { frames := 2, cells := 0, slots := 0, locals := 41 } [.ref i, .int (nI lo), .int (nI hi2)] Λ I J (am_gen Λ J (fun v I' => v = some (.int (am_b (t.1 = 2 ∧ lo ≤ t.2.2.2 ∧ t.2.2.2 ≤ hi2))) ∧ ((t.1 = 2 ∧ lo ≤ t.2.2.2 ∧ t.2.2.2 ≤ hi2) → InTok I' i n (sp_nx tb n t) ∧ I' i 7 = nI t.2.2.2) ∧ (¬ (t.1 = 2 ∧ lo ≤ t.2.2.2 ∧ t.2.2.2 ≤ hi2) → I' = I) ∧ InFr i I I')) am_never := by
  refine am_ct_of (own := RX2) rfl (by decide) (Nat.le_of_ble_eq_true rfl) (fun X C => ?_)
  change am_K G X { frames := 2, cells := 0, slots := 0, locals := 41 } 3 Λ I J 0 0 0 [(0, .ref i), (1, .int (nI lo)), (2, .int (nI hi2))] []
  obtain ⟨t3, t4, t5, t6, t7, t8, t9, t10⟩ := ht
  have hn := hx.2.1
  
  refine k_aload_n C (f := 0) (i := 0) (p := 0) rfl rfl dX2_takeNumber_0 ?_
  refine k_getI C f_X2_69 (L2_s (by assumption)) (fun _ _ _ => rfl) (by first | assumption | rfl) dX2_takeNumber_1 ?_
  refine k_iconst C ic_2 dX2_takeNumber_4 ?_
  first
  | refine k_icmpN_ne C (tgt := 24) (by omega) (by omega) (by decide) dX2_takeNumber_5 (fun hc5 => ?_) (fun hc5 => ?_)
  | refine k_icmp_ne C (tgt := 24) (by decide) dX2_takeNumber_5 (fun hc5 => ?_) (fun hc5 => ?_)
  · skip
    refine k_iconst C ic_0 dX2_takeNumber_24 ?_
    exact k_zret C (by first | rfl | exact am_bz) (Nat.le_of_ble_eq_true rfl) (Nat.le_of_ble_eq_true rfl) (⟨rfl, rfl, ⟨congrArg (fun z => some (Value.int z)) (am_bf (by omega)), fun z => absurd z (by omega), fun _ => rfl, InFr.rf⟩⟩) dX2_takeNumber_25
  · skip
    refine k_aload_n C (f := 0) (i := 0) (p := 0) rfl rfl dX2_takeNumber_8 ?_
    refine k_getI C f_X2_112 (L2_s (by assumption)) (fun _ _ _ => rfl) (t6 (by omega)) dX2_takeNumber_9 ?_
    refine k_iload_n C (f := 1) (i := 1) (p := 1) rfl rfl dX2_takeNumber_12 ?_
    first
    | refine k_icmpN_lt C (tgt := 24) (by omega) (by omega) (by decide) dX2_takeNumber_13 (fun hc13 => ?_) (fun hc13 => ?_)
    | refine k_icmp_lt C (tgt := 24) (by decide) dX2_takeNumber_13 (fun hc13 => ?_) (fun hc13 => ?_)
    · skip
      refine k_iconst C ic_0 dX2_takeNumber_24 ?_
      exact k_zret C (by first | rfl | exact am_bz) (Nat.le_of_ble_eq_true rfl) (Nat.le_of_ble_eq_true rfl) (⟨rfl, rfl, ⟨congrArg (fun z => some (Value.int z)) (am_bf (by omega)), fun z => absurd z (by omega), fun _ => rfl, InFr.rf⟩⟩) dX2_takeNumber_25
    · skip
      refine k_aload_n C (f := 0) (i := 0) (p := 0) rfl rfl dX2_takeNumber_16 ?_
      refine k_getI C f_X2_112 (L2_s (by assumption)) (fun _ _ _ => rfl) (t6 (by omega)) dX2_takeNumber_17 ?_
      refine k_iload_n C (f := 2) (i := 2) (p := 2) rfl rfl dX2_takeNumber_20 ?_
      first
      | refine k_icmpN_le C (tgt := 26) (by omega) (by omega) (by decide) dX2_takeNumber_21 (fun hc21 => ?_) (fun hc21 => ?_)
      | refine k_icmp_le C (tgt := 26) (by decide) dX2_takeNumber_21 (fun hc21 => ?_) (fun hc21 => ?_)
      · skip
        refine k_aload_n C (f := 0) (i := 0) (p := 0) rfl rfl dX2_takeNumber_26 ?_
        refine k_aload_n C (f := 0) (i := 0) (p := 0) rfl rfl dX2_takeNumber_27 ?_
        refine k_getI C f_X2_112 (L2_s (by assumption)) (fun _ _ _ => rfl) (t6 (by omega)) dX2_takeNumber_28 ?_
        refine k_putI C f_X2_89 (L2_s (by assumption)) rfl rfl dX2_takeNumber_31 ?_
        refine k_aload_n C (f := 0) (i := 0) (p := 0) rfl rfl dX2_takeNumber_34 ?_
        skip
        refine k_callVg C s_X2_47 h_X2_step (L2_s hi) rfl (ct_X2_step (k := t.2.2.1) hi (hx.fr (InFr.rf.up (by omega))) t9 (by rw [am_up_n2 (by omega)]; exact t5)) rfl rfl (Nat.le_of_ble_eq_true rfl) ⟨Nat.le_of_ble_eq_true rfl, Nat.le_of_ble_eq_true rfl⟩ ⟨Nat.le_of_ble_eq_true rfl, Nat.le_of_ble_eq_true rfl⟩ ⟨rfl, rfl⟩ dX2_takeNumber_35 ?_
        intro v I2 hv
        obtain ⟨rfl, q1, q7, q2⟩ := hv
        refine k_iconst C ic_1 dX2_takeNumber_38 ?_
        exact k_zret C (by first | rfl | exact am_bz) (Nat.le_of_ble_eq_true rfl) (Nat.le_of_ble_eq_true rfl) (⟨rfl, rfl, ⟨congrArg (fun z => some (Value.int z)) (am_bt (by omega)), fun _ => ⟨q1, by rw [q7]; exact am_up_eq⟩, fun z => absurd ⟨by omega, by omega, by omega⟩ z, (InFr.rf.up (by omega)).tr q2⟩⟩) dX2_takeNumber_39
      · skip
        refine k_iconst C ic_0 dX2_takeNumber_24 ?_
        exact k_zret C (by first | rfl | exact am_bz) (Nat.le_of_ble_eq_true rfl) (Nat.le_of_ble_eq_true rfl) (⟨rfl, rfl, ⟨congrArg (fun z => some (Value.int z)) (am_bf (by omega)), fun z => absurd z (by omega), fun _ => rfl, InFr.rf⟩⟩) dX2_takeNumber_25
set_option maxHeartbeats 4000000 in
set_option maxRecDepth 100000 in
theorem ct_X2_takeSemicolon {G : am_G} {Λ : am_L} {I : am_I} {J : am_J} {i n : Nat} {tb : Nat → Nat} {t : sp_T}  (hi : InLay Λ i) (hx : InTxt I i tb n) (ht : InTok I i n t) : am_Ct G yX2_takeSemicolon cX2_takeSemicolon 1 (some .boolean) { frames := 2, cells := 0, slots := 0, locals := 41 } [.ref i] Λ I J (am_gen Λ J (fun v I' => v = some (.int (am_b (t.1 = 3))) ∧ (t.1 = 3 → InTok I' i n (sp_nx tb n t)) ∧ (¬ t.1 = 3 → I' = I) ∧ InFr i I I')) am_never := by
  refine am_ct_of (own := RX2) rfl (by decide) (Nat.le_of_ble_eq_true rfl) (fun X C => ?_)
  change am_K G X { frames := 2, cells := 0, slots := 0, locals := 41 } 1 Λ I J 0 0 0 [(0, .ref i)] []
  obtain ⟨t3, t4, t5, t6, t7, t8, t9, t10⟩ := ht
  have hn := hx.2.1
  
  refine k_aload_n C (f := 0) (i := 0) (p := 0) rfl rfl dX2_takeSemicolon_0 ?_
  refine k_getI C f_X2_69 (L2_s (by assumption)) (fun _ _ _ => rfl) (by first | assumption | rfl) dX2_takeSemicolon_1 ?_
  refine k_iconst C ic_3 dX2_takeSemicolon_4 ?_
  first
  | refine k_icmpN_eq C (tgt := 10) (by omega) (by omega) (by decide) dX2_takeSemicolon_5 (fun hc5 => ?_) (fun hc5 => ?_)
  | refine k_icmp_eq C (tgt := 10) (by decide) dX2_takeSemicolon_5 (fun hc5 => ?_) (fun hc5 => ?_)
  · skip
    refine k_aload_n C (f := 0) (i := 0) (p := 0) rfl rfl dX2_takeSemicolon_10 ?_
    refine k_callVg C s_X2_47 h_X2_step (L2_s hi) rfl (ct_X2_step (k := t.2.2.1) hi hx t9 t5) rfl rfl (Nat.le_of_ble_eq_true rfl) ⟨Nat.le_of_ble_eq_true rfl, Nat.le_of_ble_eq_true rfl⟩ ⟨Nat.le_of_ble_eq_true rfl, Nat.le_of_ble_eq_true rfl⟩ ⟨rfl, rfl⟩ dX2_takeSemicolon_11 ?_
    intro v I2 hv
    obtain ⟨rfl, q1, q7, q2⟩ := hv
    refine k_iconst C ic_1 dX2_takeSemicolon_14 ?_
    exact k_zret C (by first | rfl | exact am_bz) (Nat.le_of_ble_eq_true rfl) (Nat.le_of_ble_eq_true rfl) (⟨rfl, rfl, ⟨congrArg (fun z => some (Value.int z)) (am_bt (by omega)), fun _ => q1, fun z => absurd (by omega) z, q2⟩⟩) dX2_takeSemicolon_15
  · skip
    refine k_iconst C ic_0 dX2_takeSemicolon_8 ?_
    exact k_zret C (by first | rfl | exact am_bz) (Nat.le_of_ble_eq_true rfl) (Nat.le_of_ble_eq_true rfl) (⟨rfl, rfl, ⟨congrArg (fun z => some (Value.int z)) (am_bf (by omega)), fun z => absurd z (by omega), fun _ => rfl, InFr.rf⟩⟩) dX2_takeSemicolon_9
set_option maxHeartbeats 4000000 in
set_option maxRecDepth 100000 in
theorem ct_X2_isWord {G : am_G} {Λ : am_L} {I : am_I} {J : am_J} {i n : Nat} {tb : Nat → Nat} {t : sp_T} {si : Nat} (hi : InLay Λ i) (hx : InTxt I i tb n) (ht : InTok I i n t) (hsi : si < 43) : am_Ct G yX2_isWord cX2_isWord 3 (some .boolean) { frames := 4, cells := 0, slots := 0, locals := 85 } [.ref i, .ref (G.2.2.2.2.1 si)] Λ I J (am_pure (.int (am_b (sp_isw tb t si = true))) Λ I J) am_never := by
  refine am_ct_of (own := RX2) rfl (by decide) (Nat.le_of_ble_eq_true rfl) (fun X C => ?_)
  change am_K G X { frames := 4, cells := 0, slots := 0, locals := 85 } 3 Λ I J 0 0 0 [(0, .ref i), (1, .ref (G.2.2.2.2.1 si))] []
  obtain ⟨t3, t4, t5, t6, t7, t8, t9, t10⟩ := ht
  have hn := hx.2.1
  
  refine k_aload_n C (f := 0) (i := 0) (p := 0) rfl rfl dX2_isWord_0 ?_
  refine k_getI C f_X2_69 (L2_s (by assumption)) (fun _ _ _ => rfl) (by first | assumption | rfl) dX2_isWord_1 ?_
  refine k_iconst C ic_1 dX2_isWord_4 ?_
  first
  | refine k_icmpN_ne C (tgt := 24) (by omega) (by omega) (by decide) dX2_isWord_5 (fun hc5 => ?_) (fun hc5 => ?_)
  | refine k_icmp_ne C (tgt := 24) (by decide) dX2_isWord_5 (fun hc5 => ?_) (fun hc5 => ?_)
  · skip
    refine k_iconst C ic_0 dX2_isWord_24 ?_
    exact k_zret C (by first | rfl | exact am_bz) (Nat.le_of_ble_eq_true rfl) (Nat.le_of_ble_eq_true rfl) (⟨congrArg (fun z => some (Value.int z)) (am_bf (fun z => by have z2 := sp_isw_iff.mp z; omega)), rfl, rfl, rfl⟩) dX2_isWord_25
  · skip
    refine k_aload_n C (f := 0) (i := 0) (p := 0) rfl rfl dX2_isWord_8 ?_
    refine k_getI C f_X2_44 (L2_s (by assumption)) (fun _ _ _ => rfl) (by first | assumption | rfl) dX2_isWord_9 ?_
    refine k_aload_n C (f := 0) (i := 0) (p := 0) rfl rfl dX2_isWord_12 ?_
    refine k_getI C f_X2_72 (L2_s (by assumption)) (fun _ _ _ => rfl) (by first | assumption | rfl) dX2_isWord_13 ?_
    refine k_isub C dX2_isWord_16 ?_
    rw [pk_sub t8]
    refine k_aload_n C (f := 1) (i := 1) (p := 1) rfl rfl dX2_isWord_17 ?_
    refine k_callKp C s_X2_31 h_J0_length_8abf5 (hsi) (ct_J0_length_8abf5 hsi) rfl rfl (Nat.le_of_ble_eq_true rfl) ⟨Nat.le_of_ble_eq_true rfl, Nat.le_of_ble_eq_true rfl⟩ ⟨Nat.le_of_ble_eq_true rfl, Nat.le_of_ble_eq_true rfl⟩ ⟨rfl, rfl⟩ dX2_isWord_18 ?_
    have hslb := (am_sall si hsi).1
    first
    | refine k_icmpN_eq C (tgt := 26) (by omega) (by omega) (by decide) dX2_isWord_21 (fun hc21 => ?_) (fun hc21 => ?_)
    | refine k_icmp_eq C (tgt := 26) (by decide) dX2_isWord_21 (fun hc21 => ?_) (fun hc21 => ?_)
    · skip
      refine k_iconst C ic_0 dX2_isWord_26 ?_
      refine k_istore_n C (f := 2) (i := 2) (lv := [(2, _), (0, _), (1, _)]) rfl (Nat.le_of_ble_eq_true rfl) rfl dX2_isWord_27 ?_
      have loop28 : ∀ (f : Nat) (k : Nat), (k ≤ am_slen.getD si 0) → (∀ m : Nat, m < k → nI (tb (t.2.1 + m)) = am_ch si m) → (am_slen.getD si 0 - k) < f → am_K G X { frames := 4, cells := 0, slots := 0, locals := 85 } 3 Λ I J 0 0 28 [(0, .ref i), (1, .ref (G.2.2.2.2.1 si)), (2, .int (nI k))] [] := by
        intro f
        induction f with
        | zero => intro k hk hw hf; exact absurd hf (Nat.not_lt_zero _)
        | succ f ih28 =>
          intro k hk hw hf
          refine k_iload_n C (f := 2) (i := 2) (p := 2) rfl rfl dX2_isWord_28 ?_
          refine k_aload_n C (f := 1) (i := 1) (p := 1) rfl rfl dX2_isWord_29 ?_
          refine k_callKp C s_X2_31 h_J0_length_8abf5 (hsi) (ct_J0_length_8abf5 hsi) rfl rfl (Nat.le_of_ble_eq_true rfl) ⟨Nat.le_of_ble_eq_true rfl, Nat.le_of_ble_eq_true rfl⟩ ⟨Nat.le_of_ble_eq_true rfl, Nat.le_of_ble_eq_true rfl⟩ ⟨rfl, rfl⟩ dX2_isWord_30 ?_
          first
          | refine k_icmpN_ge C (tgt := 63) (by omega) (by omega) (by decide) dX2_isWord_33 (fun hc33 => ?_) (fun hc33 => ?_)
          | refine k_icmp_ge C (tgt := 63) (by decide) dX2_isWord_33 (fun hc33 => ?_) (fun hc33 => ?_)
          · skip
            refine k_iconst C ic_1 dX2_isWord_63 ?_
            exact k_zret C (by first | rfl | exact am_bz) (Nat.le_of_ble_eq_true rfl) (Nat.le_of_ble_eq_true rfl) (⟨congrArg (fun z => some (Value.int z)) (am_bt (sp_isw_iff.mpr ⟨by omega, by omega, fun m hm => hw m (by omega)⟩)), rfl, rfl, rfl⟩) dX2_isWord_64
          · skip
            refine k_aload_n C (f := 0) (i := 0) (p := 0) rfl rfl dX2_isWord_36 ?_
            refine k_getR C f_X2_9 (L2_s (by assumption)) (fun _ _ _ => rfl) (L2_0 (by assumption)) dX2_isWord_37 ?_
            refine k_aload_n C (f := 0) (i := 0) (p := 0) rfl rfl dX2_isWord_40 ?_
            refine k_getI C f_X2_72 (L2_s (by assumption)) (fun _ _ _ => rfl) (by first | assumption | rfl) dX2_isWord_41 ?_
            refine k_iload_n C (f := 2) (i := 2) (p := 2) rfl rfl dX2_isWord_44 ?_
            refine k_iadd C dX2_isWord_45 ?_
            rw [nI_add]
            refine k_bald C (A2_0 (by assumption)) (by first | rfl | assumption) (by omega) (by decide) ((hx.2.2 (t.2.1 + k) (by omega)).1) dX2_isWord_46 ?_
            refine k_aload_n C (f := 1) (i := 1) (p := 1) rfl rfl dX2_isWord_47 ?_
            refine k_iload_n C (f := 2) (i := 2) (p := 2) rfl rfl dX2_isWord_48 ?_
            refine k_callKp C s_X2_37 h_J0_charAt_5068e (hsi) (ct_J0_charAt_5068e hsi (by omega)) rfl rfl (Nat.le_of_ble_eq_true rfl) ⟨Nat.le_of_ble_eq_true rfl, Nat.le_of_ble_eq_true rfl⟩ ⟨Nat.le_of_ble_eq_true rfl, Nat.le_of_ble_eq_true rfl⟩ ⟨rfl, rfl⟩ dX2_isWord_49 ?_
            refine k_icmp_eq C (tgt := 57) (by decide) dX2_isWord_52 (fun hc52 => ?_) (fun hc52 => ?_)
            · skip
              have hb := (hx.2.2 (t.2.1 + k) (by omega)).2
              have hcc := am_cn_ok hsi (show k < am_slen.getD si 0 by omega)
              have hck : nI (tb (t.2.1 + k)) = am_ch si k := by
                rw [hcc.1] at hc52 ⊢
                rw [(sp_sbe hb hcc.2).mp hc52]
              refine k_iinc C (i := 2) (p := 2) (lv := [(2, _), (0, _), (1, _)]) (Nat.le_of_ble_eq_true rfl) rfl (by first | exact am_inc1 _ | rfl) rfl dX2_isWord_57 ?_
              refine k_goto C (tgt := 28) (by decide) dX2_isWord_60 ?_
              refine k_sub [1, 2, 0] rfl ?_
              exact ih28 (k + 1) (by omega) (fun m hm => by
                by_cases e : m = k
                · rw [e]; exact hck
                · exact hw m (by omega)) (by omega)
            · skip
              have hb := (hx.2.2 (t.2.1 + k) (by omega)).2
              have hcc := am_cn_ok hsi (show k < am_slen.getD si 0 by omega)
              have hck : ¬ nI (tb (t.2.1 + k)) = am_ch si k := by
                intro z
                rw [hcc.1] at hc52 z
                exact hc52 ((sp_sbe hb hcc.2).mpr ((nI_eq (by omega) (by omega)).mp z))
              refine k_iconst C ic_0 dX2_isWord_55 ?_
              exact k_zret C (by first | rfl | exact am_bz) (Nat.le_of_ble_eq_true rfl) (Nat.le_of_ble_eq_true rfl) (⟨congrArg (fun z => some (Value.int z)) (am_bf (fun z => by have z2 := sp_isw_iff.mp z; exact hck (z2.2.2 k (by omega)))), rfl, rfl, rfl⟩) dX2_isWord_56
      refine k_sub [1, 2, 0] rfl ?_
      exact loop28 (am_slen.getD si 0 + 1) 0 (Nat.zero_le _) (fun m h => absurd h (Nat.not_lt_zero m)) (by omega)
    · skip
      refine k_iconst C ic_0 dX2_isWord_24 ?_
      exact k_zret C (by first | rfl | exact am_bz) (Nat.le_of_ble_eq_true rfl) (Nat.le_of_ble_eq_true rfl) (⟨congrArg (fun z => some (Value.int z)) (am_bf (fun z => by have z2 := sp_isw_iff.mp z; omega)), rfl, rfl, rfl⟩) dX2_isWord_25
