/-! ===== the law: a text goes into the object, 20 bytes a call ===== -/
theorem nI_or (a b : Nat) : nI a ||| nI b = nI (a ||| b) := Int32.toBitVec.inj (by
  show BitVec.ofNat 32 a ||| BitVec.ofNat 32 b = BitVec.ofNat 32 (a ||| b)
  exact BitVec.ofNat_or.symm)
theorem ch255 : ∀ c : Nat, c < 128 → nI c &&& 255 = nI c := by decide +kernel
theorem ch_c {c : Nat} (h : c < 128) : ((nI c).toUInt32 % 65536).toInt32 = nI c := by rw [← ch255 c h]; exact sc_c2 _
theorem ch_nar {c : Nat} (h : c < 128) : narrow .char (.int (nI c)) = .int (nI c) := by rw [← ch255 c h]; exact sc_nar _
theorem shl_c : ∀ m : Nat, m < 4 → ∀ c : Nat, c < 128 → nI c <<< (nI (24 - 8 * m) &&& 31) = nI (c * 2 ^ (24 - 8 * m)) := by decide +kernel
/-- the first m bytes of a word of four -/
def wd (f : Nat → Nat) : Nat → Nat
  | 0 => 0
  | m + 1 => wd f m + f m * 2 ^ (24 - 8 * m)
theorem wd_or {f : Nat → Nat} {m : Nat} (hf : ∀ t : Nat, f t < 128) (hm : m < 4) : wd f m ||| f m * 2 ^ (24 - 8 * m) = wd f (m + 1) := by
  have h0 := hf 0
  have h1 := hf 1
  have h2 := hf 2
  have h3 := hf 3
  rcases (show m = 0 ∨ m = 1 ∨ m = 2 ∨ m = 3 by omega) with rfl | rfl | rfl | rfl
  · show 0 ||| f 0 * 2 ^ 24 = 0 + f 0 * 2 ^ 24
    rw [Nat.zero_or, Nat.zero_add]
  · have e := Nat.shiftLeft_add_eq_or_of_lt (i := 24) (b := f 1 * 2 ^ 16) (by omega) (f 0)
    rw [Nat.shiftLeft_eq] at e
    show 0 + f 0 * 2 ^ 24 ||| f 1 * 2 ^ 16 = 0 + f 0 * 2 ^ 24 + f 1 * 2 ^ 16
    rw [Nat.zero_add, e]
  · have e := Nat.shiftLeft_add_eq_or_of_lt (i := 16) (b := f 2 * 2 ^ 8) (by omega) (f 0 * 256 + f 1)
    rw [Nat.shiftLeft_eq, show (f 0 * 256 + f 1) * 2 ^ 16 = 0 + f 0 * 2 ^ 24 + f 1 * 2 ^ 16 from by rw [Nat.add_mul, Nat.mul_assoc, show (256 * 2 ^ 16 : Nat) = 2 ^ 24 from rfl, Nat.zero_add]] at e
    exact e.symm
  · have e := Nat.shiftLeft_add_eq_or_of_lt (i := 8) (b := f 3 * 2 ^ 0) (by omega) ((f 0 * 256 + f 1) * 256 + f 2)
    rw [Nat.shiftLeft_eq, show ((f 0 * 256 + f 1) * 256 + f 2) * 2 ^ 8 = 0 + f 0 * 2 ^ 24 + f 1 * 2 ^ 16 + f 2 * 2 ^ 8 from by rw [Nat.add_mul, Nat.mul_assoc (f 0 * 256 + f 1), show (256 * 2 ^ 8 : Nat) = 2 ^ 16 from rfl, Nat.add_mul, Nat.mul_assoc (f 0), show (256 * 2 ^ 16 : Nat) = 2 ^ 24 from rfl, Nat.zero_add]] at e
    exact e.symm
theorem byte_wd {f : Nat → Nat} (hf : ∀ t : Nat, f t < 128) {i : Nat} (hi : i < 4) : sp_byte (nI (wd f 4)) (24 - 8 * i) = f i := by
  have h0 := hf 0
  have h1 := hf 1
  have h2 := hf 2
  have h3 := hf 3
  have e : (nI (wd f 4)).toBitVec.toNat = 0 + f 0 * 2 ^ 24 + f 1 * 2 ^ 16 + f 2 * 2 ^ 8 + f 3 * 2 ^ 0 := by
    show (BitVec.ofNat 32 (0 + f 0 * 2 ^ 24 + f 1 * 2 ^ 16 + f 2 * 2 ^ 8 + f 3 * 2 ^ 0)).toNat = _
    rw [BitVec.toNat_ofNat]
    exact Nat.mod_eq_of_lt (by omega)
  unfold sp_byte
  rw [e]
  rcases (show i = 0 ∨ i = 1 ∨ i = 2 ∨ i = 3 by omega) with rfl | rfl | rfl | rfl
  · show _ / 2 ^ 24 % 256 = _
    omega
  · show _ / 2 ^ 16 % 256 = _
    omega
  · show _ / 2 ^ 8 % 256 = _
    omega
  · show _ / 2 ^ 0 % 256 = _
    omega
theorem tbs_wd {tb f : Nat → Nat} {n : Nat} (hf : ∀ t : Nat, f t < 128) (j : Nat) : sp_tbs tb n (nI (wd f 4)) 4 j = if n ≤ j ∧ j < n + 4 then f (j - n) else tb j := by
  have b0 := byte_wd hf (i := 0) (by decide)
  have b1 := byte_wd hf (i := 1) (by decide)
  have b2 := byte_wd hf (i := 2) (by decide)
  have b3 := byte_wd hf (i := 3) (by decide)
  show sp_tbp (sp_tbp (sp_tbp (sp_tbp tb (n + 0) (sp_byte (nI (wd f 4)) (24 - 8 * 0))) (n + 1) (sp_byte (nI (wd f 4)) (24 - 8 * 1))) (n + 2) (sp_byte (nI (wd f 4)) (24 - 8 * 2))) (n + 3) (sp_byte (nI (wd f 4)) (24 - 8 * 3)) j = _
  rw [b0, b1, b2, b3]
  unfold sp_tbp
  by_cases e3 : j = n + 3
  · rw [if_pos e3, if_pos (by omega), show j - n = 3 by omega]
  rw [if_neg e3]
  by_cases e2 : j = n + 2
  · rw [if_pos e2, if_pos (by omega), show j - n = 2 by omega]
  rw [if_neg e2]
  by_cases e1 : j = n + 1
  · rw [if_pos e1, if_pos (by omega), show j - n = 1 by omega]
  rw [if_neg e1]
  by_cases e0 : j = n + 0
  · rw [if_pos e0, if_pos (by omega), show j - n = 0 by omega]
  rw [if_neg e0, if_neg (by omega)]
/-- what a call of append puts behind the text -/
theorem feed5 {tb F : Nat → Nat} {n : Nat} (hF : ∀ t : Nat, F t < 128) (j : Nat) : sp_tbs (sp_tbs (sp_tbs (sp_tbs (sp_tbs tb n (nI (wd (fun t => F (4 * 0 + t)) 4)) 4) (n + 4) (nI (wd (fun t => F (4 * 1 + t)) 4)) 4) (n + 8) (nI (wd (fun t => F (4 * 2 + t)) 4)) 4) (n + 12) (nI (wd (fun t => F (4 * 3 + t)) 4)) 4) (n + 16) (nI (wd (fun t => F (4 * 4 + t)) 4)) 4 j = if n ≤ j ∧ j < n + 20 then F (j - n) else tb j := by
  rw [tbs_wd (fun t => hF _)]
  by_cases e4 : n + 16 ≤ j ∧ j < n + 16 + 4
  · rw [if_pos e4, if_pos (by omega)]
    exact congrArg F (by omega)
  rw [if_neg e4, tbs_wd (fun t => hF _)]
  by_cases e3 : n + 12 ≤ j ∧ j < n + 12 + 4
  · rw [if_pos e3, if_pos (by omega)]
    exact congrArg F (by omega)
  rw [if_neg e3, tbs_wd (fun t => hF _)]
  by_cases e2 : n + 8 ≤ j ∧ j < n + 8 + 4
  · rw [if_pos e2, if_pos (by omega)]
    exact congrArg F (by omega)
  rw [if_neg e2, tbs_wd (fun t => hF _)]
  by_cases e1 : n + 4 ≤ j ∧ j < n + 4 + 4
  · rw [if_pos e1, if_pos (by omega)]
    exact congrArg F (by omega)
  rw [if_neg e1, tbs_wd (fun t => hF _)]
  by_cases e0 : n ≤ j ∧ j < n + 4
  · rw [if_pos e0, if_pos (by omega)]
    exact congrArg F (by omega)
  rw [if_neg e0, if_neg (by omega)]
/-- a byte of the text, a space behind its end -/
def chT (l : List Nat) (i : Nat) : Nat := if i < l.length then gl l i else 32
theorem chT_b {l : List Nat} (h : ∀ j : Nat, j < l.length → gl l j < 128) (i : Nat) : chT l i < 128 := by
  unfold chT
  by_cases e : i < l.length
  · rw [if_pos e]; exact h i e
  · rw [if_neg e]; decide
theorem StAt.lk {Λ Λ2 : am_L} {I I2 : am_I} {x s sv w : Nat} {sx : Nat → Nat} (h : StAt Λ I s sv w sx) (hk : LK x Λ I Λ2 I2) (h1 : s < x ∨ x + 173 ≤ s) (h2 : sv < x ∨ x + 173 ≤ sv) : StAt Λ2 I2 s sv w sx := by
  obtain ⟨a1, a2, a3, a4, a5⟩ := h
  obtain ⟨b1, b2, b3⟩ := hk s (by rw [a1]; exact Nat.one_ne_zero)
  obtain ⟨c1, c2, c3⟩ := hk sv (by rw [a4.1]; exact Nat.succ_ne_zero _)
  have e1 := b3 h1
  have e2 := c3 h2
  exact ⟨b1.trans a1, by rw [b2]; exact a2, by rw [e1]; exact a3, ⟨c1.trans a4.1, a4.2.1, fun j hj => by rw [e2]; exact a4.2.2 j hj⟩, fun j hj => by rw [e2]; exact a5 j hj⟩
theorem inc20 (k : Nat) : nI (20 * k) + Int32.ofInt 20 = nI (20 * (k + 1)) := by
  rw [show (Int32.ofInt 20) = nI 20 from rfl, nI_add, show 20 * k + 20 = 20 * (k + 1) by omega]
theorem all128 {l : List Nat} (h : ∀ c ∈ l, c < 128) (j : Nat) (hj : j < l.length) : gl l j < 128 := by
  unfold gl
  rw [List.getD_eq_getElem?_getD, List.getElem?_eq_getElem hj]
  exact h _ (List.getElem_mem hj)
theorem a_app {l m : List Nat} (h : ∀ c ∈ l, c < 128) (g : ∀ c ∈ m, c < 128) : ∀ c ∈ l ++ m, c < 128 := fun c hc => (List.mem_append.mp hc).elim (h c) (g c)
theorem a_DL {v : Nat} (h : v < 1000) : ∀ c ∈ DL v, c < 128 := fun c hc => by
  have := sp_isD_iff.mp (DL_dig h c hc)
  omega
theorem a_32 : ∀ c ∈ [32], c < 128 := by decide
theorem a_59 : ∀ c ∈ [59], c < 128 := by decide
theorem a_W1 : ∀ c ∈ W1, c < 128 := by decide
theorem a_W2 : ∀ c ∈ W2, c < 128 := by decide
theorem a_W3 : ∀ c ∈ W3, c < 128 := by decide
theorem a_W4 : ∀ c ∈ W4, c < 128 := by decide
theorem a_W5 : ∀ c ∈ W5, c < 128 := by decide
theorem a_W6 : ∀ c ∈ W6, c < 128 := by decide
theorem a_3 {W : List Nat} {a b c : Nat} (hW : ∀ c ∈ W, c < 128) (ha : a < 1000) (hb : b < 1000) (hc : c < 1000) : ∀ x ∈ W ++ DL a ++ [32] ++ DL b ++ [32] ++ DL c ++ [59], x < 128 := a_app (a_app (a_app (a_app (a_app (a_app hW (a_DL ha)) a_32) (a_DL hb)) a_32) (a_DL hc)) a_59
theorem a_Cs : ∀ cs : L3, GC cs → ∀ x ∈ lnCs cs, x < 128
  | [], _ => fun _ h => absurd h List.not_mem_nil
  | (a, b, c) :: t, g => a_app (a_3 a_W2 (by have := g.1; omega) (by have := g.1; omega) (by have := g.1; omega)) (a_Cs t g.2)
theorem a_Ws : ∀ (ws : L3) (k : Nat), k + ws.length ≤ 3 → GW k ws → ∀ x ∈ lnWs ws, x < 128
  | [], _, _, _ => fun _ h => absurd h List.not_mem_nil
  | (a, b, c) :: t, k, hk, g => a_app (a_3 a_W3 (by have := g.1; simp at hk; omega) (by have := g.1; omega) (by have := g.1; omega)) (a_Ws t (k + 1) (by simp at hk; omega) g.2)
theorem a_Ss : ∀ ss : L3, GSt ss → ∀ x ∈ lnSs ss, x < 128
  | [], _ => fun _ h => absurd h List.not_mem_nil
  | (a, b, c) :: t, g => a_app (a_3 a_W4 (by have := g.1; omega) (by have := g.1; omega) (by have := g.1; omega)) (a_Ss t g.2)
theorem a_Ls {n : Nat} (hn : n ≤ 5) : ∀ (ls : LO) (fr : Nat → Nat), GL n fr ls → ∀ x ∈ lnLs ls, x < 128
  | [], _, _ => fun _ h => absurd h List.not_mem_nil
  | (a, b, none) :: t, fr, g => a_app (a_app (a_app (a_app (a_app a_W5 (a_DL (by have := g.1; omega))) a_32) (a_DL (by have := g.1; omega))) a_59) (a_Ls hn t _ g.2)
  | (a, b, some j) :: t, fr, g => a_app (a_app (a_app (a_app (a_app a_W5 (a_DL (by have := g.1; omega))) a_32) (a_DL (by have := g.1; omega))) (a_app (a_app a_W6 (a_DL (by have := (g.1.2.2.2.2 j rfl).1; omega))) a_59)) (a_Ls hn t _ g.2)
theorem Good_128 {l : List Nat} (h : GoodTx l) : ∀ j : Nat, j < l.length → gl l j < 128 := by
  obtain ⟨L, cs, ws, ss, ls, rfl, hL, hcs, hws, hss, hls, gC, gW, gS, gL⟩ := h
  exact all128 (a_app (a_app (a_app (a_app (a_app (a_app a_W1 (a_DL (by omega))) a_59) (a_Cs cs gC)) (a_Ws ws 0 (by omega) gW)) (a_Ss ss gS)) (a_Ls hcs.2 ls _ gL))
set_option maxHeartbeats 4000000 in
set_option maxRecDepth 100000 in
theorem ct_isLatin1D {G : am_G} {Λ : am_L} {I : am_I} {J : am_J} {s sv w : Nat} {sx : Nat → Nat} (hst : StAt Λ I s sv w sx) : am_Ct G yJ0_isLatin1_aae02 cJ0_isLatin1_aae02 1 (some .boolean) { frames := 0, cells := 0, slots := 0, locals := 0 } [.ref s] Λ I J (am_pure (.int 1) Λ I J) am_never := by
  refine am_ct_of (own := RJ0) rfl (by decide) (Nat.le_of_ble_eq_true rfl) (fun X C => ?_)
  change am_K G X { frames := 0, cells := 0, slots := 0, locals := 0 } 1 Λ I J 0 0 0 [(0, .ref s)] []
  refine k_scmp C f_J0_38 dJ0_isLatin1_aae02_0 ?_
  first
  | refine k_ifb_eq C (tgt := 17) (by decide) dJ0_isLatin1_aae02_3 (fun hc3 => ?_) (fun hc3 => ?_)
  | refine k_if_eq C (tgt := 17) (by decide) dJ0_isLatin1_aae02_3 (fun hc3 => ?_) (fun hc3 => ?_)
  · skip
    first
    | exact absurd hc3 (by decide)
    | exact absurd (by decide) hc3
  · skip
    refine k_aload_n C (f := 0) (i := 0) (p := 0) rfl rfl dJ0_isLatin1_aae02_6 ?_
    refine k_getI C fd_J0_15 hst.1 (fun _ _ _ => rfl) hst.2.2.1 dJ0_isLatin1_aae02_7 ?_
    first
    | refine k_ifb_ne C (tgt := 17) (by decide) dJ0_isLatin1_aae02_10 (fun hc10 => ?_) (fun hc10 => ?_)
    | refine k_if_ne C (tgt := 17) (by decide) dJ0_isLatin1_aae02_10 (fun hc10 => ?_) (fun hc10 => ?_)
    · skip
      first
      | exact absurd hc10 (by decide)
      | exact absurd (by decide) hc10
    · skip
      refine k_iconst C ic_1 dJ0_isLatin1_aae02_13 ?_
      refine k_goto C (tgt := 18) (by decide) dJ0_isLatin1_aae02_14 ?_
      exact k_zret C (rfl) (by show _ ≤ 0; (try dsimp only); omega) (by show _ ≤ 0; (try dsimp only); omega) (⟨rfl, rfl, rfl, rfl⟩) dJ0_isLatin1_aae02_18
set_option maxHeartbeats 4000000 in
set_option maxRecDepth 100000 in
theorem ct_J1_charAtD {G : am_G} {Λ : am_L} {I : am_I} {J : am_J} {sv w k c : Nat} (hba : BA Λ I sv w) (hv : I sv k = nI c) (hc : c < 128) (hk : k < w) : am_Ct G yJ1_charAt_3b067 cJ1_charAt_3b067 2 (some .char) { frames := 2, cells := 0, slots := 0, locals := 60 } [.ref sv, .int (nI k)] Λ I J (am_pure (.int (nI c)) Λ I J) am_never := by
  refine am_ct_of (own := RJ1) rfl (by decide) (Nat.le_of_ble_eq_true rfl) (fun X C => ?_)
  change am_K G X { frames := 2, cells := 0, slots := 0, locals := 60 } 2 Λ I J 0 0 0 [(0, .ref sv), (1, .int (nI k))] []
  have hw := hba.2.1
  refine k_iload_n C (f := 1) (i := 1) (p := 1) rfl rfl dJ1_charAt_3b067_0 ?_
  refine k_aload_n C (f := 0) (i := 0) (p := 0) rfl rfl dJ1_charAt_3b067_1 ?_
  refine k_lenB C (hba.1) dJ1_charAt_3b067_2 ?_
  refine k_callSg C s_J1_9 h_J0_checkIndex_df160 (ct_J0_checkIndex_df160 hk (show w < 2 ^ 31 by omega)) rfl rfl (Nat.le_of_ble_eq_true rfl) ⟨Nat.le_of_ble_eq_true rfl, Nat.le_of_ble_eq_true rfl⟩ ⟨Nat.le_of_ble_eq_true rfl, Nat.le_of_ble_eq_true rfl⟩ ⟨rfl, rfl⟩ dJ1_charAt_3b067_3 ?_
  intro v I3 hv3
  obtain ⟨rfl, rfl⟩ := hv3
  refine k_aload_n C (f := 0) (i := 0) (p := 0) rfl rfl dJ1_charAt_3b067_6 ?_
  refine k_iload_n C (f := 1) (i := 1) (p := 1) rfl rfl dJ1_charAt_3b067_7 ?_
  refine k_bald C hba.1 rfl hk (by omega) hv dJ1_charAt_3b067_8 ?_
  refine k_sipush C sc_255 dJ1_charAt_3b067_9 ?_
  refine k_iand C dJ1_charAt_3b067_12 ?_
  rw [show nI c &&& nI 255 = nI c from ch255 c hc]
  refine k_i2c C (ch_c hc) dJ1_charAt_3b067_13 ?_
  exact k_zret C (ch_nar hc) (by show _ ≤ 0; (try dsimp only); omega) (by show _ ≤ 0; (try dsimp only); omega) (⟨rfl, rfl, rfl, rfl⟩) dJ1_charAt_3b067_14
set_option maxHeartbeats 4000000 in
set_option maxRecDepth 100000 in
theorem ct_charAtD {G : am_G} {Λ : am_L} {I : am_I} {J : am_J} {s sv w k c : Nat} {sx : Nat → Nat} (hst : StAt Λ I s sv w sx) (hv : sx k = c) (hc : c < 128) (hk : k < w) : am_Ct G yJ0_charAt_5068e cJ0_charAt_5068e 2 (some .char) { frames := 3, cells := 0, slots := 0, locals := 100 } [.ref s, .int (nI k)] Λ I J (am_pure (.int (nI c)) Λ I J) am_never := by
  refine am_ct_of (own := RJ0) rfl (by decide) (Nat.le_of_ble_eq_true rfl) (fun X C => ?_)
  change am_K G X { frames := 3, cells := 0, slots := 0, locals := 100 } 2 Λ I J 0 0 0 [(0, .ref s), (1, .int (nI k))] []
  refine k_aload_n C (f := 0) (i := 0) (p := 0) rfl rfl dJ0_charAt_5068e_0 ?_
  refine k_callVq C s_J0_492 h_J0_isLatin1_aae02 (hst.1) rfl (ct_isLatin1D hst) rfl rfl (Nat.le_of_ble_eq_true rfl) ⟨Nat.le_of_ble_eq_true rfl, Nat.le_of_ble_eq_true rfl⟩ ⟨rfl, rfl⟩ ⟨by show _ ≤ 0; (try dsimp only); omega, by show _ ≤ 0; (try dsimp only); omega⟩ dJ0_charAt_5068e_1 ?_
  first
  | refine k_ifb_eq C (tgt := 16) (by decide) dJ0_charAt_5068e_4 (fun hc4 => ?_) (fun hc4 => ?_)
  | refine k_if_eq C (tgt := 16) (by decide) dJ0_charAt_5068e_4 (fun hc4 => ?_) (fun hc4 => ?_)
  · skip
    first
    | exact absurd hc4 (by decide)
    | exact absurd (by decide) hc4
  · skip
    refine k_aload_n C (f := 0) (i := 0) (p := 0) rfl rfl dJ0_charAt_5068e_7 ?_
    refine k_getR C fd_J0_9 hst.1 (fun _ _ _ => rfl) hst.2.1 dJ0_charAt_5068e_8 ?_
    refine k_iload_n C (f := 1) (i := 1) (p := 1) rfl rfl dJ0_charAt_5068e_11 ?_
    refine k_callSq C s_J0_495 h_J1_charAt_3b067 (ct_J1_charAtD hst.2.2.2.1 (by rw [hst.2.2.2.2 k hk, hv]) hc hk) rfl rfl (Nat.le_of_ble_eq_true rfl) ⟨Nat.le_of_ble_eq_true rfl, Nat.le_of_ble_eq_true rfl⟩ ⟨rfl, rfl⟩ ⟨by show _ ≤ 0; (try dsimp only); omega, by show _ ≤ 0; (try dsimp only); omega⟩ dJ0_charAt_5068e_12 ?_
    exact k_zret C (ch_nar hc) (by show _ ≤ 0; (try dsimp only); omega) (by show _ ≤ 0; (try dsimp only); omega) (⟨rfl, rfl, rfl, rfl⟩) dJ0_charAt_5068e_15
set_option maxHeartbeats 4000000 in
set_option maxRecDepth 100000 in
theorem ct_L_feeds {G : am_G} {Λ : am_L} {I : am_I} {J : am_J} {x s sv ct : Nat} {l : List Nat} {tb : Nat → Nat} {err : Int32} {r : Nat → Int32} {hs : Nat → Nat → Int32} {kp : Nat → Bool} {sn : Nat → Nat → Int32} {w : Nat × (Nat → Int32)} (hx : RouLay Λ x) (hR : RouRel I x tb 0 err r ct hs kp sn w) (hst : StAt Λ I s sv l.length (gl l)) (hl3 : l.length ≤ 300) (h128 : ∀ j : Nat, j < l.length → gl l j < 128) (ho1 : s < x ∨ x + 173 ≤ s) (ho2 : sv < x ∨ x + 173 ≤ sv) : am_Ct G yL_feeds cL_feeds 5 (some .boolean) { frames := 12, cells := 150, slots := 900, locals := 300 } [.ref x, .ref s] Λ I J (am_lk x Λ I (fun v I' => v = some (.int (nI 1)) ∧ ∃ tb' : Nat → Nat, RouRel I' x tb' l.length err r ct hs kp sn w ∧ ∀ j : Nat, j < l.length → tb' j = gl l j)) am_never := by
  refine am_ct_of (own := RL) rfl (by decide) (Nat.le_of_ble_eq_true rfl) (fun X C => ?_)
  change am_K G X { frames := 12, cells := 150, slots := 900, locals := 300 } 5 Λ I J 0 0 0 [(0, .ref x), (1, .ref s)] []
  have hct8 : l.length ≤ 300 := hl3
  have hch := chT_b h128
  refine k_iconst C ic_0 dL_feeds_0 ?_
  refine k_istore_n C (f := 2) (i := 2) (lv := [(2, _), (0, _), (1, _)]) rfl (Nat.le_of_ble_eq_true rfl) rfl dL_feeds_1 ?_
  have loop2 : ∀ (f : Nat) (k : Nat) (Λ1 : am_L) (S : am_I) (J1 : am_J) (tb1 : Nat → Nat), (20 * k < l.length + 20) → (LK x Λ I Λ1 S) → (RouRel S x tb1 (20 * k) err r ct hs kp sn w) → (∀ j : Nat, j < 20 * k → tb1 j = chT l j) → (16 - k) < f → am_K G X { frames := 12, cells := 150, slots := 900, locals := 300 } 5 Λ1 S J1 (7 * k) (41 * k) 2 [(2, .int (nI (20 * k))), (1, .ref s), (0, .ref x)] [] := by
    intro f
    induction f with
    | zero => intro k Λ1 S J1 tb1 hk hLK hR1 htb hf; exact absurd hf (Nat.not_lt_zero _)
    | succ f ih2 =>
      intro k Λ1 S J1 tb1 hk hLK hR1 htb hf
      have hst1 := hst.lk hLK ho1 ho2
      have hx1 := hLK.lay hx
      refine k_iload_n C (f := 2) (i := 2) (p := 0) rfl rfl dL_feeds_2 ?_
      refine k_aload_n C (f := 1) (i := 1) (p := 1) rfl rfl dL_feeds_3 ?_
      refine k_callVq C s_L_154 h_J0_length_8abf5 (hst1.1) rfl (ct_lengthD hst1) rfl rfl (Nat.le_of_ble_eq_true rfl) ⟨Nat.le_of_ble_eq_true rfl, Nat.le_of_ble_eq_true rfl⟩ ⟨rfl, rfl⟩ ⟨by show _ ≤ 150; (try dsimp only); omega, by show _ ≤ 900; (try dsimp only); omega⟩ dL_feeds_4 ?_
      first
      | refine k_icmpN_ge C (tgt := 110) (by omega) (by omega) (by decide) dL_feeds_7 (fun hc7 => ?_) (fun hc7 => ?_)
      | refine k_icmp_ge C (tgt := 110) (by decide) dL_feeds_7 (fun hc7 => ?_) (fun hc7 => ?_)
      · skip
        have hge : l.length ≤ 20 * k := by omega
        refine k_aload_n C (f := 0) (i := 0) (p := 2) rfl rfl dL_feeds_110 ?_
        refine k_bipush C bc_12 dL_feeds_111 ?_
        refine k_aload_n C (f := 1) (i := 1) (p := 1) rfl rfl dL_feeds_113 ?_
        refine k_callVq C s_L_154 h_J0_length_8abf5 (hst1.1) rfl (ct_lengthD hst1) rfl rfl (Nat.le_of_ble_eq_true rfl) ⟨Nat.le_of_ble_eq_true rfl, Nat.le_of_ble_eq_true rfl⟩ ⟨rfl, rfl⟩ ⟨by show _ ≤ 150; (try dsimp only); omega, by show _ ≤ 900; (try dsimp only); omega⟩ dL_feeds_114 ?_
        refine k_callSgq C s_L_163 h_L_call__ (ct_L_call__ (ct_c12 (a := nI l.length) (u1 := nI 0) (u2 := nI 0) (u3 := nI 0) (u4 := nI 0) hx1 hR1) (fun _ _ _ _ h => ⟨_, h.2.2.1⟩)) rfl rfl (Nat.le_of_ble_eq_true rfl) ⟨Nat.le_of_ble_eq_true rfl, Nat.le_of_ble_eq_true rfl⟩ ⟨rfl, rfl⟩ ⟨by show _ ≤ 150; (try dsimp only); omega, by show _ ≤ 900; (try dsimp only); omega⟩ dL_feeds_117 ?_
        intro v S5 hv
        obtain ⟨rfl, hv2, -⟩ := hv
        have hcd : (if nI l.length < 0 ∨ nI (20 * k) < nI l.length then 1 else 0) = 0 := if_neg (fun z => z.elim (nI_pos (by omega)) (nI_nlt (by omega) (by omega)))
        obtain ⟨hR5, hF5⟩ := hv2 hcd
        rw [if_pos hcd]
        rw [nI_clamp (show l.length < 2 ^ 31 by omega)] at hR5
        have hst5 := hst.lk (hLK.tr (LK.fr (Λ := Λ1) hF5)) ho1 ho2
        show am_K G X _ _ _ _ _ _ _ _ _ (.int (nI l.length) :: _)
        refine k_aload_n C (f := 1) (i := 1) (p := 1) rfl rfl dL_feeds_120 ?_
        refine k_callVq C s_L_154 h_J0_length_8abf5 (hst5.1) rfl (ct_lengthD hst5) rfl rfl (Nat.le_of_ble_eq_true rfl) ⟨Nat.le_of_ble_eq_true rfl, Nat.le_of_ble_eq_true rfl⟩ ⟨rfl, rfl⟩ ⟨by show _ ≤ 150; (try dsimp only); omega, by show _ ≤ 900; (try dsimp only); omega⟩ dL_feeds_121 ?_
        first
        | refine k_icmpN_ne C (tgt := 131) (by omega) (by omega) (by decide) dL_feeds_124 (fun hc124 => ?_) (fun hc124 => ?_)
        | refine k_icmp_ne C (tgt := 131) (by decide) dL_feeds_124 (fun hc124 => ?_) (fun hc124 => ?_)
        · skip
          first
          | omega
          | exact absurd hc124 (nI_ge (by omega) (by omega))
          | exact absurd hc124 (by decide)
          | exact absurd hc124 (nI_pos (by omega))
          | exact absurd (nI_pos' (by omega)) hc124
          | exact absurd rfl hc124
          | exact absurd hc124 (nI_ne0 (by omega) (by omega))
          | exact hc124 rfl
          | contradiction
          | exact absurd hc124 (nI_n101 (by omega))
          | exact absurd hc124.symm (nI_n101 (by omega))
          | (simp_all; done)
        · skip
          refine k_iconst C ic_1 dL_feeds_127 ?_
          refine k_goto C (tgt := 132) (by decide) dL_feeds_128 ?_
          exact k_zret C (by first | rfl | exact am_bz) (by show _ ≤ 150; (try dsimp only); omega) (by show _ ≤ 900; (try dsimp only); omega) (⟨hLK.tr (LK.fr (Λ := Λ1) hF5), rfl, tb1, hR5, fun j hj => (htb j (by omega)).trans (if_pos hj)⟩) dL_feeds_132
      · skip
        have hlt : 20 * k < l.length := by omega
        refine k_iconst C ic_5 dL_feeds_10 ?_
        refine k_newA2 C am_ar_i (rfl) (Nat.le_of_ble_eq_true rfl) (Or.inl ⟨rfl, rfl⟩) ⟨by show _ ≤ 150; (try dsimp only); omega, by show _ ≤ 900; (try dsimp only); omega⟩ dL_feeds_11 (fun h hh11 => ?_)
        have hLK2 := hLK.tr (LK.new (s := (2, 5)) (I := S) hh11)
        have hst2 := hst.lk hLK2 ho1 ho2
        have hx2 := hLK2.lay hx
        have hs2 : (am_nS Λ1 h (2, 5)).1 h = (2, 5) := nS_eq
        have hxh := Rou_new hx1 hh11
        have hsh : s ≠ h := fun e => by have := hh11 s (by rw [hst1.1]; exact Nat.one_ne_zero); omega
        have hvh : sv ≠ h := fun e => by have := hh11 sv (by rw [hst1.2.2.2.1.1]; exact Nat.succ_ne_zero _); omega
        have hI0 : ∀ j : Nat, am_nI S h h j = nI 0 := fun j => by rw [nI_new]; rfl
        have hk15 : k < 15 := by omega
        have hzh := fresh0 hh11
        have hR2 : RouRel (am_nI S h) x tb1 (20 * k) err r ct hs kp sn w := RouRel_agree hR1 (fun b g1 g2 => nI_old (by omega))
        generalize am_nS Λ1 h (2, 5) = Λ2 at hLK2 hst2 hx2 hs2 ⊢
        generalize am_nI S h = S2 at hLK2 hst2 hI0 hR2 ⊢
        generalize am_nJ J1 h = J2
        refine k_astore_n C (f := 3) (i := 3) (lv := [(3, _), (2, _), (1, _), (0, _)]) rfl (Nat.le_of_ble_eq_true rfl) rfl dL_feeds_13 ?_
        refine k_iconst C ic_0 dL_feeds_14 ?_
        refine k_istore C (i := 4) (lv := [(4, _), (3, _), (2, _), (1, _), (0, _)]) (Nat.le_of_ble_eq_true rfl) rfl dL_feeds_15 ?_
        have loop17 : ∀ (f : Nat) (j : Nat) (S3 : am_I), (j ≤ 20) → (∀ b : Nat, b ≠ h → S3 b = S2 b) → (∀ q : Nat, q < 5 → S3 h q = nI (wd (fun t => chT l (20 * k + (4 * q + t))) (min 4 (j - 4 * q)))) → (21 - j) < f → am_K G X { frames := 12, cells := 150, slots := 900, locals := 300 } 5 Λ2 S3 J2 (7 * k + 1) (41 * k + 5) 17 [(4, .int (nI j)), (3, .ref h), (2, .int (nI (20 * k))), (1, .ref s), (0, .ref x)] [] := by
          intro f
          induction f with
          | zero => intro j S3 hj hF hA hf; exact absurd hf (Nat.not_lt_zero _)
          | succ f ih17 =>
            intro j S3 hj hF hA hf
            have hst3 : StAt Λ2 S3 s sv l.length (gl l) := ⟨hst2.1, hst2.2.1, by rw [hF s hsh]; exact hst2.2.2.1, ⟨hst2.2.2.2.1.1, hst2.2.2.2.1.2.1, fun i hi => by rw [hF sv hvh]; exact hst2.2.2.2.1.2.2 i hi⟩, fun i hi => by rw [hF sv hvh]; exact hst2.2.2.2.2 i hi⟩
            refine k_iload C (i := 4) (p := 0) rfl dL_feeds_17 ?_
            refine k_bipush C bc_20 dL_feeds_19 ?_
            first
            | refine k_icmpN_ge C (tgt := 74) (by omega) (by omega) (by decide) dL_feeds_21 (fun hc21 => ?_) (fun hc21 => ?_)
            | refine k_icmp_ge C (tgt := 74) (by decide) dL_feeds_21 (fun hc21 => ?_) (fun hc21 => ?_)
            · skip
              obtain rfl : j = 20 := by omega
              have hB : ∀ q : Nat, q < 5 → S3 h q = nI (wd (fun t => chT l (20 * k + (4 * q + t))) 4) := fun q hq => by rw [hA q hq, show min 4 (20 - 4 * q) = 4 by omega]
              have hR2b : RouRel S3 x tb1 (20 * k) err r ct hs kp sn w := RouRel_agree hR2 (fun b g1 g2 => hF b (by omega))
              have hLK2b : LK x Λ I Λ2 S3 := fun a ha => by
                obtain ⟨b1, b2, b3⟩ := hLK2 a ha
                refine ⟨b1, b2, fun z => (hF a (fun e => ?_)).trans (b3 z)⟩
                rw [e] at ha
                by_cases z2 : (Λ1.1 h).1 = 0
                · exact ha (by rw [← (hLK h ha).1]; exact z2)
                · exact z2 hzh
              refine k_aload_n C (f := 0) (i := 0) (p := 4) rfl rfl dL_feeds_74 ?_
              refine k_bipush C bc_11 dL_feeds_75 ?_
              refine k_aload_n C (f := 3) (i := 3) (p := 1) rfl rfl dL_feeds_77 ?_
              refine k_iconst C ic_0 dL_feeds_78 ?_
              refine k_iald C (hs2) (rfl) (by omega) (by decide) (hB 0 (by omega)) dL_feeds_79 ?_
              refine k_aload_n C (f := 3) (i := 3) (p := 1) rfl rfl dL_feeds_80 ?_
              refine k_iconst C ic_1 dL_feeds_81 ?_
              refine k_iald C (hs2) (rfl) (by omega) (by decide) (hB 1 (by omega)) dL_feeds_82 ?_
              refine k_aload_n C (f := 3) (i := 3) (p := 1) rfl rfl dL_feeds_83 ?_
              refine k_iconst C ic_2 dL_feeds_84 ?_
              refine k_iald C (hs2) (rfl) (by omega) (by decide) (hB 2 (by omega)) dL_feeds_85 ?_
              refine k_aload_n C (f := 3) (i := 3) (p := 1) rfl rfl dL_feeds_86 ?_
              refine k_iconst C ic_3 dL_feeds_87 ?_
              refine k_iald C (hs2) (rfl) (by omega) (by decide) (hB 3 (by omega)) dL_feeds_88 ?_
              refine k_aload_n C (f := 3) (i := 3) (p := 1) rfl rfl dL_feeds_89 ?_
              refine k_iconst C ic_4 dL_feeds_90 ?_
              refine k_iald C (hs2) (rfl) (by omega) (by decide) (hB 4 (by omega)) dL_feeds_91 ?_
              refine k_callSH C s_L_150 h_L_callH (ct_c11 hx2 hR2b) rfl rfl (Nat.le_of_ble_eq_true rfl) ⟨Nat.le_of_ble_eq_true rfl, Nat.le_of_ble_eq_true rfl⟩ ⟨by show _ ≤ 150; (try dsimp only); omega, by show _ ≤ 900; (try dsimp only); omega⟩ dL_feeds_92 ?_ (fun _ _ _ _ h => h.elim)
              intro v Λ3 S4 J4 hv
              obtain ⟨rfl, rfl, rfl, hv2, -⟩ := hv
              have hcd : (if 700 < 20 * k + 20 then 1 else 0) = 0 := if_neg (by omega)
              obtain ⟨hR3, hF3⟩ := hv2 hcd
              rw [if_pos hcd]
              have hLK3 := hLK2b.tr (LK.fr (Λ := Λ3) hF3)
              show am_K G X _ _ _ _ _ _ _ _ _ (.int (nI (20 * k + 20)) :: _)
              refine k_iload_n C (f := 2) (i := 2) (p := 2) rfl rfl dL_feeds_95 ?_
              refine k_bipush C bc_20 dL_feeds_96 ?_
              refine k_iadd C dL_feeds_98 ?_
              rw [nI_add]
              first
              | refine k_icmpN_eq C (tgt := 104) (by omega) (by omega) (by decide) dL_feeds_99 (fun hc99 => ?_) (fun hc99 => ?_)
              | refine k_icmp_eq C (tgt := 104) (by decide) dL_feeds_99 (fun hc99 => ?_) (fun hc99 => ?_)
              · skip
                refine k_iinc C (i := 2) (p := 2) (lv := [(2, _), (4, _), (3, _), (1, _), (0, _)]) (Nat.le_of_ble_eq_true rfl) rfl (inc20 k) rfl dL_feeds_104 ?_
                refine k_goto C (tgt := 2) (by decide) dL_feeds_107 ?_
                refine k_sub [0, 3, 4] rfl ?_
                have htb2 : ∀ j : Nat, j < 20 * (k + 1) → (sp_tbs (sp_tbs (sp_tbs (sp_tbs (sp_tbs tb1 (20 * k) (nI (wd (fun t => chT l (20 * k + (4 * 0 + t))) 4)) 4) (20 * k + 4) (nI (wd (fun t => chT l (20 * k + (4 * 1 + t))) 4)) 4) (20 * k + 8) (nI (wd (fun t => chT l (20 * k + (4 * 2 + t))) 4)) 4) (20 * k + 12) (nI (wd (fun t => chT l (20 * k + (4 * 3 + t))) 4)) 4) (20 * k + 16) (nI (wd (fun t => chT l (20 * k + (4 * 4 + t))) 4)) 4) j = chT l j := fun j hj => by
                  refine (feed5 (F := fun i => chT l (20 * k + i)) (fun t => hch _) j).trans ?_
                  by_cases e : 20 * k ≤ j ∧ j < 20 * k + 20
                  · rw [if_pos e]
                    exact congrArg (chT l) (by omega)
                  · rw [if_neg e]
                    exact htb j (by omega)
                refine k_widen ?_ ?_ (ih2 (k + 1) _ _ _ _ (by omega) hLK3 hR3 htb2 (by omega))
                · (try dsimp only); omega
                · (try dsimp only); omega
              · skip
                first
                | omega
                | exact absurd hc99 (nI_ge (by omega) (by omega))
                | exact absurd hc99 (by decide)
                | exact absurd hc99 (nI_pos (by omega))
                | exact absurd (nI_pos' (by omega)) hc99
                | exact absurd rfl hc99
                | exact absurd hc99 (nI_ne0 (by omega) (by omega))
                | exact hc99 rfl
                | contradiction
                | exact absurd hc99 (nI_n101 (by omega))
                | exact absurd hc99.symm (nI_n101 (by omega))
                | (simp_all; done)
            · skip
              refine k_aload_n C (f := 3) (i := 3) (p := 1) rfl rfl dL_feeds_24 ?_
              refine k_iload C (i := 4) (p := 0) rfl dL_feeds_25 ?_
              refine k_iconst C ic_4 dL_feeds_27 ?_
              refine k_idiv C (by decide) dL_feeds_28 ?_
              rw [pk_div (by omega) (by omega) (by omega)]
              refine k_dup2 C rfl rfl dL_feeds_29 ?_
              refine k_iald C (hs2) (rfl) (by omega) (by decide) (hA (j / 4) (by omega)) dL_feeds_30 ?_
              rw [show min 4 (j - 4 * (j / 4)) = j % 4 by omega]
              refine k_iload_n C (f := 2) (i := 2) (p := 2) rfl rfl dL_feeds_31 ?_
              refine k_iload C (i := 4) (p := 0) rfl dL_feeds_32 ?_
              refine k_iadd C dL_feeds_34 ?_
              rw [nI_add]
              refine k_aload_n C (f := 1) (i := 1) (p := 3) rfl rfl dL_feeds_35 ?_
              refine k_callVq C s_L_154 h_J0_length_8abf5 (hst3.1) rfl (ct_lengthD hst3) rfl rfl (Nat.le_of_ble_eq_true rfl) ⟨Nat.le_of_ble_eq_true rfl, Nat.le_of_ble_eq_true rfl⟩ ⟨rfl, rfl⟩ ⟨by show _ ≤ 150; (try dsimp only); omega, by show _ ≤ 900; (try dsimp only); omega⟩ dL_feeds_36 ?_
              first
              | refine k_icmpN_ge C (tgt := 53) (by omega) (by omega) (by decide) dL_feeds_39 (fun hc39 => ?_) (fun hc39 => ?_)
              | refine k_icmp_ge C (tgt := 53) (by decide) dL_feeds_39 (fun hc39 => ?_) (fun hc39 => ?_)
              · skip
                have hcv : (32 : Nat) = chT l (20 * k + j) := (if_neg (by omega)).symm
                refine k_bipush C bc_32 dL_feeds_53 ?_
                rw [show nI 32 = nI (chT l (20 * k + j)) from congrArg nI hcv]
                refine k_bipush C bc_24 dL_feeds_55 ?_
                refine k_bipush C bc_8 dL_feeds_57 ?_
                refine k_iload C (i := 4) (p := 0) rfl dL_feeds_59 ?_
                refine k_iconst C ic_4 dL_feeds_61 ?_
                refine k_irem C (by decide) dL_feeds_62 ?_
                rw [pk_rem (by omega) (by omega) (by omega)]
                refine k_imul C dL_feeds_63 ?_
                rw [pk_mul]
                refine k_isub C dL_feeds_64 ?_
                rw [pk_sub (by omega)]
                refine k_ishl C dL_feeds_65 ?_
                rw [shl_c (j % 4) (by omega) _ (hch _)]
                refine k_ior C dL_feeds_66 ?_
                have e66 := wd_or (f := fun t => chT l (20 * k + (4 * (j / 4) + t))) (m := j % 4) (fun t => hch _) (by omega)
                (try dsimp only at e66)
                rw [show 20 * k + (4 * (j / 4) + j % 4) = 20 * k + j by omega] at e66
                rw [nI_or, e66]
                refine k_iast C (hs2) (rfl) (by omega) (by decide) dL_feeds_67 ?_
                refine k_iinc C (i := 4) (p := 0) (lv := [(4, _), (3, _), (2, _), (1, _), (0, _)]) (Nat.le_of_ble_eq_true rfl) rfl (by first | exact am_inc1 _ | rfl) rfl dL_feeds_68 ?_
                refine k_goto C (tgt := 17) (by decide) dL_feeds_71 ?_
                refine k_sub [0, 1, 2, 3, 4] rfl ?_
                refine k_widen ?_ ?_ (ih17 (j + 1) _ (by omega) (fun b hb => (am_up_ne hb).trans (hF b hb)) (fun q hq => by
                  by_cases e : q = j / 4
                  · rw [e, am_up_eq, show min 4 (j + 1 - 4 * (j / 4)) = j % 4 + 1 by omega]
                  · rw [am_up_n2 (fun z => e z.2), hA q hq, show min 4 (j + 1 - 4 * q) = min 4 (j - 4 * q) by omega]) (by omega))
                · (try dsimp only); omega
                · (try dsimp only); omega
              · skip
                have hcv : gl l (20 * k + j) = chT l (20 * k + j) := (if_pos (by omega)).symm
                refine k_aload_n C (f := 1) (i := 1) (p := 3) rfl rfl dL_feeds_42 ?_
                refine k_iload_n C (f := 2) (i := 2) (p := 2) rfl rfl dL_feeds_43 ?_
                refine k_iload C (i := 4) (p := 0) rfl dL_feeds_44 ?_
                refine k_iadd C dL_feeds_46 ?_
                rw [nI_add]
                refine k_callVq C s_L_159 h_J0_charAt_5068e (hst3.1) rfl (ct_charAtD (c := chT l (20 * k + j)) hst3 hcv (hch _) (by omega)) rfl rfl (Nat.le_of_ble_eq_true rfl) ⟨Nat.le_of_ble_eq_true rfl, Nat.le_of_ble_eq_true rfl⟩ ⟨rfl, rfl⟩ ⟨by show _ ≤ 150; (try dsimp only); omega, by show _ ≤ 900; (try dsimp only); omega⟩ dL_feeds_47 ?_
                refine k_goto C (tgt := 55) (by decide) dL_feeds_50 ?_
                refine k_bipush C bc_24 dL_feeds_55 ?_
                refine k_bipush C bc_8 dL_feeds_57 ?_
                refine k_iload C (i := 4) (p := 0) rfl dL_feeds_59 ?_
                refine k_iconst C ic_4 dL_feeds_61 ?_
                refine k_irem C (by decide) dL_feeds_62 ?_
                rw [pk_rem (by omega) (by omega) (by omega)]
                refine k_imul C dL_feeds_63 ?_
                rw [pk_mul]
                refine k_isub C dL_feeds_64 ?_
                rw [pk_sub (by omega)]
                refine k_ishl C dL_feeds_65 ?_
                rw [shl_c (j % 4) (by omega) _ (hch _)]
                refine k_ior C dL_feeds_66 ?_
                have e66 := wd_or (f := fun t => chT l (20 * k + (4 * (j / 4) + t))) (m := j % 4) (fun t => hch _) (by omega)
                (try dsimp only at e66)
                rw [show 20 * k + (4 * (j / 4) + j % 4) = 20 * k + j by omega] at e66
                rw [nI_or, e66]
                refine k_iast C (hs2) (rfl) (by omega) (by decide) dL_feeds_67 ?_
                refine k_iinc C (i := 4) (p := 0) (lv := [(4, _), (3, _), (2, _), (1, _), (0, _)]) (Nat.le_of_ble_eq_true rfl) rfl (by first | exact am_inc1 _ | rfl) rfl dL_feeds_68 ?_
                refine k_goto C (tgt := 17) (by decide) dL_feeds_71 ?_
                refine k_sub [0, 1, 2, 3, 4] rfl ?_
                refine k_widen ?_ ?_ (ih17 (j + 1) _ (by omega) (fun b hb => (am_up_ne hb).trans (hF b hb)) (fun q hq => by
                  by_cases e : q = j / 4
                  · rw [e, am_up_eq, show min 4 (j + 1 - 4 * (j / 4)) = j % 4 + 1 by omega]
                  · rw [am_up_n2 (fun z => e z.2), hA q hq, show min 4 (j + 1 - 4 * q) = min 4 (j - 4 * q) by omega]) (by omega))
                · (try dsimp only); omega
                · (try dsimp only); omega
        refine k_sub [0, 1, 2, 3, 4] rfl ?_
        refine k_widen ?_ ?_ (loop17 22 0 S2 (Nat.zero_le _) (fun _ _ => rfl) (fun q hq => by rw [hI0 q, show min 4 (0 - 4 * q) = 0 by omega]; rfl) (by omega))
        · (try dsimp only); omega
        · (try dsimp only); omega
  refine k_sub [0, 2, 1] rfl ?_
  refine k_widen ?_ ?_ (loop2 17 0 Λ I J tb (by omega) LK.rf hR (fun j hj => absurd hj (Nat.not_lt_zero j)) (by omega))
  · (try dsimp only); omega
  · (try dsimp only); omega
